theorem dX5_softest_13 : decode cX5_softest 13 = .ok (.ifCond .ne 10, 3) := by decide +kernel
theorem dX5_softest_16 : decode cX5_softest 16 = .ok (.aload_n 0, 1) := by decide +kernel
theorem dX5_softest_17 : decode cX5_softest 17 = .ok (.bipush (-2), 2) := by decide +kernel
theorem dX5_softest_19 : decode cX5_softest 19 = .ok (.invokevirtual 78, 3) := by decide +kernel
theorem dX5_softest_22 : decode cX5_softest 22 = .ok (.ireturn, 1) := by decide +kernel
theorem dX5_softest_23 : decode cX5_softest 23 = .ok (.aload_n 0, 1) := by decide +kernel
theorem dX5_softest_24 : decode cX5_softest 24 = .ok (.iload_n 1, 1) := by decide +kernel
theorem dX5_softest_25 : decode cX5_softest 25 = .ok (.invokevirtual 202, 3) := by decide +kernel
theorem dX5_softest_28 : decode cX5_softest 28 = .ok (.iconst 0, 1) := by decide +kernel
theorem dX5_softest_29 : decode cX5_softest 29 = .ok (.istore_n 3, 1) := by decide +kernel
theorem dX5_softest_30 : decode cX5_softest 30 = .ok (.aload_n 0, 1) := by decide +kernel
theorem dX5_softest_31 : decode cX5_softest 31 = .ok (.iload_n 3, 1) := by decide +kernel
theorem dX5_softest_32 : decode cX5_softest 32 = .ok (.invokevirtual 215, 3) := by decide +kernel
theorem dX5_softest_35 : decode cX5_softest 35 = .ok (.ifCond .ne 9, 3) := by decide +kernel
theorem dX5_softest_38 : decode cX5_softest 38 = .ok (.iinc 3 1, 3) := by decide +kernel
theorem dX5_softest_41 : decode cX5_softest 41 = .ok (.goto (-11), 3) := by decide +kernel
theorem dX5_softest_44 : decode cX5_softest 44 = .ok (.aload_n 0, 1) := by decide +kernel
theorem dX5_softest_45 : decode cX5_softest 45 = .ok (.invokevirtual 218, 3) := by decide +kernel
theorem dX5_softest_48 : decode cX5_softest 48 = .ok (.iload_n 2, 1) := by decide +kernel
theorem dX5_softest_49 : decode cX5_softest 49 = .ok (.iconst (-1), 1) := by decide +kernel
theorem dX5_softest_50 : decode cX5_softest 50 = .ok (.if_icmp .ne 7, 3) := by decide +kernel
theorem dX5_softest_53 : decode cX5_softest 53 = .ok (.iload_n 3, 1) := by decide +kernel
theorem dX5_softest_54 : decode cX5_softest 54 = .ok (.goto 9, 3) := by decide +kernel
theorem dX5_softest_57 : decode cX5_softest 57 = .ok (.aload_n 0, 1) := by decide +kernel
theorem dX5_softest_58 : decode cX5_softest 58 = .ok (.getfield 54, 3) := by decide +kernel
theorem dX5_softest_61 : decode cX5_softest 61 = .ok (.iload_n 2, 1) := by decide +kernel
theorem dX5_softest_62 : decode cX5_softest 62 = .ok (.iaload, 1) := by decide +kernel
theorem dX5_softest_63 : decode cX5_softest 63 = .ok (.ireturn, 1) := by decide +kernel
theorem dX5_unheardBy_0 : decode cX5_unheardBy 0 = .ok (.aload_n 0, 1) := by decide +kernel
theorem dX5_unheardBy_1 : decode cX5_unheardBy 1 = .ok (.iload_n 1, 1) := by decide +kernel
theorem dX5_unheardBy_2 : decode cX5_unheardBy 2 = .ok (.invokevirtual 202, 3) := by decide +kernel
theorem dX5_unheardBy_5 : decode cX5_unheardBy 5 = .ok (.aload_n 0, 1) := by decide +kernel
theorem dX5_unheardBy_6 : decode cX5_unheardBy 6 = .ok (.aload_n 0, 1) := by decide +kernel
theorem dX5_unheardBy_7 : decode cX5_unheardBy 7 = .ok (.getfield 61, 3) := by decide +kernel
theorem dX5_unheardBy_10 : decode cX5_unheardBy 10 = .ok (.iconst 1, 1) := by decide +kernel
theorem dX5_unheardBy_11 : decode cX5_unheardBy 11 = .ok (.isub, 1) := by decide +kernel
theorem dX5_unheardBy_12 : decode cX5_unheardBy 12 = .ok (.invokevirtual 215, 3) := by decide +kernel
theorem dX5_unheardBy_15 : decode cX5_unheardBy 15 = .ok (.ireturn, 1) := by decide +kernel
theorem dX5_unheard_0 : decode cX5_unheard 0 = .ok (.aload_n 0, 1) := by decide +kernel
theorem dX5_unheard_1 : decode cX5_unheard 1 = .ok (.iload_n 1, 1) := by decide +kernel
theorem dX5_unheard_2 : decode cX5_unheard 2 = .ok (.invokevirtual 92, 3) := by decide +kernel
theorem dX5_unheard_5 : decode cX5_unheard 5 = .ok (.ifCond .eq 11, 3) := by decide +kernel
theorem dX5_unheard_8 : decode cX5_unheard 8 = .ok (.aload_n 0, 1) := by decide +kernel
theorem dX5_unheard_9 : decode cX5_unheard 9 = .ok (.iload_n 2, 1) := by decide +kernel
theorem dX5_unheard_10 : decode cX5_unheard 10 = .ok (.invokevirtual 209, 3) := by decide +kernel
theorem dX5_unheard_13 : decode cX5_unheard 13 = .ok (.ifCond .ne 10, 3) := by decide +kernel
theorem dX5_unheard_16 : decode cX5_unheard 16 = .ok (.aload_n 0, 1) := by decide +kernel
theorem dX5_unheard_17 : decode cX5_unheard 17 = .ok (.bipush (-2), 2) := by decide +kernel
theorem dX5_unheard_19 : decode cX5_unheard 19 = .ok (.invokevirtual 78, 3) := by decide +kernel
theorem dX5_unheard_22 : decode cX5_unheard 22 = .ok (.ireturn, 1) := by decide +kernel
theorem dX5_unheard_23 : decode cX5_unheard 23 = .ok (.aload_n 0, 1) := by decide +kernel
theorem dX5_unheard_24 : decode cX5_unheard 24 = .ok (.iload_n 1, 1) := by decide +kernel
theorem dX5_unheard_25 : decode cX5_unheard 25 = .ok (.invokevirtual 221, 3) := by decide +kernel
theorem dX5_unheard_28 : decode cX5_unheard 28 = .ok (.istore_n 3, 1) := by decide +kernel
theorem dX5_unheard_29 : decode cX5_unheard 29 = .ok (.iload_n 2, 1) := by decide +kernel
theorem dX5_unheard_30 : decode cX5_unheard 30 = .ok (.iconst (-1), 1) := by decide +kernel
theorem dX5_unheard_31 : decode cX5_unheard 31 = .ok (.if_icmp .ne 5, 3) := by decide +kernel
theorem dX5_unheard_34 : decode cX5_unheard 34 = .ok (.iload_n 3, 1) := by decide +kernel
theorem dX5_unheard_35 : decode cX5_unheard 35 = .ok (.ireturn, 1) := by decide +kernel
theorem dX5_unheard_36 : decode cX5_unheard 36 = .ok (.iload_n 3, 1) := by decide +kernel
theorem dX5_unheard_37 : decode cX5_unheard 37 = .ok (.ifCond .ne 10, 3) := by decide +kernel
theorem dX5_unheard_40 : decode cX5_unheard 40 = .ok (.aload_n 0, 1) := by decide +kernel
theorem dX5_unheard_41 : decode cX5_unheard 41 = .ok (.bipush (-5), 2) := by decide +kernel
theorem dX5_unheard_43 : decode cX5_unheard 43 = .ok (.invokevirtual 78, 3) := by decide +kernel
theorem dX5_unheard_46 : decode cX5_unheard 46 = .ok (.ireturn, 1) := by decide +kernel
theorem dX5_unheard_47 : decode cX5_unheard 47 = .ok (.aload_n 0, 1) := by decide +kernel
theorem dX5_unheard_48 : decode cX5_unheard 48 = .ok (.invokevirtual 218, 3) := by decide +kernel
theorem dX5_unheard_51 : decode cX5_unheard 51 = .ok (.aload_n 0, 1) := by decide +kernel
theorem dX5_unheard_52 : decode cX5_unheard 52 = .ok (.getfield 54, 3) := by decide +kernel
theorem dX5_unheard_55 : decode cX5_unheard 55 = .ok (.iload_n 2, 1) := by decide +kernel
theorem dX5_unheard_56 : decode cX5_unheard 56 = .ok (.iaload, 1) := by decide +kernel
theorem dX5_unheard_57 : decode cX5_unheard 57 = .ok (.ireturn, 1) := by decide +kernel
theorem dX5_isSo_0 : decode cX5_isSo 0 = .ok (.aload_n 0, 1) := by decide +kernel
theorem dX5_isSo_1 : decode cX5_isSo 1 = .ok (.iload_n 1, 1) := by decide +kernel
theorem dX5_isSo_2 : decode cX5_isSo 2 = .ok (.invokevirtual 221, 3) := by decide +kernel
theorem dX5_isSo_5 : decode cX5_isSo 5 = .ok (.ifCond .le 7, 3) := by decide +kernel
theorem dX5_isSo_8 : decode cX5_isSo 8 = .ok (.iconst 1, 1) := by decide +kernel
theorem dX5_isSo_9 : decode cX5_isSo 9 = .ok (.goto 4, 3) := by decide +kernel
theorem dX5_isSo_12 : decode cX5_isSo 12 = .ok (.iconst 0, 1) := by decide +kernel
theorem dX5_isSo_13 : decode cX5_isSo 13 = .ok (.iload_n 2, 1) := by decide +kernel
theorem dX5_isSo_14 : decode cX5_isSo 14 = .ok (.if_icmp .ne 7, 3) := by decide +kernel
theorem dX5_isSo_17 : decode cX5_isSo 17 = .ok (.iconst 1, 1) := by decide +kernel
theorem dX5_isSo_18 : decode cX5_isSo 18 = .ok (.goto 4, 3) := by decide +kernel
theorem dX5_isSo_21 : decode cX5_isSo 21 = .ok (.iconst 0, 1) := by decide +kernel
theorem dX5_isSo_22 : decode cX5_isSo 22 = .ok (.ireturn, 1) := by decide +kernel
theorem dX5_fewest_0 : decode cX5_fewest 0 = .ok (.aload_n 0, 1) := by decide +kernel
theorem dX5_fewest_1 : decode cX5_fewest 1 = .ok (.iload_n 1, 1) := by decide +kernel
theorem dX5_fewest_2 : decode cX5_fewest 2 = .ok (.iload_n 3, 1) := by decide +kernel
theorem dX5_fewest_3 : decode cX5_fewest 3 = .ok (.invokevirtual 224, 3) := by decide +kernel
theorem dX5_fewest_6 : decode cX5_fewest 6 = .ok (.ifCond .eq 5, 3) := by decide +kernel
theorem dX5_fewest_9 : decode cX5_fewest 9 = .ok (.iconst 0, 1) := by decide +kernel
theorem dX5_fewest_10 : decode cX5_fewest 10 = .ok (.ireturn, 1) := by decide +kernel
theorem dX5_fewest_11 : decode cX5_fewest 11 = .ok (.iconst 0, 1) := by decide +kernel
theorem dX5_fewest_12 : decode cX5_fewest 12 = .ok (.istore 4, 2) := by decide +kernel
theorem dX5_fewest_14 : decode cX5_fewest 14 = .ok (.iload 4, 2) := by decide +kernel
theorem dX5_fewest_16 : decode cX5_fewest 16 = .ok (.aload_n 0, 1) := by decide +kernel
theorem dX5_fewest_17 : decode cX5_fewest 17 = .ok (.getfield 57, 3) := by decide +kernel
theorem dX5_fewest_20 : decode cX5_fewest 20 = .ok (.aload_n 0, 1) := by decide +kernel
theorem dX5_fewest_21 : decode cX5_fewest 21 = .ok (.getfield 57, 3) := by decide +kernel
theorem dX5_fewest_24 : decode cX5_fewest 24 = .ok (.imul, 1) := by decide +kernel
theorem dX5_fewest_25 : decode cX5_fewest 25 = .ok (.if_icmp .ge 58, 3) := by decide +kernel
theorem dX5_fewest_28 : decode cX5_fewest 28 = .ok (.aload_n 0, 1) := by decide +kernel
theorem dX5_fewest_29 : decode cX5_fewest 29 = .ok (.getfield 7, 3) := by decide +kernel
theorem dX5_fewest_32 : decode cX5_fewest 32 = .ok (.iload 4, 2) := by decide +kernel
theorem dX5_fewest_34 : decode cX5_fewest 34 = .ok (.iaload, 1) := by decide +kernel
theorem dX5_fewest_35 : decode cX5_fewest 35 = .ok (.istore 5, 2) := by decide +kernel
theorem dX5_fewest_37 : decode cX5_fewest 37 = .ok (.aload_n 0, 1) := by decide +kernel
theorem dX5_fewest_38 : decode cX5_fewest 38 = .ok (.getfield 7, 3) := by decide +kernel
theorem dX5_fewest_41 : decode cX5_fewest 41 = .ok (.iload 4, 2) := by decide +kernel
theorem dX5_fewest_43 : decode cX5_fewest 43 = .ok (.iload_n 2, 1) := by decide +kernel
theorem dX5_fewest_44 : decode cX5_fewest 44 = .ok (.iastore, 1) := by decide +kernel
theorem dX5_fewest_45 : decode cX5_fewest 45 = .ok (.aload_n 0, 1) := by decide +kernel
theorem dX5_fewest_46 : decode cX5_fewest 46 = .ok (.iload_n 1, 1) := by decide +kernel
theorem dX5_fewest_47 : decode cX5_fewest 47 = .ok (.iload_n 3, 1) := by decide +kernel
theorem dX5_fewest_48 : decode cX5_fewest 48 = .ok (.invokevirtual 224, 3) := by decide +kernel
theorem dX5_fewest_51 : decode cX5_fewest 51 = .ok (.istore 6, 2) := by decide +kernel
theorem dX5_fewest_53 : decode cX5_fewest 53 = .ok (.aload_n 0, 1) := by decide +kernel
theorem dX5_fewest_54 : decode cX5_fewest 54 = .ok (.getfield 7, 3) := by decide +kernel
theorem dX5_fewest_57 : decode cX5_fewest 57 = .ok (.iload 4, 2) := by decide +kernel
theorem dX5_fewest_59 : decode cX5_fewest 59 = .ok (.iload 5, 2) := by decide +kernel
theorem dX5_fewest_61 : decode cX5_fewest 61 = .ok (.iastore, 1) := by decide +kernel
theorem dX5_fewest_62 : decode cX5_fewest 62 = .ok (.iload 6, 2) := by decide +kernel
theorem dX5_fewest_64 : decode cX5_fewest 64 = .ok (.ifCond .eq 13, 3) := by decide +kernel
theorem dX5_fewest_67 : decode cX5_fewest 67 = .ok (.sipush 10000, 3) := by decide +kernel
theorem dX5_fewest_70 : decode cX5_fewest 70 = .ok (.bipush 100, 2) := by decide +kernel
theorem dX5_fewest_72 : decode cX5_fewest 72 = .ok (.iload 4, 2) := by decide +kernel
theorem dX5_fewest_74 : decode cX5_fewest 74 = .ok (.imul, 1) := by decide +kernel
theorem dX5_fewest_75 : decode cX5_fewest 75 = .ok (.iadd, 1) := by decide +kernel
theorem dX5_fewest_76 : decode cX5_fewest 76 = .ok (.ireturn, 1) := by decide +kernel
theorem dX5_fewest_77 : decode cX5_fewest 77 = .ok (.iinc 4 1, 3) := by decide +kernel
theorem dX5_fewest_80 : decode cX5_fewest 80 = .ok (.goto (-66), 3) := by decide +kernel
theorem dX5_fewest_83 : decode cX5_fewest 83 = .ok (.iconst 0, 1) := by decide +kernel
theorem dX5_fewest_84 : decode cX5_fewest 84 = .ok (.istore 4, 2) := by decide +kernel
theorem dX5_fewest_86 : decode cX5_fewest 86 = .ok (.iload 4, 2) := by decide +kernel
theorem dX5_fewest_88 : decode cX5_fewest 88 = .ok (.aload_n 0, 1) := by decide +kernel
theorem dX5_fewest_89 : decode cX5_fewest 89 = .ok (.getfield 57, 3) := by decide +kernel
theorem dX5_fewest_92 : decode cX5_fewest 92 = .ok (.aload_n 0, 1) := by decide +kernel
theorem dX5_fewest_93 : decode cX5_fewest 93 = .ok (.getfield 57, 3) := by decide +kernel
theorem dX5_fewest_96 : decode cX5_fewest 96 = .ok (.imul, 1) := by decide +kernel
theorem dX5_fewest_97 : decode cX5_fewest 97 = .ok (.if_icmp .ge 113, 3) := by decide +kernel
theorem dX5_fewest_100 : decode cX5_fewest 100 = .ok (.iload 4, 2) := by decide +kernel
theorem dX5_fewest_102 : decode cX5_fewest 102 = .ok (.iconst 1, 1) := by decide +kernel
theorem dX5_fewest_103 : decode cX5_fewest 103 = .ok (.iadd, 1) := by decide +kernel
theorem dX5_fewest_104 : decode cX5_fewest 104 = .ok (.istore 5, 2) := by decide +kernel
theorem dX5_fewest_106 : decode cX5_fewest 106 = .ok (.iload 5, 2) := by decide +kernel
theorem dX5_fewest_108 : decode cX5_fewest 108 = .ok (.aload_n 0, 1) := by decide +kernel
theorem dX5_fewest_109 : decode cX5_fewest 109 = .ok (.getfield 57, 3) := by decide +kernel
theorem dX5_fewest_112 : decode cX5_fewest 112 = .ok (.aload_n 0, 1) := by decide +kernel
theorem dX5_fewest_113 : decode cX5_fewest 113 = .ok (.getfield 57, 3) := by decide +kernel
theorem dX5_fewest_116 : decode cX5_fewest 116 = .ok (.imul, 1) := by decide +kernel
theorem dX5_fewest_117 : decode cX5_fewest 117 = .ok (.if_icmp .ge 87, 3) := by decide +kernel
theorem dX5_fewest_120 : decode cX5_fewest 120 = .ok (.aload_n 0, 1) := by decide +kernel
theorem dX5_fewest_121 : decode cX5_fewest 121 = .ok (.getfield 7, 3) := by decide +kernel
theorem dX5_fewest_124 : decode cX5_fewest 124 = .ok (.iload 4, 2) := by decide +kernel
theorem dX5_fewest_126 : decode cX5_fewest 126 = .ok (.iaload, 1) := by decide +kernel
theorem dX5_fewest_127 : decode cX5_fewest 127 = .ok (.istore 6, 2) := by decide +kernel
theorem dX5_fewest_129 : decode cX5_fewest 129 = .ok (.aload_n 0, 1) := by decide +kernel
theorem dX5_fewest_130 : decode cX5_fewest 130 = .ok (.getfield 7, 3) := by decide +kernel
theorem dX5_fewest_133 : decode cX5_fewest 133 = .ok (.iload 5, 2) := by decide +kernel
theorem dX5_fewest_135 : decode cX5_fewest 135 = .ok (.iaload, 1) := by decide +kernel
theorem dX5_fewest_136 : decode cX5_fewest 136 = .ok (.istore 7, 2) := by decide +kernel
theorem dX5_fewest_138 : decode cX5_fewest 138 = .ok (.aload_n 0, 1) := by decide +kernel
theorem dX5_fewest_139 : decode cX5_fewest 139 = .ok (.getfield 7, 3) := by decide +kernel
theorem dX5_fewest_142 : decode cX5_fewest 142 = .ok (.iload 4, 2) := by decide +kernel
theorem dX5_fewest_144 : decode cX5_fewest 144 = .ok (.iload_n 2, 1) := by decide +kernel
theorem dX5_fewest_145 : decode cX5_fewest 145 = .ok (.iastore, 1) := by decide +kernel
theorem dX5_fewest_146 : decode cX5_fewest 146 = .ok (.aload_n 0, 1) := by decide +kernel
theorem dX5_fewest_147 : decode cX5_fewest 147 = .ok (.getfield 7, 3) := by decide +kernel
theorem dX5_fewest_150 : decode cX5_fewest 150 = .ok (.iload 5, 2) := by decide +kernel
theorem dX5_fewest_152 : decode cX5_fewest 152 = .ok (.iload_n 2, 1) := by decide +kernel
theorem dX5_fewest_153 : decode cX5_fewest 153 = .ok (.iastore, 1) := by decide +kernel
theorem dX5_fewest_154 : decode cX5_fewest 154 = .ok (.aload_n 0, 1) := by decide +kernel
theorem dX5_fewest_155 : decode cX5_fewest 155 = .ok (.iload_n 1, 1) := by decide +kernel
theorem dX5_fewest_156 : decode cX5_fewest 156 = .ok (.iload_n 3, 1) := by decide +kernel
theorem dX5_fewest_157 : decode cX5_fewest 157 = .ok (.invokevirtual 224, 3) := by decide +kernel
theorem dX5_fewest_160 : decode cX5_fewest 160 = .ok (.istore 8, 2) := by decide +kernel
theorem dX5_fewest_162 : decode cX5_fewest 162 = .ok (.aload_n 0, 1) := by decide +kernel
theorem dX5_fewest_163 : decode cX5_fewest 163 = .ok (.getfield 7, 3) := by decide +kernel
theorem dX5_fewest_166 : decode cX5_fewest 166 = .ok (.iload 4, 2) := by decide +kernel
theorem dX5_fewest_168 : decode cX5_fewest 168 = .ok (.iload 6, 2) := by decide +kernel
theorem dX5_fewest_170 : decode cX5_fewest 170 = .ok (.iastore, 1) := by decide +kernel
theorem dX5_fewest_171 : decode cX5_fewest 171 = .ok (.aload_n 0, 1) := by decide +kernel
theorem dX5_fewest_172 : decode cX5_fewest 172 = .ok (.getfield 7, 3) := by decide +kernel
theorem dX5_fewest_175 : decode cX5_fewest 175 = .ok (.iload 5, 2) := by decide +kernel
theorem dX5_fewest_177 : decode cX5_fewest 177 = .ok (.iload 7, 2) := by decide +kernel
theorem dX5_fewest_179 : decode cX5_fewest 179 = .ok (.iastore, 1) := by decide +kernel
theorem dX5_fewest_180 : decode cX5_fewest 180 = .ok (.iload 8, 2) := by decide +kernel
theorem dX5_fewest_182 : decode cX5_fewest 182 = .ok (.ifCond .eq 16, 3) := by decide +kernel
theorem dX5_fewest_185 : decode cX5_fewest 185 = .ok (.sipush 20000, 3) := by decide +kernel
theorem dX5_fewest_188 : decode cX5_fewest 188 = .ok (.bipush 100, 2) := by decide +kernel
theorem dX5_fewest_190 : decode cX5_fewest 190 = .ok (.iload 4, 2) := by decide +kernel
theorem dX5_fewest_192 : decode cX5_fewest 192 = .ok (.imul, 1) := by decide +kernel
theorem dX5_fewest_193 : decode cX5_fewest 193 = .ok (.iadd, 1) := by decide +kernel
theorem dX5_fewest_194 : decode cX5_fewest 194 = .ok (.iload 5, 2) := by decide +kernel
theorem dX5_fewest_196 : decode cX5_fewest 196 = .ok (.iadd, 1) := by decide +kernel
theorem dX5_fewest_197 : decode cX5_fewest 197 = .ok (.ireturn, 1) := by decide +kernel
theorem dX5_fewest_198 : decode cX5_fewest 198 = .ok (.iinc 5 1, 3) := by decide +kernel
theorem dX5_fewest_201 : decode cX5_fewest 201 = .ok (.goto (-95), 3) := by decide +kernel
theorem dX5_fewest_204 : decode cX5_fewest 204 = .ok (.iinc 4 1, 3) := by decide +kernel
theorem dX5_fewest_207 : decode cX5_fewest 207 = .ok (.goto (-121), 3) := by decide +kernel
theorem dX5_fewest_210 : decode cX5_fewest 210 = .ok (.iconst (-1), 1) := by decide +kernel
theorem dX5_fewest_211 : decode cX5_fewest 211 = .ok (.ireturn, 1) := by decide +kernel
theorem dX5_cellsOf_0 : decode cX5_cellsOf 0 = .ok (.aload_n 0, 1) := by decide +kernel
theorem dX5_cellsOf_1 : decode cX5_cellsOf 1 = .ok (.iload_n 1, 1) := by decide +kernel
theorem dX5_cellsOf_2 : decode cX5_cellsOf 2 = .ok (.invokevirtual 92, 3) := by decide +kernel
theorem dX5_cellsOf_5 : decode cX5_cellsOf 5 = .ok (.ifCond .eq 9, 3) := by decide +kernel
theorem dX5_cellsOf_8 : decode cX5_cellsOf 8 = .ok (.iload 4, 2) := by decide +kernel
theorem dX5_cellsOf_10 : decode cX5_cellsOf 10 = .ok (.iconst (-1), 1) := by decide +kernel
theorem dX5_cellsOf_11 : decode cX5_cellsOf 11 = .ok (.if_icmp .ge 10, 3) := by decide +kernel
theorem dX5_cellsOf_14 : decode cX5_cellsOf 14 = .ok (.aload_n 0, 1) := by decide +kernel
theorem dX5_cellsOf_15 : decode cX5_cellsOf 15 = .ok (.bipush (-2), 2) := by decide +kernel
theorem dX5_cellsOf_17 : decode cX5_cellsOf 17 = .ok (.invokevirtual 78, 3) := by decide +kernel
theorem dX5_cellsOf_20 : decode cX5_cellsOf 20 = .ok (.ireturn, 1) := by decide +kernel
theorem dX5_cellsOf_21 : decode cX5_cellsOf 21 = .ok (.aload_n 0, 1) := by decide +kernel
theorem dX5_cellsOf_22 : decode cX5_cellsOf 22 = .ok (.iload_n 1, 1) := by decide +kernel
theorem dX5_cellsOf_23 : decode cX5_cellsOf 23 = .ok (.iload_n 2, 1) := by decide +kernel
theorem dX5_cellsOf_24 : decode cX5_cellsOf 24 = .ok (.iload_n 3, 1) := by decide +kernel
theorem dX5_cellsOf_25 : decode cX5_cellsOf 25 = .ok (.invokevirtual 228, 3) := by decide +kernel
theorem dX5_cellsOf_28 : decode cX5_cellsOf 28 = .ok (.istore 5, 2) := by decide +kernel
theorem dX5_cellsOf_30 : decode cX5_cellsOf 30 = .ok (.iload 4, 2) := by decide +kernel
theorem dX5_cellsOf_32 : decode cX5_cellsOf 32 = .ok (.iconst (-1), 1) := by decide +kernel
theorem dX5_cellsOf_33 : decode cX5_cellsOf 33 = .ok (.if_icmp .ne 20, 3) := by decide +kernel
theorem dX5_cellsOf_36 : decode cX5_cellsOf 36 = .ok (.iload 5, 2) := by decide +kernel
theorem dX5_cellsOf_38 : decode cX5_cellsOf 38 = .ok (.iconst (-1), 1) := by decide +kernel
theorem dX5_cellsOf_39 : decode cX5_cellsOf 39 = .ok (.if_icmp .ne 7, 3) := by decide +kernel
theorem dX5_cellsOf_42 : decode cX5_cellsOf 42 = .ok (.iconst (-1), 1) := by decide +kernel
theorem dX5_cellsOf_43 : decode cX5_cellsOf 43 = .ok (.goto 9, 3) := by decide +kernel
theorem dX5_cellsOf_46 : decode cX5_cellsOf 46 = .ok (.iload 5, 2) := by decide +kernel
theorem dX5_cellsOf_48 : decode cX5_cellsOf 48 = .ok (.sipush 10000, 3) := by decide +kernel
theorem dX5_cellsOf_51 : decode cX5_cellsOf 51 = .ok (.idiv, 1) := by decide +kernel
theorem dX5_cellsOf_52 : decode cX5_cellsOf 52 = .ok (.ireturn, 1) := by decide +kernel
theorem dX5_cellsOf_53 : decode cX5_cellsOf 53 = .ok (.iload 5, 2) := by decide +kernel
theorem dX5_cellsOf_55 : decode cX5_cellsOf 55 = .ok (.iconst (-1), 1) := by decide +kernel
theorem dX5_cellsOf_56 : decode cX5_cellsOf 56 = .ok (.if_icmp .eq 14, 3) := by decide +kernel
theorem dX5_cellsOf_59 : decode cX5_cellsOf 59 = .ok (.iload 4, 2) := by decide +kernel
theorem dX5_cellsOf_61 : decode cX5_cellsOf 61 = .ok (.iload 5, 2) := by decide +kernel
theorem dX5_cellsOf_63 : decode cX5_cellsOf 63 = .ok (.sipush 10000, 3) := by decide +kernel
theorem dX5_cellsOf_66 : decode cX5_cellsOf 66 = .ok (.idiv, 1) := by decide +kernel
theorem dX5_cellsOf_67 : decode cX5_cellsOf 67 = .ok (.if_icmp .lt 10, 3) := by decide +kernel
theorem dX5_cellsOf_70 : decode cX5_cellsOf 70 = .ok (.aload_n 0, 1) := by decide +kernel
theorem dX5_cellsOf_71 : decode cX5_cellsOf 71 = .ok (.bipush (-5), 2) := by decide +kernel
theorem dX5_cellsOf_73 : decode cX5_cellsOf 73 = .ok (.invokevirtual 78, 3) := by decide +kernel
theorem dX5_cellsOf_76 : decode cX5_cellsOf 76 = .ok (.ireturn, 1) := by decide +kernel
theorem dX5_cellsOf_77 : decode cX5_cellsOf 77 = .ok (.iload 4, 2) := by decide +kernel
theorem dX5_cellsOf_79 : decode cX5_cellsOf 79 = .ok (.ifCond .ne 14, 3) := by decide +kernel
theorem dX5_cellsOf_82 : decode cX5_cellsOf 82 = .ok (.iload 5, 2) := by decide +kernel
theorem dX5_cellsOf_84 : decode cX5_cellsOf 84 = .ok (.bipush 100, 2) := by decide +kernel
theorem dX5_cellsOf_86 : decode cX5_cellsOf 86 = .ok (.idiv, 1) := by decide +kernel
theorem dX5_cellsOf_87 : decode cX5_cellsOf 87 = .ok (.bipush 100, 2) := by decide +kernel
theorem dX5_cellsOf_89 : decode cX5_cellsOf 89 = .ok (.irem, 1) := by decide +kernel
theorem dX5_cellsOf_90 : decode cX5_cellsOf 90 = .ok (.goto 8, 3) := by decide +kernel
theorem dX5_cellsOf_93 : decode cX5_cellsOf 93 = .ok (.iload 5, 2) := by decide +kernel
theorem dX5_cellsOf_95 : decode cX5_cellsOf 95 = .ok (.bipush 100, 2) := by decide +kernel
theorem dX5_cellsOf_97 : decode cX5_cellsOf 97 = .ok (.irem, 1) := by decide +kernel
theorem dX5_cellsOf_98 : decode cX5_cellsOf 98 = .ok (.ireturn, 1) := by decide +kernel
theorem dX5_raked_0 : decode cX5_raked 0 = .ok (.aload_n 0, 1) := by decide +kernel
theorem dX5_raked_1 : decode cX5_raked 1 = .ok (.iload_n 1, 1) := by decide +kernel
theorem dX5_raked_2 : decode cX5_raked 2 = .ok (.bipush 9, 2) := by decide +kernel
theorem dX5_raked_4 : decode cX5_raked 4 = .ok (.iconst 0, 1) := by decide +kernel
theorem dX5_raked_5 : decode cX5_raked 5 = .ok (.iload_n 2, 1) := by decide +kernel
theorem dX5_raked_6 : decode cX5_raked 6 = .ok (.invokevirtual 232, 3) := by decide +kernel
theorem dX5_raked_9 : decode cX5_raked 9 = .ok (.ireturn, 1) := by decide +kernel
theorem dX5_planks_0 : decode cX5_planks 0 = .ok (.aload_n 0, 1) := by decide +kernel
theorem dX5_planks_1 : decode cX5_planks 1 = .ok (.iload_n 1, 1) := by decide +kernel
theorem dX5_planks_2 : decode cX5_planks 2 = .ok (.iconst 0, 1) := by decide +kernel
theorem dX5_planks_3 : decode cX5_planks 3 = .ok (.iconst 1, 1) := by decide +kernel
theorem dX5_planks_4 : decode cX5_planks 4 = .ok (.iload_n 2, 1) := by decide +kernel
theorem dX5_planks_5 : decode cX5_planks 5 = .ok (.invokevirtual 232, 3) := by decide +kernel
theorem dX5_planks_8 : decode cX5_planks 8 = .ok (.ireturn, 1) := by decide +kernel
theorem dX5_ways_0 : decode cX5_ways 0 = .ok (.iconst 0, 1) := by decide +kernel
theorem dX5_ways_1 : decode cX5_ways 1 = .ok (.istore_n 1, 1) := by decide +kernel
theorem dX5_ways_2 : decode cX5_ways 2 = .ok (.iload_n 1, 1) := by decide +kernel
theorem dX5_ways_3 : decode cX5_ways 3 = .ok (.aload_n 0, 1) := by decide +kernel
theorem dX5_ways_4 : decode cX5_ways 4 = .ok (.getfield 57, 3) := by decide +kernel
theorem dX5_ways_7 : decode cX5_ways 7 = .ok (.aload_n 0, 1) := by decide +kernel
theorem dX5_ways_8 : decode cX5_ways 8 = .ok (.getfield 57, 3) := by decide +kernel
theorem dX5_ways_11 : decode cX5_ways 11 = .ok (.imul, 1) := by decide +kernel
theorem dX5_ways_12 : decode cX5_ways 12 = .ok (.if_icmp .ge 16, 3) := by decide +kernel
theorem dX5_ways_15 : decode cX5_ways 15 = .ok (.aload_n 0, 1) := by decide +kernel
theorem dX5_ways_16 : decode cX5_ways 16 = .ok (.getfield 47, 3) := by decide +kernel
theorem dX5_ways_19 : decode cX5_ways 19 = .ok (.iload_n 1, 1) := by decide +kernel
theorem dX5_ways_20 : decode cX5_ways 20 = .ok (.iconst 1, 1) := by decide +kernel
theorem dX5_ways_21 : decode cX5_ways 21 = .ok (.bastore, 1) := by decide +kernel
theorem dX5_ways_22 : decode cX5_ways 22 = .ok (.iinc 1 1, 3) := by decide +kernel
theorem dX5_ways_25 : decode cX5_ways 25 = .ok (.goto (-23), 3) := by decide +kernel
theorem dX5_ways_28 : decode cX5_ways 28 = .ok (.aload_n 0, 1) := by decide +kernel
theorem dX5_ways_29 : decode cX5_ways 29 = .ok (.invokevirtual 199, 3) := by decide +kernel
theorem dX5_ways_32 : decode cX5_ways 32 = .ok (.ireturn, 1) := by decide +kernel
theorem dX5_through_0 : decode cX5_through 0 = .ok (.aload_n 0, 1) := by decide +kernel
theorem dX5_through_1 : decode cX5_through 1 = .ok (.iload_n 1, 1) := by decide +kernel
theorem dX5_through_2 : decode cX5_through 2 = .ok (.invokevirtual 118, 3) := by decide +kernel
theorem dX5_through_5 : decode cX5_through 5 = .ok (.ifCond .ne 10, 3) := by decide +kernel
theorem dX5_through_8 : decode cX5_through 8 = .ok (.aload_n 0, 1) := by decide +kernel
theorem dX5_through_9 : decode cX5_through 9 = .ok (.bipush (-2), 2) := by decide +kernel
theorem dX5_through_11 : decode cX5_through 11 = .ok (.invokevirtual 78, 3) := by decide +kernel
theorem dX5_through_14 : decode cX5_through 14 = .ok (.ireturn, 1) := by decide +kernel
theorem dX5_through_15 : decode cX5_through 15 = .ok (.iconst 0, 1) := by decide +kernel
theorem dX5_through_16 : decode cX5_through 16 = .ok (.istore_n 2, 1) := by decide +kernel
theorem dX5_through_17 : decode cX5_through 17 = .ok (.iload_n 2, 1) := by decide +kernel
theorem dX5_through_18 : decode cX5_through 18 = .ok (.aload_n 0, 1) := by decide +kernel
theorem dX5_through_19 : decode cX5_through 19 = .ok (.getfield 57, 3) := by decide +kernel
theorem dX5_through_22 : decode cX5_through 22 = .ok (.aload_n 0, 1) := by decide +kernel
theorem dX5_through_23 : decode cX5_through 23 = .ok (.getfield 57, 3) := by decide +kernel
theorem dX5_through_26 : decode cX5_through 26 = .ok (.imul, 1) := by decide +kernel
theorem dX5_through_27 : decode cX5_through 27 = .ok (.if_icmp .ge 40, 3) := by decide +kernel
theorem dX5_through_30 : decode cX5_through 30 = .ok (.aload_n 0, 1) := by decide +kernel
theorem dX5_through_31 : decode cX5_through 31 = .ok (.getfield 47, 3) := by decide +kernel
theorem dX5_through_34 : decode cX5_through 34 = .ok (.iload_n 2, 1) := by decide +kernel
theorem dX5_through_35 : decode cX5_through 35 = .ok (.iload_n 2, 1) := by decide +kernel
theorem dX5_through_36 : decode cX5_through 36 = .ok (.aload_n 0, 1) := by decide +kernel
theorem dX5_through_37 : decode cX5_through 37 = .ok (.getfield 57, 3) := by decide +kernel
theorem dX5_through_40 : decode cX5_through 40 = .ok (.idiv, 1) := by decide +kernel
theorem dX5_through_41 : decode cX5_through 41 = .ok (.iload_n 1, 1) := by decide +kernel
theorem dX5_through_42 : decode cX5_through 42 = .ok (.aload_n 0, 1) := by decide +kernel
theorem dX5_through_43 : decode cX5_through 43 = .ok (.getfield 57, 3) := by decide +kernel
theorem dX5_through_46 : decode cX5_through 46 = .ok (.idiv, 1) := by decide +kernel
theorem dX5_through_47 : decode cX5_through 47 = .ok (.if_icmp .ne 8, 3) := by decide +kernel
theorem dX5_through_50 : decode cX5_through 50 = .ok (.iload_n 2, 1) := by decide +kernel
theorem dX5_through_51 : decode cX5_through 51 = .ok (.iload_n 1, 1) := by decide +kernel
theorem dX5_through_52 : decode cX5_through 52 = .ok (.if_icmp .ne 7, 3) := by decide +kernel
theorem dX5_through_55 : decode cX5_through 55 = .ok (.iconst 1, 1) := by decide +kernel
theorem dX5_through_56 : decode cX5_through 56 = .ok (.goto 4, 3) := by decide +kernel
theorem dX5_through_59 : decode cX5_through 59 = .ok (.iconst 0, 1) := by decide +kernel
theorem dX5_through_60 : decode cX5_through 60 = .ok (.bastore, 1) := by decide +kernel
theorem dX5_through_61 : decode cX5_through 61 = .ok (.iinc 2 1, 3) := by decide +kernel
theorem dX5_through_64 : decode cX5_through 64 = .ok (.goto (-47), 3) := by decide +kernel
theorem dX5_through_67 : decode cX5_through 67 = .ok (.aload_n 0, 1) := by decide +kernel
theorem dX5_through_68 : decode cX5_through 68 = .ok (.invokevirtual 199, 3) := by decide +kernel
theorem dX5_through_71 : decode cX5_through 71 = .ok (.ireturn, 1) := by decide +kernel
theorem dX5_dry_0 : decode cX5_dry 0 = .ok (.aload_n 0, 1) := by decide +kernel
theorem dX5_dry_1 : decode cX5_dry 1 = .ok (.iload_n 1, 1) := by decide +kernel
theorem dX5_dry_2 : decode cX5_dry 2 = .ok (.invokevirtual 92, 3) := by decide +kernel
theorem dX5_dry_5 : decode cX5_dry 5 = .ok (.ifCond .ne 10, 3) := by decide +kernel
theorem dX5_dry_8 : decode cX5_dry 8 = .ok (.aload_n 0, 1) := by decide +kernel
theorem dX5_dry_9 : decode cX5_dry 9 = .ok (.bipush (-2), 2) := by decide +kernel
theorem dX5_dry_11 : decode cX5_dry 11 = .ok (.invokevirtual 78, 3) := by decide +kernel
theorem dX5_dry_14 : decode cX5_dry 14 = .ok (.ireturn, 1) := by decide +kernel
theorem dX5_dry_15 : decode cX5_dry 15 = .ok (.aload_n 0, 1) := by decide +kernel
theorem dX5_dry_16 : decode cX5_dry 16 = .ok (.getfield 103, 3) := by decide +kernel
theorem dX5_dry_19 : decode cX5_dry 19 = .ok (.istore_n 2, 1) := by decide +kernel
theorem dX5_dry_20 : decode cX5_dry 20 = .ok (.iconst (-1), 1) := by decide +kernel
theorem dX5_dry_21 : decode cX5_dry 21 = .ok (.istore_n 3, 1) := by decide +kernel
theorem dX5_dry_22 : decode cX5_dry 22 = .ok (.bipush 9, 2) := by decide +kernel
theorem dX5_dry_24 : decode cX5_dry 24 = .ok (.istore 4, 2) := by decide +kernel
theorem dX5_dry_26 : decode cX5_dry 26 = .ok (.iload 4, 2) := by decide +kernel
theorem dX5_dry_28 : decode cX5_dry 28 = .ok (.ifCond .lt 27, 3) := by decide +kernel
theorem dX5_dry_31 : decode cX5_dry 31 = .ok (.aload_n 0, 1) := by decide +kernel
theorem dX5_dry_32 : decode cX5_dry 32 = .ok (.iload 4, 2) := by decide +kernel
theorem dX5_dry_34 : decode cX5_dry 34 = .ok (.putfield 103, 3) := by decide +kernel
theorem dX5_dry_37 : decode cX5_dry 37 = .ok (.aload_n 0, 1) := by decide +kernel
theorem dX5_dry_38 : decode cX5_dry 38 = .ok (.iload_n 1, 1) := by decide +kernel
theorem dX5_dry_39 : decode cX5_dry 39 = .ok (.iconst 1, 1) := by decide +kernel
theorem dX5_dry_40 : decode cX5_dry 40 = .ok (.invokevirtual 224, 3) := by decide +kernel
theorem dX5_dry_43 : decode cX5_dry 43 = .ok (.ifCond .eq 6, 3) := by decide +kernel
theorem dX5_dry_46 : decode cX5_dry 46 = .ok (.iload 4, 2) := by decide +kernel
theorem dX5_dry_48 : decode cX5_dry 48 = .ok (.istore_n 3, 1) := by decide +kernel
theorem dX5_dry_49 : decode cX5_dry 49 = .ok (.iinc 4 (-1), 3) := by decide +kernel
theorem dX5_dry_52 : decode cX5_dry 52 = .ok (.goto (-26), 3) := by decide +kernel
theorem dX5_dry_55 : decode cX5_dry 55 = .ok (.aload_n 0, 1) := by decide +kernel
theorem dX5_dry_56 : decode cX5_dry 56 = .ok (.iload_n 2, 1) := by decide +kernel
theorem dX5_dry_57 : decode cX5_dry 57 = .ok (.putfield 103, 3) := by decide +kernel
theorem dX5_dry_60 : decode cX5_dry 60 = .ok (.iload_n 3, 1) := by decide +kernel
theorem dX5_dry_61 : decode cX5_dry 61 = .ok (.ireturn, 1) := by decide +kernel
theorem dX5_mean_0 : decode cX5_mean 0 = .ok (.aload_n 0, 1) := by decide +kernel
theorem dX5_mean_1 : decode cX5_mean 1 = .ok (.iload_n 1, 1) := by decide +kernel
theorem dX5_mean_2 : decode cX5_mean 2 = .ok (.invokevirtual 92, 3) := by decide +kernel
theorem dX5_mean_5 : decode cX5_mean 5 = .ok (.ifCond .ne 10, 3) := by decide +kernel
theorem dX5_mean_8 : decode cX5_mean 8 = .ok (.aload_n 0, 1) := by decide +kernel
theorem dX5_mean_9 : decode cX5_mean 9 = .ok (.bipush (-2), 2) := by decide +kernel
theorem dX5_mean_11 : decode cX5_mean 11 = .ok (.invokevirtual 78, 3) := by decide +kernel
theorem dX5_mean_14 : decode cX5_mean 14 = .ok (.ireturn, 1) := by decide +kernel
theorem dX5_mean_15 : decode cX5_mean 15 = .ok (.iconst 0, 1) := by decide +kernel
theorem dX5_mean_16 : decode cX5_mean 16 = .ok (.istore_n 2, 1) := by decide +kernel
theorem dX5_mean_17 : decode cX5_mean 17 = .ok (.iconst 0, 1) := by decide +kernel
theorem dX5_mean_18 : decode cX5_mean 18 = .ok (.istore_n 3, 1) := by decide +kernel
theorem dX5_mean_19 : decode cX5_mean 19 = .ok (.iload_n 3, 1) := by decide +kernel
theorem dX5_mean_20 : decode cX5_mean 20 = .ok (.aload_n 0, 1) := by decide +kernel
theorem dX5_mean_21 : decode cX5_mean 21 = .ok (.getfield 57, 3) := by decide +kernel
theorem dX5_mean_24 : decode cX5_mean 24 = .ok (.aload_n 0, 1) := by decide +kernel
theorem dX5_mean_25 : decode cX5_mean 25 = .ok (.getfield 57, 3) := by decide +kernel
theorem dX5_mean_28 : decode cX5_mean 28 = .ok (.imul, 1) := by decide +kernel
theorem dX5_mean_29 : decode cX5_mean 29 = .ok (.if_icmp .ge 24, 3) := by decide +kernel
theorem dX5_mean_32 : decode cX5_mean 32 = .ok (.iload_n 2, 1) := by decide +kernel
theorem dX5_mean_33 : decode cX5_mean 33 = .ok (.aload_n 0, 1) := by decide +kernel
theorem dX5_mean_34 : decode cX5_mean 34 = .ok (.iload_n 1, 1) := by decide +kernel
theorem dX5_mean_35 : decode cX5_mean 35 = .ok (.iload_n 3, 1) := by decide +kernel
theorem dX5_mean_36 : decode cX5_mean 36 = .ok (.invokevirtual 190, 3) := by decide +kernel
theorem dX5_mean_39 : decode cX5_mean 39 = .ok (.aload_n 0, 1) := by decide +kernel
theorem dX5_mean_40 : decode cX5_mean 40 = .ok (.iload_n 3, 1) := by decide +kernel
theorem dX5_mean_41 : decode cX5_mean 41 = .ok (.invokevirtual 236, 3) := by decide +kernel
theorem dX5_mean_44 : decode cX5_mean 44 = .ok (.imul, 1) := by decide +kernel
theorem dX5_mean_45 : decode cX5_mean 45 = .ok (.iadd, 1) := by decide +kernel
theorem dX5_mean_46 : decode cX5_mean 46 = .ok (.istore_n 2, 1) := by decide +kernel
theorem dX5_mean_47 : decode cX5_mean 47 = .ok (.iinc 3 1, 3) := by decide +kernel
theorem dX5_mean_50 : decode cX5_mean 50 = .ok (.goto (-31), 3) := by decide +kernel
theorem dX5_mean_53 : decode cX5_mean 53 = .ok (.ldc2_w 239, 3) := by decide +kernel
theorem dX5_mean_56 : decode cX5_mean 56 = .ok (.iload_n 2, 1) := by decide +kernel
theorem dX5_mean_57 : decode cX5_mean 57 = .ok (.i2l, 1) := by decide +kernel
theorem dX5_mean_58 : decode cX5_mean 58 = .ok (.lmul, 1) := by decide +kernel
theorem dX5_mean_59 : decode cX5_mean 59 = .ok (.aload_n 0, 1) := by decide +kernel
theorem dX5_mean_60 : decode cX5_mean 60 = .ok (.invokevirtual 241, 3) := by decide +kernel
theorem dX5_mean_63 : decode cX5_mean 63 = .ok (.i2l, 1) := by decide +kernel
theorem dX5_mean_64 : decode cX5_mean 64 = .ok (.ldiv, 1) := by decide +kernel
theorem dX5_mean_65 : decode cX5_mean 65 = .ok (.l2i, 1) := by decide +kernel
theorem dX5_mean_66 : decode cX5_mean 66 = .ok (.ireturn, 1) := by decide +kernel
theorem dX5_heardOn_0 : decode cX5_heardOn 0 = .ok (.aload_n 0, 1) := by decide +kernel
theorem dX5_heardOn_1 : decode cX5_heardOn 1 = .ok (.iload_n 1, 1) := by decide +kernel
theorem dX5_heardOn_2 : decode cX5_heardOn 2 = .ok (.invokevirtual 118, 3) := by decide +kernel
theorem dX5_heardOn_5 : decode cX5_heardOn 5 = .ok (.ifCond .ne 10, 3) := by decide +kernel
theorem dX5_heardOn_8 : decode cX5_heardOn 8 = .ok (.aload_n 0, 1) := by decide +kernel
theorem dX5_heardOn_9 : decode cX5_heardOn 9 = .ok (.bipush (-2), 2) := by decide +kernel
theorem dX5_heardOn_11 : decode cX5_heardOn 11 = .ok (.invokevirtual 78, 3) := by decide +kernel
theorem dX5_heardOn_14 : decode cX5_heardOn 14 = .ok (.ireturn, 1) := by decide +kernel
theorem dX5_heardOn_15 : decode cX5_heardOn 15 = .ok (.iconst 0, 1) := by decide +kernel
theorem dX5_heardOn_16 : decode cX5_heardOn 16 = .ok (.istore_n 2, 1) := by decide +kernel
theorem dX5_heardOn_17 : decode cX5_heardOn 17 = .ok (.iconst 0, 1) := by decide +kernel
theorem dX5_heardOn_18 : decode cX5_heardOn 18 = .ok (.istore_n 3, 1) := by decide +kernel
theorem dX5_heardOn_19 : decode cX5_heardOn 19 = .ok (.iload_n 3, 1) := by decide +kernel
theorem dX5_heardOn_20 : decode cX5_heardOn 20 = .ok (.aload_n 0, 1) := by decide +kernel
theorem dX5_heardOn_21 : decode cX5_heardOn 21 = .ok (.getfield 67, 3) := by decide +kernel
theorem dX5_heardOn_24 : decode cX5_heardOn 24 = .ok (.if_icmp .ge 28, 3) := by decide +kernel
theorem dX5_heardOn_27 : decode cX5_heardOn 27 = .ok (.aload_n 0, 1) := by decide +kernel
theorem dX5_heardOn_28 : decode cX5_heardOn 28 = .ok (.iload_n 3, 1) := by decide +kernel
theorem dX5_heardOn_29 : decode cX5_heardOn 29 = .ok (.iload_n 1, 1) := by decide +kernel
theorem dX5_heardOn_30 : decode cX5_heardOn 30 = .ok (.invokevirtual 190, 3) := by decide +kernel
theorem dX5_heardOn_33 : decode cX5_heardOn 33 = .ok (.aload_n 0, 1) := by decide +kernel
theorem dX5_heardOn_34 : decode cX5_heardOn 34 = .ok (.getfield 61, 3) := by decide +kernel
theorem dX5_heardOn_37 : decode cX5_heardOn 37 = .ok (.if_icmp .lt 9, 3) := by decide +kernel
theorem dX5_heardOn_40 : decode cX5_heardOn 40 = .ok (.iload_n 2, 1) := by decide +kernel
theorem dX5_heardOn_41 : decode cX5_heardOn 41 = .ok (.iconst 1, 1) := by decide +kernel
theorem dX5_heardOn_42 : decode cX5_heardOn 42 = .ok (.iload_n 3, 1) := by decide +kernel
theorem dX5_heardOn_43 : decode cX5_heardOn 43 = .ok (.ishl, 1) := by decide +kernel
theorem dX5_heardOn_44 : decode cX5_heardOn 44 = .ok (.ior, 1) := by decide +kernel
theorem dX5_heardOn_45 : decode cX5_heardOn 45 = .ok (.istore_n 2, 1) := by decide +kernel
theorem dX5_heardOn_46 : decode cX5_heardOn 46 = .ok (.iinc 3 1, 3) := by decide +kernel
theorem dX5_heardOn_49 : decode cX5_heardOn 49 = .ok (.goto (-30), 3) := by decide +kernel
theorem dX5_heardOn_52 : decode cX5_heardOn 52 = .ok (.iload_n 2, 1) := by decide +kernel
theorem dX5_heardOn_53 : decode cX5_heardOn 53 = .ok (.ireturn, 1) := by decide +kernel
theorem dX5_silent_0 : decode cX5_silent 0 = .ok (.iconst 0, 1) := by decide +kernel
theorem dX5_silent_1 : decode cX5_silent 1 = .ok (.istore_n 1, 1) := by decide +kernel
theorem dX5_silent_2 : decode cX5_silent 2 = .ok (.iconst 0, 1) := by decide +kernel
theorem dX5_silent_3 : decode cX5_silent 3 = .ok (.istore_n 2, 1) := by decide +kernel
theorem dX5_silent_4 : decode cX5_silent 4 = .ok (.iload_n 2, 1) := by decide +kernel
theorem dX5_silent_5 : decode cX5_silent 5 = .ok (.aload_n 0, 1) := by decide +kernel
theorem dX5_silent_6 : decode cX5_silent 6 = .ok (.getfield 57, 3) := by decide +kernel
theorem dX5_silent_9 : decode cX5_silent 9 = .ok (.aload_n 0, 1) := by decide +kernel
theorem dX5_silent_10 : decode cX5_silent 10 = .ok (.getfield 57, 3) := by decide +kernel
theorem dX5_silent_13 : decode cX5_silent 13 = .ok (.imul, 1) := by decide +kernel
theorem dX5_silent_14 : decode cX5_silent 14 = .ok (.if_icmp .ge 20, 3) := by decide +kernel
theorem dX5_silent_17 : decode cX5_silent 17 = .ok (.aload_n 0, 1) := by decide +kernel
theorem dX5_silent_18 : decode cX5_silent 18 = .ok (.iload_n 2, 1) := by decide +kernel
theorem dX5_silent_19 : decode cX5_silent 19 = .ok (.invokevirtual 112, 3) := by decide +kernel
theorem dX5_silent_22 : decode cX5_silent 22 = .ok (.ifCond .ne 6, 3) := by decide +kernel
theorem dX5_silent_25 : decode cX5_silent 25 = .ok (.iinc 1 1, 3) := by decide +kernel
theorem dX5_silent_28 : decode cX5_silent 28 = .ok (.iinc 2 1, 3) := by decide +kernel
theorem dX5_silent_31 : decode cX5_silent 31 = .ok (.goto (-27), 3) := by decide +kernel
theorem dX5_silent_34 : decode cX5_silent 34 = .ok (.iload_n 1, 1) := by decide +kernel
theorem dX5_silent_35 : decode cX5_silent 35 = .ok (.ireturn, 1) := by decide +kernel
theorem dX5_heardBy_0 : decode cX5_heardBy 0 = .ok (.aload_n 0, 1) := by decide +kernel
theorem dX5_heardBy_1 : decode cX5_heardBy 1 = .ok (.iload_n 1, 1) := by decide +kernel
theorem dX5_heardBy_2 : decode cX5_heardBy 2 = .ok (.invokevirtual 92, 3) := by decide +kernel
theorem dX5_heardBy_5 : decode cX5_heardBy 5 = .ok (.ifCond .ne 10, 3) := by decide +kernel
theorem dX5_heardBy_8 : decode cX5_heardBy 8 = .ok (.aload_n 0, 1) := by decide +kernel
theorem dX5_heardBy_9 : decode cX5_heardBy 9 = .ok (.bipush (-2), 2) := by decide +kernel
theorem dX5_heardBy_11 : decode cX5_heardBy 11 = .ok (.invokevirtual 78, 3) := by decide +kernel
theorem dX5_heardBy_14 : decode cX5_heardBy 14 = .ok (.ireturn, 1) := by decide +kernel
theorem dX5_heardBy_15 : decode cX5_heardBy 15 = .ok (.iconst 0, 1) := by decide +kernel
theorem dX5_heardBy_16 : decode cX5_heardBy 16 = .ok (.istore_n 2, 1) := by decide +kernel
theorem dX5_heardBy_17 : decode cX5_heardBy 17 = .ok (.iconst 0, 1) := by decide +kernel
theorem dX5_heardBy_18 : decode cX5_heardBy 18 = .ok (.istore_n 3, 1) := by decide +kernel
theorem dX5_heardBy_19 : decode cX5_heardBy 19 = .ok (.iload_n 3, 1) := by decide +kernel
theorem dX5_heardBy_20 : decode cX5_heardBy 20 = .ok (.aload_n 0, 1) := by decide +kernel
theorem dX5_heardBy_21 : decode cX5_heardBy 21 = .ok (.getfield 57, 3) := by decide +kernel
theorem dX5_heardBy_24 : decode cX5_heardBy 24 = .ok (.aload_n 0, 1) := by decide +kernel
theorem dX5_heardBy_25 : decode cX5_heardBy 25 = .ok (.getfield 57, 3) := by decide +kernel
theorem dX5_heardBy_28 : decode cX5_heardBy 28 = .ok (.imul, 1) := by decide +kernel
theorem dX5_heardBy_29 : decode cX5_heardBy 29 = .ok (.if_icmp .ge 25, 3) := by decide +kernel
theorem dX5_heardBy_32 : decode cX5_heardBy 32 = .ok (.aload_n 0, 1) := by decide +kernel
theorem dX5_heardBy_33 : decode cX5_heardBy 33 = .ok (.iload_n 1, 1) := by decide +kernel
theorem dX5_heardBy_34 : decode cX5_heardBy 34 = .ok (.iload_n 3, 1) := by decide +kernel
theorem dX5_heardBy_35 : decode cX5_heardBy 35 = .ok (.invokevirtual 190, 3) := by decide +kernel
theorem dX5_heardBy_38 : decode cX5_heardBy 38 = .ok (.aload_n 0, 1) := by decide +kernel
theorem dX5_heardBy_39 : decode cX5_heardBy 39 = .ok (.getfield 61, 3) := by decide +kernel
theorem dX5_heardBy_42 : decode cX5_heardBy 42 = .ok (.if_icmp .lt 6, 3) := by decide +kernel
theorem dX5_heardBy_45 : decode cX5_heardBy 45 = .ok (.iinc 2 1, 3) := by decide +kernel
theorem dX5_heardBy_48 : decode cX5_heardBy 48 = .ok (.iinc 3 1, 3) := by decide +kernel
theorem dX5_heardBy_51 : decode cX5_heardBy 51 = .ok (.goto (-32), 3) := by decide +kernel
theorem dX5_heardBy_54 : decode cX5_heardBy 54 = .ok (.iload_n 2, 1) := by decide +kernel
theorem dX5_heardBy_55 : decode cX5_heardBy 55 = .ok (.ireturn, 1) := by decide +kernel
theorem dX5_gapOf_0 : decode cX5_gapOf 0 = .ok (.iconst 0, 1) := by decide +kernel
theorem dX5_gapOf_1 : decode cX5_gapOf 1 = .ok (.istore 4, 2) := by decide +kernel
theorem dX5_gapOf_3 : decode cX5_gapOf 3 = .ok (.iload 4, 2) := by decide +kernel
theorem dX5_gapOf_5 : decode cX5_gapOf 5 = .ok (.aload_n 0, 1) := by decide +kernel
theorem dX5_gapOf_6 : decode cX5_gapOf 6 = .ok (.getfield 57, 3) := by decide +kernel
theorem dX5_gapOf_9 : decode cX5_gapOf 9 = .ok (.if_icmp .ge 47, 3) := by decide +kernel
theorem dX5_gapOf_12 : decode cX5_gapOf 12 = .ok (.aload_n 0, 1) := by decide +kernel
theorem dX5_gapOf_13 : decode cX5_gapOf 13 = .ok (.iload_n 1, 1) := by decide +kernel
theorem dX5_gapOf_14 : decode cX5_gapOf 14 = .ok (.iload 4, 2) := by decide +kernel
theorem dX5_gapOf_16 : decode cX5_gapOf 16 = .ok (.aload_n 0, 1) := by decide +kernel
theorem dX5_gapOf_17 : decode cX5_gapOf 17 = .ok (.getfield 57, 3) := by decide +kernel
theorem dX5_gapOf_20 : decode cX5_gapOf 20 = .ok (.imul, 1) := by decide +kernel
theorem dX5_gapOf_21 : decode cX5_gapOf 21 = .ok (.iload_n 3, 1) := by decide +kernel
theorem dX5_gapOf_22 : decode cX5_gapOf 22 = .ok (.iadd, 1) := by decide +kernel
theorem dX5_gapOf_23 : decode cX5_gapOf 23 = .ok (.iload 4, 2) := by decide +kernel
theorem dX5_gapOf_25 : decode cX5_gapOf 25 = .ok (.invokevirtual 99, 3) := by decide +kernel
theorem dX5_gapOf_28 : decode cX5_gapOf 28 = .ok (.aload_n 0, 1) := by decide +kernel
theorem dX5_gapOf_29 : decode cX5_gapOf 29 = .ok (.iload_n 2, 1) := by decide +kernel
theorem dX5_gapOf_30 : decode cX5_gapOf 30 = .ok (.iload 4, 2) := by decide +kernel
theorem dX5_gapOf_32 : decode cX5_gapOf 32 = .ok (.aload_n 0, 1) := by decide +kernel
theorem dX5_gapOf_33 : decode cX5_gapOf 33 = .ok (.getfield 57, 3) := by decide +kernel
theorem dX5_gapOf_36 : decode cX5_gapOf 36 = .ok (.imul, 1) := by decide +kernel
theorem dX5_gapOf_37 : decode cX5_gapOf 37 = .ok (.iload_n 3, 1) := by decide +kernel
theorem dX5_gapOf_38 : decode cX5_gapOf 38 = .ok (.iadd, 1) := by decide +kernel
theorem dX5_gapOf_39 : decode cX5_gapOf 39 = .ok (.iload 4, 2) := by decide +kernel
theorem dX5_gapOf_41 : decode cX5_gapOf 41 = .ok (.invokevirtual 99, 3) := by decide +kernel
theorem dX5_gapOf_44 : decode cX5_gapOf 44 = .ok (.if_icmp .eq 6, 3) := by decide +kernel
theorem dX5_gapOf_47 : decode cX5_gapOf 47 = .ok (.iload 4, 2) := by decide +kernel
theorem dX5_gapOf_49 : decode cX5_gapOf 49 = .ok (.ireturn, 1) := by decide +kernel
theorem dX5_gapOf_50 : decode cX5_gapOf 50 = .ok (.iinc 4 1, 3) := by decide +kernel
theorem dX5_gapOf_53 : decode cX5_gapOf 53 = .ok (.goto (-50), 3) := by decide +kernel
theorem dX5_gapOf_56 : decode cX5_gapOf 56 = .ok (.iconst (-1), 1) := by decide +kernel
theorem dX5_gapOf_57 : decode cX5_gapOf 57 = .ok (.ireturn, 1) := by decide +kernel
theorem dX5_areTwo_0 : decode cX5_areTwo 0 = .ok (.aload_n 0, 1) := by decide +kernel
theorem dX5_areTwo_1 : decode cX5_areTwo 1 = .ok (.iload_n 1, 1) := by decide +kernel
theorem dX5_areTwo_2 : decode cX5_areTwo 2 = .ok (.invokevirtual 92, 3) := by decide +kernel
theorem dX5_areTwo_5 : decode cX5_areTwo 5 = .ok (.ifCond .eq 20, 3) := by decide +kernel
theorem dX5_areTwo_8 : decode cX5_areTwo 8 = .ok (.aload_n 0, 1) := by decide +kernel
theorem dX5_areTwo_9 : decode cX5_areTwo 9 = .ok (.iload_n 2, 1) := by decide +kernel
theorem dX5_areTwo_10 : decode cX5_areTwo 10 = .ok (.invokevirtual 92, 3) := by decide +kernel
theorem dX5_areTwo_13 : decode cX5_areTwo 13 = .ok (.ifCond .eq 12, 3) := by decide +kernel
theorem dX5_areTwo_16 : decode cX5_areTwo 16 = .ok (.iload_n 1, 1) := by decide +kernel
theorem dX5_areTwo_17 : decode cX5_areTwo 17 = .ok (.iload_n 2, 1) := by decide +kernel
theorem dX5_areTwo_18 : decode cX5_areTwo 18 = .ok (.if_icmp .eq 7, 3) := by decide +kernel
theorem dX5_areTwo_21 : decode cX5_areTwo 21 = .ok (.iconst 1, 1) := by decide +kernel
theorem dX5_areTwo_22 : decode cX5_areTwo 22 = .ok (.goto 4, 3) := by decide +kernel
theorem dX5_areTwo_25 : decode cX5_areTwo 25 = .ok (.iconst 0, 1) := by decide +kernel
theorem dX5_areTwo_26 : decode cX5_areTwo 26 = .ok (.ireturn, 1) := by decide +kernel
theorem dX5_gap_0 : decode cX5_gap 0 = .ok (.aload_n 0, 1) := by decide +kernel
theorem dX5_gap_1 : decode cX5_gap 1 = .ok (.iload_n 1, 1) := by decide +kernel
theorem dX5_gap_2 : decode cX5_gap 2 = .ok (.iload_n 2, 1) := by decide +kernel
theorem dX5_gap_3 : decode cX5_gap 3 = .ok (.invokevirtual 244, 3) := by decide +kernel
theorem dX5_gap_6 : decode cX5_gap 6 = .ok (.ifCond .eq 21, 3) := by decide +kernel
theorem dX5_gap_9 : decode cX5_gap 9 = .ok (.aload_n 0, 1) := by decide +kernel
theorem dX5_gap_10 : decode cX5_gap 10 = .ok (.iload_n 3, 1) := by decide +kernel
theorem dX5_gap_11 : decode cX5_gap 11 = .ok (.invokevirtual 247, 3) := by decide +kernel
theorem dX5_gap_14 : decode cX5_gap 14 = .ok (.ifCond .eq 13, 3) := by decide +kernel
theorem dX5_gap_17 : decode cX5_gap 17 = .ok (.aload_n 0, 1) := by decide +kernel
theorem dX5_gap_18 : decode cX5_gap 18 = .ok (.iload_n 1, 1) := by decide +kernel
theorem dX5_gap_19 : decode cX5_gap 19 = .ok (.iload_n 2, 1) := by decide +kernel
theorem dX5_gap_20 : decode cX5_gap 20 = .ok (.iload_n 3, 1) := by decide +kernel
theorem dX5_gap_21 : decode cX5_gap 21 = .ok (.invokevirtual 250, 3) := by decide +kernel
theorem dX5_gap_24 : decode cX5_gap 24 = .ok (.goto 9, 3) := by decide +kernel
theorem dX5_gap_27 : decode cX5_gap 27 = .ok (.aload_n 0, 1) := by decide +kernel
theorem dX5_gap_28 : decode cX5_gap 28 = .ok (.bipush (-2), 2) := by decide +kernel
theorem dX5_gap_30 : decode cX5_gap 30 = .ok (.invokevirtual 78, 3) := by decide +kernel
theorem dX5_gap_33 : decode cX5_gap 33 = .ok (.ireturn, 1) := by decide +kernel
theorem dX5_confused_0 : decode cX5_confused 0 = .ok (.aload_n 0, 1) := by decide +kernel
theorem dX5_confused_1 : decode cX5_confused 1 = .ok (.iload_n 1, 1) := by decide +kernel
theorem dX5_confused_2 : decode cX5_confused 2 = .ok (.invokevirtual 92, 3) := by decide +kernel
theorem dX5_confused_5 : decode cX5_confused 5 = .ok (.ifCond .ne 10, 3) := by decide +kernel
theorem dX5_confused_8 : decode cX5_confused 8 = .ok (.aload_n 0, 1) := by decide +kernel
theorem dX5_confused_9 : decode cX5_confused 9 = .ok (.bipush (-2), 2) := by decide +kernel
theorem dX5_confused_11 : decode cX5_confused 11 = .ok (.invokevirtual 78, 3) := by decide +kernel
theorem dX5_confused_14 : decode cX5_confused 14 = .ok (.ireturn, 1) := by decide +kernel
theorem dX5_confused_15 : decode cX5_confused 15 = .ok (.iconst 0, 1) := by decide +kernel
theorem dX5_confused_16 : decode cX5_confused 16 = .ok (.istore_n 2, 1) := by decide +kernel
theorem dX5_confused_17 : decode cX5_confused 17 = .ok (.iconst 0, 1) := by decide +kernel
theorem dX5_confused_18 : decode cX5_confused 18 = .ok (.istore_n 3, 1) := by decide +kernel
theorem dX5_confused_19 : decode cX5_confused 19 = .ok (.iload_n 3, 1) := by decide +kernel
theorem dX5_confused_20 : decode cX5_confused 20 = .ok (.aload_n 0, 1) := by decide +kernel
theorem dX5_confused_21 : decode cX5_confused 21 = .ok (.getfield 67, 3) := by decide +kernel
theorem dX5_confused_24 : decode cX5_confused 24 = .ok (.if_icmp .ge 50, 3) := by decide +kernel
theorem dX5_confused_27 : decode cX5_confused 27 = .ok (.iconst 0, 1) := by decide +kernel
theorem dX5_confused_28 : decode cX5_confused 28 = .ok (.istore 4, 2) := by decide +kernel
theorem dX5_confused_30 : decode cX5_confused 30 = .ok (.iload 4, 2) := by decide +kernel
theorem dX5_confused_32 : decode cX5_confused 32 = .ok (.aload_n 0, 1) := by decide +kernel
theorem dX5_confused_33 : decode cX5_confused 33 = .ok (.getfield 57, 3) := by decide +kernel
theorem dX5_confused_36 : decode cX5_confused 36 = .ok (.if_icmp .ge 32, 3) := by decide +kernel
theorem dX5_confused_39 : decode cX5_confused 39 = .ok (.iload_n 3, 1) := by decide +kernel
theorem dX5_confused_40 : decode cX5_confused 40 = .ok (.iload_n 1, 1) := by decide +kernel
theorem dX5_confused_41 : decode cX5_confused 41 = .ok (.if_icmp .eq 21, 3) := by decide +kernel
theorem dX5_confused_44 : decode cX5_confused 44 = .ok (.aload_n 0, 1) := by decide +kernel
theorem dX5_confused_45 : decode cX5_confused 45 = .ok (.iload_n 3, 1) := by decide +kernel
theorem dX5_confused_46 : decode cX5_confused 46 = .ok (.iload_n 1, 1) := by decide +kernel
theorem dX5_confused_47 : decode cX5_confused 47 = .ok (.iload 4, 2) := by decide +kernel
theorem dX5_confused_49 : decode cX5_confused 49 = .ok (.invokevirtual 250, 3) := by decide +kernel
theorem dX5_confused_52 : decode cX5_confused 52 = .ok (.iconst (-1), 1) := by decide +kernel
theorem dX5_confused_53 : decode cX5_confused 53 = .ok (.if_icmp .ne 9, 3) := by decide +kernel
theorem dX5_confused_56 : decode cX5_confused 56 = .ok (.iload_n 2, 1) := by decide +kernel
theorem dX5_confused_57 : decode cX5_confused 57 = .ok (.iconst 1, 1) := by decide +kernel
theorem dX5_confused_58 : decode cX5_confused 58 = .ok (.iload_n 3, 1) := by decide +kernel
theorem dX5_confused_59 : decode cX5_confused 59 = .ok (.ishl, 1) := by decide +kernel
theorem dX5_confused_60 : decode cX5_confused 60 = .ok (.ior, 1) := by decide +kernel
theorem dX5_confused_61 : decode cX5_confused 61 = .ok (.istore_n 2, 1) := by decide +kernel
theorem dX5_confused_62 : decode cX5_confused 62 = .ok (.iinc 4 1, 3) := by decide +kernel
theorem dX5_confused_65 : decode cX5_confused 65 = .ok (.goto (-35), 3) := by decide +kernel
theorem dX5_confused_68 : decode cX5_confused 68 = .ok (.iinc 3 1, 3) := by decide +kernel
theorem dX5_confused_71 : decode cX5_confused 71 = .ok (.goto (-52), 3) := by decide +kernel
theorem dX5_confused_74 : decode cX5_confused 74 = .ok (.iload_n 2, 1) := by decide +kernel
theorem dX5_confused_75 : decode cX5_confused 75 = .ok (.ireturn, 1) := by decide +kernel
theorem dX5_straight_0 : decode cX5_straight 0 = .ok (.iconst 0, 1) := by decide +kernel
theorem dX5_straight_1 : decode cX5_straight 1 = .ok (.istore_n 3, 1) := by decide +kernel
theorem dX5_straight_2 : decode cX5_straight 2 = .ok (.iconst 0, 1) := by decide +kernel
theorem dX5_straight_3 : decode cX5_straight 3 = .ok (.istore 4, 2) := by decide +kernel
theorem dX5_straight_5 : decode cX5_straight 5 = .ok (.iload 4, 2) := by decide +kernel
theorem dX5_straight_7 : decode cX5_straight 7 = .ok (.aload_n 0, 1) := by decide +kernel
theorem dX5_straight_8 : decode cX5_straight 8 = .ok (.getfield 57, 3) := by decide +kernel
theorem dX5_straight_11 : decode cX5_straight 11 = .ok (.if_icmp .ge 28, 3) := by decide +kernel
theorem dX5_straight_14 : decode cX5_straight 14 = .ok (.iload_n 3, 1) := by decide +kernel
theorem dX5_straight_15 : decode cX5_straight 15 = .ok (.aload_n 0, 1) := by decide +kernel
theorem dX5_straight_16 : decode cX5_straight 16 = .ok (.iload_n 1, 1) := by decide +kernel
theorem dX5_straight_17 : decode cX5_straight 17 = .ok (.iload 4, 2) := by decide +kernel
theorem dX5_straight_19 : decode cX5_straight 19 = .ok (.aload_n 0, 1) := by decide +kernel
theorem dX5_straight_20 : decode cX5_straight 20 = .ok (.getfield 57, 3) := by decide +kernel
theorem dX5_straight_23 : decode cX5_straight 23 = .ok (.imul, 1) := by decide +kernel
theorem dX5_straight_24 : decode cX5_straight 24 = .ok (.iload_n 2, 1) := by decide +kernel
theorem dX5_straight_25 : decode cX5_straight 25 = .ok (.iadd, 1) := by decide +kernel
theorem dX5_straight_26 : decode cX5_straight 26 = .ok (.iload 4, 2) := by decide +kernel
theorem dX5_straight_28 : decode cX5_straight 28 = .ok (.invokevirtual 99, 3) := by decide +kernel
theorem dX5_straight_31 : decode cX5_straight 31 = .ok (.iadd, 1) := by decide +kernel
theorem dX5_straight_32 : decode cX5_straight 32 = .ok (.istore_n 3, 1) := by decide +kernel
theorem dX5_straight_33 : decode cX5_straight 33 = .ok (.iinc 4 1, 3) := by decide +kernel
theorem dX5_straight_36 : decode cX5_straight 36 = .ok (.goto (-31), 3) := by decide +kernel
theorem dX5_straight_39 : decode cX5_straight 39 = .ok (.iload_n 3, 1) := by decide +kernel
theorem dX5_straight_40 : decode cX5_straight 40 = .ok (.ireturn, 1) := by decide +kernel
theorem dX5_column_0 : decode cX5_column 0 = .ok (.aload_n 0, 1) := by decide +kernel
theorem dX5_column_1 : decode cX5_column 1 = .ok (.iload_n 1, 1) := by decide +kernel
theorem dX5_column_2 : decode cX5_column 2 = .ok (.invokevirtual 92, 3) := by decide +kernel
theorem dX5_column_5 : decode cX5_column 5 = .ok (.ifCond .ne 10, 3) := by decide +kernel
theorem dX5_column_8 : decode cX5_column 8 = .ok (.aload_n 0, 1) := by decide +kernel
theorem dX5_column_9 : decode cX5_column 9 = .ok (.bipush (-2), 2) := by decide +kernel
theorem dX5_column_11 : decode cX5_column 11 = .ok (.invokevirtual 78, 3) := by decide +kernel
theorem dX5_column_14 : decode cX5_column 14 = .ok (.ireturn, 1) := by decide +kernel
theorem dX5_column_15 : decode cX5_column 15 = .ok (.iconst 0, 1) := by decide +kernel
theorem dX5_column_16 : decode cX5_column 16 = .ok (.istore_n 2, 1) := by decide +kernel
theorem dX5_column_17 : decode cX5_column 17 = .ok (.iconst 1, 1) := by decide +kernel
theorem dX5_column_18 : decode cX5_column 18 = .ok (.istore_n 3, 1) := by decide +kernel
theorem dX5_column_19 : decode cX5_column 19 = .ok (.iload_n 3, 1) := by decide +kernel
theorem dX5_column_20 : decode cX5_column 20 = .ok (.aload_n 0, 1) := by decide +kernel
theorem dX5_column_21 : decode cX5_column 21 = .ok (.getfield 57, 3) := by decide +kernel
theorem dX5_column_24 : decode cX5_column 24 = .ok (.if_icmp .ge 26, 3) := by decide +kernel
theorem dX5_column_27 : decode cX5_column 27 = .ok (.aload_n 0, 1) := by decide +kernel
theorem dX5_column_28 : decode cX5_column 28 = .ok (.iload_n 1, 1) := by decide +kernel
theorem dX5_column_29 : decode cX5_column 29 = .ok (.iload_n 3, 1) := by decide +kernel
theorem dX5_column_30 : decode cX5_column 30 = .ok (.invokevirtual 253, 3) := by decide +kernel
theorem dX5_column_33 : decode cX5_column 33 = .ok (.aload_n 0, 1) := by decide +kernel
theorem dX5_column_34 : decode cX5_column 34 = .ok (.iload_n 1, 1) := by decide +kernel
theorem dX5_column_35 : decode cX5_column 35 = .ok (.iload_n 2, 1) := by decide +kernel
theorem dX5_column_36 : decode cX5_column 36 = .ok (.invokevirtual 253, 3) := by decide +kernel
theorem dX5_column_39 : decode cX5_column 39 = .ok (.if_icmp .ge 5, 3) := by decide +kernel
theorem dX5_column_42 : decode cX5_column 42 = .ok (.iload_n 3, 1) := by decide +kernel
theorem dX5_column_43 : decode cX5_column 43 = .ok (.istore_n 2, 1) := by decide +kernel
theorem dX5_column_44 : decode cX5_column 44 = .ok (.iinc 3 1, 3) := by decide +kernel
theorem dX5_column_47 : decode cX5_column 47 = .ok (.goto (-28), 3) := by decide +kernel
theorem dX5_column_50 : decode cX5_column 50 = .ok (.iload_n 2, 1) := by decide +kernel
theorem dX5_column_51 : decode cX5_column 51 = .ok (.ireturn, 1) := by decide +kernel
theorem dX5_allLikely_0 : decode cX5_allLikely 0 = .ok (.iconst 0, 1) := by decide +kernel
theorem dX5_allLikely_1 : decode cX5_allLikely 1 = .ok (.istore_n 1, 1) := by decide +kernel
theorem dX5_allLikely_2 : decode cX5_allLikely 2 = .ok (.iconst 0, 1) := by decide +kernel
theorem dX5_allLikely_3 : decode cX5_allLikely 3 = .ok (.istore_n 2, 1) := by decide +kernel
theorem dX5_allLikely_4 : decode cX5_allLikely 4 = .ok (.iload_n 2, 1) := by decide +kernel
theorem dX5_allLikely_5 : decode cX5_allLikely 5 = .ok (.aload_n 0, 1) := by decide +kernel
theorem dX5_allLikely_6 : decode cX5_allLikely 6 = .ok (.getfield 67, 3) := by decide +kernel
theorem dX5_allLikely_9 : decode cX5_allLikely 9 = .ok (.if_icmp .ge 18, 3) := by decide +kernel
theorem dX5_allLikely_12 : decode cX5_allLikely 12 = .ok (.iload_n 1, 1) := by decide +kernel
theorem dX5_allLikely_13 : decode cX5_allLikely 13 = .ok (.aload_n 0, 1) := by decide +kernel
theorem dX5_allLikely_14 : decode cX5_allLikely 14 = .ok (.getfield 19, 3) := by decide +kernel
theorem dX5_allLikely_17 : decode cX5_allLikely 17 = .ok (.iload_n 2, 1) := by decide +kernel
theorem dX5_allLikely_18 : decode cX5_allLikely 18 = .ok (.iaload, 1) := by decide +kernel
theorem dX5_allLikely_19 : decode cX5_allLikely 19 = .ok (.iadd, 1) := by decide +kernel
theorem dX5_allLikely_20 : decode cX5_allLikely 20 = .ok (.istore_n 1, 1) := by decide +kernel
theorem dX5_allLikely_21 : decode cX5_allLikely 21 = .ok (.iinc 2 1, 3) := by decide +kernel
theorem dX5_allLikely_24 : decode cX5_allLikely 24 = .ok (.goto (-20), 3) := by decide +kernel
theorem dX5_allLikely_27 : decode cX5_allLikely 27 = .ok (.iload_n 1, 1) := by decide +kernel
theorem dX5_allLikely_28 : decode cX5_allLikely 28 = .ok (.ireturn, 1) := by decide +kernel
theorem dX5_odds_0 : decode cX5_odds 0 = .ok (.aload_n 0, 1) := by decide +kernel
theorem dX5_odds_1 : decode cX5_odds 1 = .ok (.iload_n 1, 1) := by decide +kernel
theorem dX5_odds_2 : decode cX5_odds 2 = .ok (.invokevirtual 92, 3) := by decide +kernel
theorem dX5_odds_5 : decode cX5_odds 5 = .ok (.ifCond .eq 21, 3) := by decide +kernel
theorem dX5_odds_8 : decode cX5_odds 8 = .ok (.sipush 1000, 3) := by decide +kernel
theorem dX5_odds_11 : decode cX5_odds 11 = .ok (.aload_n 0, 1) := by decide +kernel
theorem dX5_odds_12 : decode cX5_odds 12 = .ok (.getfield 19, 3) := by decide +kernel
theorem dX5_odds_15 : decode cX5_odds 15 = .ok (.iload_n 1, 1) := by decide +kernel
theorem dX5_odds_16 : decode cX5_odds 16 = .ok (.iaload, 1) := by decide +kernel
theorem dX5_odds_17 : decode cX5_odds 17 = .ok (.imul, 1) := by decide +kernel
theorem dX5_odds_18 : decode cX5_odds 18 = .ok (.aload_n 0, 1) := by decide +kernel
theorem dX5_odds_19 : decode cX5_odds 19 = .ok (.invokevirtual 256, 3) := by decide +kernel
theorem dX5_odds_22 : decode cX5_odds 22 = .ok (.idiv, 1) := by decide +kernel
theorem dX5_odds_23 : decode cX5_odds 23 = .ok (.goto 9, 3) := by decide +kernel
theorem dX5_odds_26 : decode cX5_odds 26 = .ok (.aload_n 0, 1) := by decide +kernel
theorem dX5_odds_27 : decode cX5_odds 27 = .ok (.bipush (-2), 2) := by decide +kernel
theorem dX5_odds_29 : decode cX5_odds 29 = .ok (.invokevirtual 78, 3) := by decide +kernel
theorem dX5_odds_32 : decode cX5_odds 32 = .ok (.ireturn, 1) := by decide +kernel
theorem dX5_worst_0 : decode cX5_worst 0 = .ok (.aload_n 0, 1) := by decide +kernel
theorem dX5_worst_1 : decode cX5_worst 1 = .ok (.iload_n 1, 1) := by decide +kernel
theorem dX5_worst_2 : decode cX5_worst 2 = .ok (.invokevirtual 92, 3) := by decide +kernel
theorem dX5_worst_5 : decode cX5_worst 5 = .ok (.ifCond .ne 10, 3) := by decide +kernel
theorem dX5_worst_8 : decode cX5_worst 8 = .ok (.aload_n 0, 1) := by decide +kernel
theorem dX5_worst_9 : decode cX5_worst 9 = .ok (.bipush (-2), 2) := by decide +kernel
theorem dX5_worst_11 : decode cX5_worst 11 = .ok (.invokevirtual 78, 3) := by decide +kernel
theorem dX5_worst_14 : decode cX5_worst 14 = .ok (.ireturn, 1) := by decide +kernel
theorem dX5_worst_15 : decode cX5_worst 15 = .ok (.iconst 0, 1) := by decide +kernel
theorem dX5_worst_16 : decode cX5_worst 16 = .ok (.istore_n 2, 1) := by decide +kernel
theorem dX5_worst_17 : decode cX5_worst 17 = .ok (.iconst 1, 1) := by decide +kernel
theorem dX5_worst_18 : decode cX5_worst 18 = .ok (.istore_n 3, 1) := by decide +kernel
theorem dX5_worst_19 : decode cX5_worst 19 = .ok (.iload_n 3, 1) := by decide +kernel
theorem dX5_worst_20 : decode cX5_worst 20 = .ok (.aload_n 0, 1) := by decide +kernel
theorem dX5_worst_21 : decode cX5_worst 21 = .ok (.getfield 57, 3) := by decide +kernel
theorem dX5_worst_24 : decode cX5_worst 24 = .ok (.aload_n 0, 1) := by decide +kernel
theorem dX5_worst_25 : decode cX5_worst 25 = .ok (.getfield 57, 3) := by decide +kernel
theorem dX5_worst_28 : decode cX5_worst 28 = .ok (.imul, 1) := by decide +kernel
theorem dX5_worst_29 : decode cX5_worst 29 = .ok (.if_icmp .ge 26, 3) := by decide +kernel
theorem dX5_worst_32 : decode cX5_worst 32 = .ok (.aload_n 0, 1) := by decide +kernel
theorem dX5_worst_33 : decode cX5_worst 33 = .ok (.iload_n 1, 1) := by decide +kernel
theorem dX5_worst_34 : decode cX5_worst 34 = .ok (.iload_n 3, 1) := by decide +kernel
theorem dX5_worst_35 : decode cX5_worst 35 = .ok (.invokevirtual 190, 3) := by decide +kernel
theorem dX5_worst_38 : decode cX5_worst 38 = .ok (.aload_n 0, 1) := by decide +kernel
theorem dX5_worst_39 : decode cX5_worst 39 = .ok (.iload_n 1, 1) := by decide +kernel
theorem dX5_worst_40 : decode cX5_worst 40 = .ok (.iload_n 2, 1) := by decide +kernel
theorem dX5_worst_41 : decode cX5_worst 41 = .ok (.invokevirtual 190, 3) := by decide +kernel
theorem dX5_worst_44 : decode cX5_worst 44 = .ok (.if_icmp .le 5, 3) := by decide +kernel
theorem dX5_worst_47 : decode cX5_worst 47 = .ok (.iload_n 3, 1) := by decide +kernel
theorem dX5_worst_48 : decode cX5_worst 48 = .ok (.istore_n 2, 1) := by decide +kernel
theorem dX5_worst_49 : decode cX5_worst 49 = .ok (.iinc 3 1, 3) := by decide +kernel
theorem dX5_worst_52 : decode cX5_worst 52 = .ok (.goto (-33), 3) := by decide +kernel
theorem dX5_worst_55 : decode cX5_worst 55 = .ok (.iload_n 2, 1) := by decide +kernel
theorem dX5_worst_56 : decode cX5_worst 56 = .ok (.ireturn, 1) := by decide +kernel
theorem dX5_ranked_0 : decode cX5_ranked 0 = .ok (.aload_n 0, 1) := by decide +kernel
theorem dX5_ranked_1 : decode cX5_ranked 1 = .ok (.iload_n 1, 1) := by decide +kernel
theorem dX5_ranked_2 : decode cX5_ranked 2 = .ok (.invokevirtual 92, 3) := by decide +kernel
theorem dX5_ranked_5 : decode cX5_ranked 5 = .ok (.ifCond .ne 10, 3) := by decide +kernel
theorem dX5_ranked_8 : decode cX5_ranked 8 = .ok (.aload_n 0, 1) := by decide +kernel
theorem dX5_ranked_9 : decode cX5_ranked 9 = .ok (.bipush (-2), 2) := by decide +kernel
theorem dX5_ranked_11 : decode cX5_ranked 11 = .ok (.invokevirtual 78, 3) := by decide +kernel
theorem dX5_ranked_14 : decode cX5_ranked 14 = .ok (.ireturn, 1) := by decide +kernel
theorem dX5_ranked_15 : decode cX5_ranked 15 = .ok (.iconst 0, 1) := by decide +kernel
theorem dX5_ranked_16 : decode cX5_ranked 16 = .ok (.istore_n 2, 1) := by decide +kernel
theorem dX5_ranked_17 : decode cX5_ranked 17 = .ok (.iload_n 2, 1) := by decide +kernel
theorem dX5_ranked_18 : decode cX5_ranked 18 = .ok (.aload_n 0, 1) := by decide +kernel
theorem dX5_ranked_19 : decode cX5_ranked 19 = .ok (.getfield 67, 3) := by decide +kernel
theorem dX5_ranked_22 : decode cX5_ranked 22 = .ok (.if_icmp .ge 73, 3) := by decide +kernel
theorem dX5_ranked_25 : decode cX5_ranked 25 = .ok (.iconst 0, 1) := by decide +kernel
theorem dX5_ranked_26 : decode cX5_ranked 26 = .ok (.istore_n 3, 1) := by decide +kernel
theorem dX5_ranked_27 : decode cX5_ranked 27 = .ok (.iconst 0, 1) := by decide +kernel
theorem dX5_ranked_28 : decode cX5_ranked 28 = .ok (.istore 4, 2) := by decide +kernel
theorem dX5_ranked_30 : decode cX5_ranked 30 = .ok (.iload 4, 2) := by decide +kernel
theorem dX5_ranked_32 : decode cX5_ranked 32 = .ok (.aload_n 0, 1) := by decide +kernel
theorem dX5_ranked_33 : decode cX5_ranked 33 = .ok (.getfield 67, 3) := by decide +kernel
theorem dX5_ranked_36 : decode cX5_ranked 36 = .ok (.if_icmp .ge 46, 3) := by decide +kernel
theorem dX5_ranked_39 : decode cX5_ranked 39 = .ok (.aload_n 0, 1) := by decide +kernel
theorem dX5_ranked_40 : decode cX5_ranked 40 = .ok (.iload 4, 2) := by decide +kernel
theorem dX5_ranked_42 : decode cX5_ranked 42 = .ok (.invokevirtual 212, 3) := by decide +kernel
theorem dX5_ranked_45 : decode cX5_ranked 45 = .ok (.aload_n 0, 1) := by decide +kernel
theorem dX5_ranked_46 : decode cX5_ranked 46 = .ok (.iload_n 2, 1) := by decide +kernel
theorem dX5_ranked_47 : decode cX5_ranked 47 = .ok (.invokevirtual 212, 3) := by decide +kernel
theorem dX5_ranked_50 : decode cX5_ranked 50 = .ok (.if_icmp .lt 23, 3) := by decide +kernel
theorem dX5_ranked_53 : decode cX5_ranked 53 = .ok (.aload_n 0, 1) := by decide +kernel
theorem dX5_ranked_54 : decode cX5_ranked 54 = .ok (.iload 4, 2) := by decide +kernel
theorem dX5_ranked_56 : decode cX5_ranked 56 = .ok (.invokevirtual 212, 3) := by decide +kernel
theorem dX5_ranked_59 : decode cX5_ranked 59 = .ok (.aload_n 0, 1) := by decide +kernel
theorem dX5_ranked_60 : decode cX5_ranked 60 = .ok (.iload_n 2, 1) := by decide +kernel
theorem dX5_ranked_61 : decode cX5_ranked 61 = .ok (.invokevirtual 212, 3) := by decide +kernel
theorem dX5_ranked_64 : decode cX5_ranked 64 = .ok (.if_icmp .ne 12, 3) := by decide +kernel
theorem dX5_ranked_67 : decode cX5_ranked 67 = .ok (.iload 4, 2) := by decide +kernel
theorem dX5_ranked_69 : decode cX5_ranked 69 = .ok (.iload_n 2, 1) := by decide +kernel
theorem dX5_ranked_70 : decode cX5_ranked 70 = .ok (.if_icmp .ge 6, 3) := by decide +kernel
theorem dX5_ranked_73 : decode cX5_ranked 73 = .ok (.iinc 3 1, 3) := by decide +kernel
theorem dX5_ranked_76 : decode cX5_ranked 76 = .ok (.iinc 4 1, 3) := by decide +kernel
theorem dX5_ranked_79 : decode cX5_ranked 79 = .ok (.goto (-49), 3) := by decide +kernel
theorem dX5_ranked_82 : decode cX5_ranked 82 = .ok (.iload_n 3, 1) := by decide +kernel
theorem dX5_ranked_83 : decode cX5_ranked 83 = .ok (.iload_n 1, 1) := by decide +kernel
theorem dX5_ranked_84 : decode cX5_ranked 84 = .ok (.if_icmp .ne 5, 3) := by decide +kernel
theorem dX5_ranked_87 : decode cX5_ranked 87 = .ok (.iload_n 2, 1) := by decide +kernel
theorem dX5_ranked_88 : decode cX5_ranked 88 = .ok (.ireturn, 1) := by decide +kernel
theorem dX5_ranked_89 : decode cX5_ranked 89 = .ok (.iinc 2 1, 3) := by decide +kernel
theorem dX5_ranked_92 : decode cX5_ranked 92 = .ok (.goto (-75), 3) := by decide +kernel
theorem dX5_ranked_95 : decode cX5_ranked 95 = .ok (.iconst (-1), 1) := by decide +kernel
theorem dX5_ranked_96 : decode cX5_ranked 96 = .ok (.ireturn, 1) := by decide +kernel
theorem dX5_noHeard_0 : decode cX5_noHeard 0 = .ok (.aload_n 0, 1) := by decide +kernel
theorem dX5_noHeard_1 : decode cX5_noHeard 1 = .ok (.iload_n 1, 1) := by decide +kernel
theorem dX5_noHeard_2 : decode cX5_noHeard 2 = .ok (.invokevirtual 82, 3) := by decide +kernel
theorem dX5_noHeard_5 : decode cX5_noHeard 5 = .ok (.ifCond .ne 11, 3) := by decide +kernel
theorem dX5_noHeard_8 : decode cX5_noHeard 8 = .ok (.aload_n 0, 1) := by decide +kernel
theorem dX5_noHeard_9 : decode cX5_noHeard 9 = .ok (.iload_n 1, 1) := by decide +kernel
theorem dX5_noHeard_10 : decode cX5_noHeard 10 = .ok (.invokevirtual 85, 3) := by decide +kernel
theorem dX5_noHeard_13 : decode cX5_noHeard 13 = .ok (.goto 22, 3) := by decide +kernel
theorem dX5_noHeard_16 : decode cX5_noHeard 16 = .ok (.aload_n 0, 1) := by decide +kernel
theorem dX5_noHeard_17 : decode cX5_noHeard 17 = .ok (.getfield 28, 3) := by decide +kernel
theorem dX5_noHeard_20 : decode cX5_noHeard 20 = .ok (.iload_n 1, 1) := by decide +kernel
theorem dX5_noHeard_21 : decode cX5_noHeard 21 = .ok (.iaload, 1) := by decide +kernel
theorem dX5_noHeard_22 : decode cX5_noHeard 22 = .ok (.aload_n 0, 1) := by decide +kernel
theorem dX5_noHeard_23 : decode cX5_noHeard 23 = .ok (.getfield 57, 3) := by decide +kernel
theorem dX5_noHeard_26 : decode cX5_noHeard 26 = .ok (.if_icmp .ge 8, 3) := by decide +kernel
theorem dX5_noHeard_29 : decode cX5_noHeard 29 = .ok (.bipush (-2), 2) := by decide +kernel
theorem dX5_noHeard_31 : decode cX5_noHeard 31 = .ok (.goto 4, 3) := by decide +kernel
theorem dX5_noHeard_34 : decode cX5_noHeard 34 = .ok (.iconst 0, 1) := by decide +kernel
theorem dX5_noHeard_35 : decode cX5_noHeard 35 = .ok (.ireturn, 1) := by decide +kernel
theorem dX5_toldAt_0 : decode cX5_toldAt 0 = .ok (.aload_n 0, 1) := by decide +kernel
theorem dX5_toldAt_1 : decode cX5_toldAt 1 = .ok (.getfield 31, 3) := by decide +kernel
theorem dX5_toldAt_4 : decode cX5_toldAt 4 = .ok (.bipush 40, 2) := by decide +kernel
theorem dX5_toldAt_6 : decode cX5_toldAt 6 = .ok (.iload_n 1, 1) := by decide +kernel
theorem dX5_toldAt_7 : decode cX5_toldAt 7 = .ok (.imul, 1) := by decide +kernel
theorem dX5_toldAt_8 : decode cX5_toldAt 8 = .ok (.iload_n 2, 1) := by decide +kernel
theorem dX5_toldAt_9 : decode cX5_toldAt 9 = .ok (.iadd, 1) := by decide +kernel
theorem dX5_toldAt_10 : decode cX5_toldAt 10 = .ok (.laload, 1) := by decide +kernel
theorem dX5_toldAt_11 : decode cX5_toldAt 11 = .ok (.lreturn, 1) := by decide +kernel
theorem dX5_fits_0 : decode cX5_fits 0 = .ok (.iconst 0, 1) := by decide +kernel
theorem dX5_fits_1 : decode cX5_fits 1 = .ok (.istore 4, 2) := by decide +kernel
theorem dX5_fits_3 : decode cX5_fits 3 = .ok (.iload 4, 2) := by decide +kernel
theorem dX5_fits_5 : decode cX5_fits 5 = .ok (.aload_n 0, 1) := by decide +kernel
theorem dX5_fits_6 : decode cX5_fits 6 = .ok (.getfield 57, 3) := by decide +kernel
theorem dX5_fits_9 : decode cX5_fits 9 = .ok (.if_icmp .ge 37, 3) := by decide +kernel
theorem dX5_fits_12 : decode cX5_fits 12 = .ok (.aload_n 0, 1) := by decide +kernel
theorem dX5_fits_13 : decode cX5_fits 13 = .ok (.iload_n 1, 1) := by decide +kernel
theorem dX5_fits_14 : decode cX5_fits 14 = .ok (.iload 4, 2) := by decide +kernel
theorem dX5_fits_16 : decode cX5_fits 16 = .ok (.invokevirtual 259, 3) := by decide +kernel
theorem dX5_fits_19 : decode cX5_fits 19 = .ok (.aload_n 0, 1) := by decide +kernel
theorem dX5_fits_20 : decode cX5_fits 20 = .ok (.iload_n 2, 1) := by decide +kernel
theorem dX5_fits_21 : decode cX5_fits 21 = .ok (.iload 4, 2) := by decide +kernel
theorem dX5_fits_23 : decode cX5_fits 23 = .ok (.aload_n 0, 1) := by decide +kernel
theorem dX5_fits_24 : decode cX5_fits 24 = .ok (.getfield 57, 3) := by decide +kernel
theorem dX5_fits_27 : decode cX5_fits 27 = .ok (.imul, 1) := by decide +kernel
theorem dX5_fits_28 : decode cX5_fits 28 = .ok (.iload_n 3, 1) := by decide +kernel
theorem dX5_fits_29 : decode cX5_fits 29 = .ok (.iadd, 1) := by decide +kernel
theorem dX5_fits_30 : decode cX5_fits 30 = .ok (.iload 4, 2) := by decide +kernel
theorem dX5_fits_32 : decode cX5_fits 32 = .ok (.invokevirtual 99, 3) := by decide +kernel
theorem dX5_fits_35 : decode cX5_fits 35 = .ok (.i2l, 1) := by decide +kernel
theorem dX5_fits_36 : decode cX5_fits 36 = .ok (.lcmp, 1) := by decide +kernel
theorem dX5_fits_37 : decode cX5_fits 37 = .ok (.ifCond .ne 9, 3) := by decide +kernel
theorem dX5_fits_40 : decode cX5_fits 40 = .ok (.iinc 4 1, 3) := by decide +kernel
theorem dX5_fits_43 : decode cX5_fits 43 = .ok (.goto (-40), 3) := by decide +kernel
theorem dX5_fits_46 : decode cX5_fits 46 = .ok (.iload 4, 2) := by decide +kernel
theorem dX5_fits_48 : decode cX5_fits 48 = .ok (.ireturn, 1) := by decide +kernel
theorem dX5_fitting_0 : decode cX5_fitting 0 = .ok (.iconst 0, 1) := by decide +kernel
theorem dX5_fitting_1 : decode cX5_fitting 1 = .ok (.istore_n 3, 1) := by decide +kernel
theorem dX5_fitting_2 : decode cX5_fitting 2 = .ok (.iconst 0, 1) := by decide +kernel
theorem dX5_fitting_3 : decode cX5_fitting 3 = .ok (.istore 4, 2) := by decide +kernel
theorem dX5_fitting_5 : decode cX5_fitting 5 = .ok (.iload 4, 2) := by decide +kernel
theorem dX5_fitting_7 : decode cX5_fitting 7 = .ok (.aload_n 0, 1) := by decide +kernel
theorem dX5_fitting_8 : decode cX5_fitting 8 = .ok (.getfield 67, 3) := by decide +kernel
theorem dX5_fitting_11 : decode cX5_fitting 11 = .ok (.if_icmp .ge 31, 3) := by decide +kernel
theorem dX5_fitting_14 : decode cX5_fitting 14 = .ok (.aload_n 0, 1) := by decide +kernel
theorem dX5_fitting_15 : decode cX5_fitting 15 = .ok (.iload_n 1, 1) := by decide +kernel
theorem dX5_fitting_16 : decode cX5_fitting 16 = .ok (.iload 4, 2) := by decide +kernel
theorem dX5_fitting_18 : decode cX5_fitting 18 = .ok (.iload_n 2, 1) := by decide +kernel
theorem dX5_fitting_19 : decode cX5_fitting 19 = .ok (.invokevirtual 263, 3) := by decide +kernel
theorem dX5_fitting_22 : decode cX5_fitting 22 = .ok (.aload_n 0, 1) := by decide +kernel
theorem dX5_fitting_23 : decode cX5_fitting 23 = .ok (.getfield 57, 3) := by decide +kernel
theorem dX5_fitting_26 : decode cX5_fitting 26 = .ok (.if_icmp .ne 10, 3) := by decide +kernel
theorem dX5_fitting_29 : decode cX5_fitting 29 = .ok (.iload_n 3, 1) := by decide +kernel
theorem dX5_fitting_30 : decode cX5_fitting 30 = .ok (.iconst 1, 1) := by decide +kernel
theorem dX5_fitting_31 : decode cX5_fitting 31 = .ok (.iload 4, 2) := by decide +kernel
theorem dX5_fitting_33 : decode cX5_fitting 33 = .ok (.ishl, 1) := by decide +kernel
theorem dX5_fitting_34 : decode cX5_fitting 34 = .ok (.ior, 1) := by decide +kernel
theorem dX5_fitting_35 : decode cX5_fitting 35 = .ok (.istore_n 3, 1) := by decide +kernel
theorem dX5_fitting_36 : decode cX5_fitting 36 = .ok (.iinc 4 1, 3) := by decide +kernel
theorem dX5_fitting_39 : decode cX5_fitting 39 = .ok (.goto (-34), 3) := by decide +kernel
theorem dX5_fitting_42 : decode cX5_fitting 42 = .ok (.iload_n 3, 1) := by decide +kernel
theorem dX5_fitting_43 : decode cX5_fitting 43 = .ok (.ireturn, 1) := by decide +kernel
theorem dX5_likeliest_0 : decode cX5_likeliest 0 = .ok (.iconst (-1), 1) := by decide +kernel
theorem dX5_likeliest_1 : decode cX5_likeliest 1 = .ok (.istore_n 2, 1) := by decide +kernel
theorem dX5_likeliest_2 : decode cX5_likeliest 2 = .ok (.iconst 0, 1) := by decide +kernel
theorem dX5_likeliest_3 : decode cX5_likeliest 3 = .ok (.istore_n 3, 1) := by decide +kernel
theorem dX5_likeliest_4 : decode cX5_likeliest 4 = .ok (.iload_n 3, 1) := by decide +kernel
theorem dX5_likeliest_5 : decode cX5_likeliest 5 = .ok (.aload_n 0, 1) := by decide +kernel
theorem dX5_likeliest_6 : decode cX5_likeliest 6 = .ok (.getfield 67, 3) := by decide +kernel
theorem dX5_likeliest_9 : decode cX5_likeliest 9 = .ok (.if_icmp .ge 40, 3) := by decide +kernel
theorem dX5_likeliest_12 : decode cX5_likeliest 12 = .ok (.iload_n 1, 1) := by decide +kernel
theorem dX5_likeliest_13 : decode cX5_likeliest 13 = .ok (.iload_n 3, 1) := by decide +kernel
theorem dX5_likeliest_14 : decode cX5_likeliest 14 = .ok (.ishr, 1) := by decide +kernel
theorem dX5_likeliest_15 : decode cX5_likeliest 15 = .ok (.iconst 1, 1) := by decide +kernel
theorem dX5_likeliest_16 : decode cX5_likeliest 16 = .ok (.iand, 1) := by decide +kernel
theorem dX5_likeliest_17 : decode cX5_likeliest 17 = .ok (.iconst 1, 1) := by decide +kernel
theorem dX5_likeliest_18 : decode cX5_likeliest 18 = .ok (.if_icmp .ne 25, 3) := by decide +kernel
theorem dX5_likeliest_21 : decode cX5_likeliest 21 = .ok (.iload_n 2, 1) := by decide +kernel
theorem dX5_likeliest_22 : decode cX5_likeliest 22 = .ok (.iconst (-1), 1) := by decide +kernel
theorem dX5_likeliest_23 : decode cX5_likeliest 23 = .ok (.if_icmp .eq 18, 3) := by decide +kernel
theorem dX5_likeliest_26 : decode cX5_likeliest 26 = .ok (.aload_n 0, 1) := by decide +kernel
theorem dX5_likeliest_27 : decode cX5_likeliest 27 = .ok (.getfield 19, 3) := by decide +kernel
theorem dX5_likeliest_30 : decode cX5_likeliest 30 = .ok (.iload_n 3, 1) := by decide +kernel
theorem dX5_likeliest_31 : decode cX5_likeliest 31 = .ok (.iaload, 1) := by decide +kernel
theorem dX5_likeliest_32 : decode cX5_likeliest 32 = .ok (.aload_n 0, 1) := by decide +kernel
theorem dX5_likeliest_33 : decode cX5_likeliest 33 = .ok (.getfield 19, 3) := by decide +kernel
theorem dX5_likeliest_36 : decode cX5_likeliest 36 = .ok (.iload_n 2, 1) := by decide +kernel
theorem dX5_likeliest_37 : decode cX5_likeliest 37 = .ok (.iaload, 1) := by decide +kernel
theorem dX5_likeliest_38 : decode cX5_likeliest 38 = .ok (.if_icmp .le 5, 3) := by decide +kernel
theorem dX5_likeliest_41 : decode cX5_likeliest 41 = .ok (.iload_n 3, 1) := by decide +kernel
theorem dX5_likeliest_42 : decode cX5_likeliest 42 = .ok (.istore_n 2, 1) := by decide +kernel
theorem dX5_likeliest_43 : decode cX5_likeliest 43 = .ok (.iinc 3 1, 3) := by decide +kernel
theorem dX5_likeliest_46 : decode cX5_likeliest 46 = .ok (.goto (-42), 3) := by decide +kernel
theorem dX5_likeliest_49 : decode cX5_likeliest 49 = .ok (.iload_n 2, 1) := by decide +kernel
theorem dX5_likeliest_50 : decode cX5_likeliest 50 = .ok (.ireturn, 1) := by decide +kernel
theorem dX5_sure_0 : decode cX5_sure 0 = .ok (.iconst 1, 1) := by decide +kernel
theorem dX5_sure_1 : decode cX5_sure 1 = .ok (.istore_n 3, 1) := by decide +kernel
theorem dX5_sure_2 : decode cX5_sure 2 = .ok (.iload_n 3, 1) := by decide +kernel
theorem dX5_sure_3 : decode cX5_sure 3 = .ok (.aload_n 0, 1) := by decide +kernel
theorem dX5_sure_4 : decode cX5_sure 4 = .ok (.getfield 57, 3) := by decide +kernel
theorem dX5_sure_7 : decode cX5_sure 7 = .ok (.if_icmp .gt 53, 3) := by decide +kernel
theorem dX5_sure_10 : decode cX5_sure 10 = .ok (.iconst 0, 1) := by decide +kernel
theorem dX5_sure_11 : decode cX5_sure 11 = .ok (.istore 4, 2) := by decide +kernel
theorem dX5_sure_13 : decode cX5_sure 13 = .ok (.iconst 0, 1) := by decide +kernel
theorem dX5_sure_14 : decode cX5_sure 14 = .ok (.istore 5, 2) := by decide +kernel
theorem dX5_sure_16 : decode cX5_sure 16 = .ok (.iload 5, 2) := by decide +kernel
theorem dX5_sure_18 : decode cX5_sure 18 = .ok (.aload_n 0, 1) := by decide +kernel
theorem dX5_sure_19 : decode cX5_sure 19 = .ok (.getfield 67, 3) := by decide +kernel
theorem dX5_sure_22 : decode cX5_sure 22 = .ok (.if_icmp .ge 24, 3) := by decide +kernel
theorem dX5_sure_25 : decode cX5_sure 25 = .ok (.aload_n 0, 1) := by decide +kernel
theorem dX5_sure_26 : decode cX5_sure 26 = .ok (.iload_n 1, 1) := by decide +kernel
theorem dX5_sure_27 : decode cX5_sure 27 = .ok (.iload 5, 2) := by decide +kernel
theorem dX5_sure_29 : decode cX5_sure 29 = .ok (.iload_n 2, 1) := by decide +kernel
theorem dX5_sure_30 : decode cX5_sure 30 = .ok (.invokevirtual 263, 3) := by decide +kernel
theorem dX5_sure_33 : decode cX5_sure 33 = .ok (.iload_n 3, 1) := by decide +kernel
theorem dX5_sure_34 : decode cX5_sure 34 = .ok (.if_icmp .lt 6, 3) := by decide +kernel
theorem dX5_sure_37 : decode cX5_sure 37 = .ok (.iinc 4 1, 3) := by decide +kernel
theorem dX5_sure_40 : decode cX5_sure 40 = .ok (.iinc 5 1, 3) := by decide +kernel
theorem dX5_sure_43 : decode cX5_sure 43 = .ok (.goto (-27), 3) := by decide +kernel
theorem dX5_sure_46 : decode cX5_sure 46 = .ok (.iload 4, 2) := by decide +kernel
theorem dX5_sure_48 : decode cX5_sure 48 = .ok (.iconst 1, 1) := by decide +kernel
theorem dX5_sure_49 : decode cX5_sure 49 = .ok (.if_icmp .ne 5, 3) := by decide +kernel
theorem dX5_sure_52 : decode cX5_sure 52 = .ok (.iload_n 3, 1) := by decide +kernel
theorem dX5_sure_53 : decode cX5_sure 53 = .ok (.ireturn, 1) := by decide +kernel
theorem dX5_sure_54 : decode cX5_sure 54 = .ok (.iinc 3 1, 3) := by decide +kernel
theorem dX5_sure_57 : decode cX5_sure 57 = .ok (.goto (-55), 3) := by decide +kernel
theorem dX5_sure_60 : decode cX5_sure 60 = .ok (.iconst (-1), 1) := by decide +kernel
theorem dX5_sure_61 : decode cX5_sure 61 = .ok (.ireturn, 1) := by decide +kernel
theorem dX5_who_0 : decode cX5_who 0 = .ok (.iload_n 1, 1) := by decide +kernel
theorem dX5_who_1 : decode cX5_who 1 = .ok (.invokestatic 74, 3) := by decide +kernel
theorem dX5_who_4 : decode cX5_who 4 = .ok (.ifCond .eq 20, 3) := by decide +kernel
theorem dX5_who_7 : decode cX5_who 7 = .ok (.aload_n 0, 1) := by decide +kernel
theorem dX5_who_8 : decode cX5_who 8 = .ok (.iload_n 2, 1) := by decide +kernel
theorem dX5_who_9 : decode cX5_who 9 = .ok (.invokevirtual 247, 3) := by decide +kernel
theorem dX5_who_12 : decode cX5_who 12 = .ok (.ifCond .eq 12, 3) := by decide +kernel
theorem dX5_who_15 : decode cX5_who 15 = .ok (.iload_n 3, 1) := by decide +kernel
theorem dX5_who_16 : decode cX5_who 16 = .ok (.iconst 0, 1) := by decide +kernel
theorem dX5_who_17 : decode cX5_who 17 = .ok (.iconst 3, 1) := by decide +kernel
theorem dX5_who_18 : decode cX5_who 18 = .ok (.invokestatic 70, 3) := by decide +kernel
theorem dX5_who_21 : decode cX5_who 21 = .ok (.ifCond .ne 10, 3) := by decide +kernel
theorem dX5_who_24 : decode cX5_who 24 = .ok (.aload_n 0, 1) := by decide +kernel
theorem dX5_who_25 : decode cX5_who 25 = .ok (.bipush (-2), 2) := by decide +kernel
theorem dX5_who_27 : decode cX5_who 27 = .ok (.invokevirtual 78, 3) := by decide +kernel
theorem dX5_who_30 : decode cX5_who 30 = .ok (.ireturn, 1) := by decide +kernel
theorem dX5_who_31 : decode cX5_who 31 = .ok (.aload_n 0, 1) := by decide +kernel
theorem dX5_who_32 : decode cX5_who 32 = .ok (.iload_n 1, 1) := by decide +kernel
theorem dX5_who_33 : decode cX5_who 33 = .ok (.invokevirtual 266, 3) := by decide +kernel
theorem dX5_who_36 : decode cX5_who 36 = .ok (.istore 4, 2) := by decide +kernel
theorem dX5_who_38 : decode cX5_who 38 = .ok (.iload 4, 2) := by decide +kernel
theorem dX5_who_40 : decode cX5_who 40 = .ok (.ifCond .ge 10, 3) := by decide +kernel
theorem dX5_who_43 : decode cX5_who 43 = .ok (.aload_n 0, 1) := by decide +kernel
theorem dX5_who_44 : decode cX5_who 44 = .ok (.iload 4, 2) := by decide +kernel
theorem dX5_who_46 : decode cX5_who 46 = .ok (.invokevirtual 78, 3) := by decide +kernel
theorem dX5_who_49 : decode cX5_who 49 = .ok (.ireturn, 1) := by decide +kernel
theorem dX5_who_50 : decode cX5_who 50 = .ok (.aload_n 0, 1) := by decide +kernel
theorem dX5_who_51 : decode cX5_who 51 = .ok (.iload_n 1, 1) := by decide +kernel
theorem dX5_who_52 : decode cX5_who 52 = .ok (.iload_n 2, 1) := by decide +kernel
theorem dX5_who_53 : decode cX5_who 53 = .ok (.invokevirtual 269, 3) := by decide +kernel
theorem dX5_who_56 : decode cX5_who 56 = .ok (.istore 5, 2) := by decide +kernel
theorem dX5_who_58 : decode cX5_who 58 = .ok (.iload_n 3, 1) := by decide +kernel
theorem dX5_who_59 : decode cX5_who 59 = .ok (.ifCond .ne 6, 3) := by decide +kernel
theorem dX5_who_62 : decode cX5_who 62 = .ok (.iload 5, 2) := by decide +kernel
theorem dX5_who_64 : decode cX5_who 64 = .ok (.ireturn, 1) := by decide +kernel
theorem dX5_who_65 : decode cX5_who 65 = .ok (.iload_n 3, 1) := by decide +kernel
theorem dX5_who_66 : decode cX5_who 66 = .ok (.iconst 1, 1) := by decide +kernel
theorem dX5_who_67 : decode cX5_who 67 = .ok (.if_icmp .ne 10, 3) := by decide +kernel
theorem dX5_who_70 : decode cX5_who 70 = .ok (.aload_n 0, 1) := by decide +kernel
theorem dX5_who_71 : decode cX5_who 71 = .ok (.iload 5, 2) := by decide +kernel
theorem dX5_who_73 : decode cX5_who 73 = .ok (.invokevirtual 272, 3) := by decide +kernel
theorem dX5_who_76 : decode cX5_who 76 = .ok (.ireturn, 1) := by decide +kernel
theorem dX5_who_77 : decode cX5_who 77 = .ok (.iload_n 3, 1) := by decide +kernel
theorem dX5_who_78 : decode cX5_who 78 = .ok (.iconst 3, 1) := by decide +kernel
theorem dX5_who_79 : decode cX5_who 79 = .ok (.if_icmp .ne 19, 3) := by decide +kernel
theorem dX5_who_82 : decode cX5_who 82 = .ok (.iload 5, 2) := by decide +kernel
theorem dX5_who_84 : decode cX5_who 84 = .ok (.ifCond .ne 7, 3) := by decide +kernel
theorem dX5_who_87 : decode cX5_who 87 = .ok (.iconst (-1), 1) := by decide +kernel
theorem dX5_who_88 : decode cX5_who 88 = .ok (.goto 9, 3) := by decide +kernel
theorem dX5_who_91 : decode cX5_who 91 = .ok (.aload_n 0, 1) := by decide +kernel
theorem dX5_who_92 : decode cX5_who 92 = .ok (.iload_n 1, 1) := by decide +kernel
theorem dX5_who_93 : decode cX5_who 93 = .ok (.iload_n 2, 1) := by decide +kernel
theorem dX5_who_94 : decode cX5_who 94 = .ok (.invokevirtual 275, 3) := by decide +kernel
theorem dX5_who_97 : decode cX5_who 97 = .ok (.ireturn, 1) := by decide +kernel
theorem dX5_who_98 : decode cX5_who 98 = .ok (.iload 5, 2) := by decide +kernel
theorem dX5_who_100 : decode cX5_who 100 = .ok (.ifCond .ne 10, 3) := by decide +kernel
theorem dX5_who_103 : decode cX5_who 103 = .ok (.aload_n 0, 1) := by decide +kernel
theorem dX5_who_104 : decode cX5_who 104 = .ok (.bipush (-5), 2) := by decide +kernel
theorem dX5_who_106 : decode cX5_who 106 = .ok (.invokevirtual 78, 3) := by decide +kernel
theorem dX5_who_109 : decode cX5_who 109 = .ok (.ireturn, 1) := by decide +kernel
theorem dX5_who_110 : decode cX5_who 110 = .ok (.iconst 0, 1) := by decide +kernel
theorem dX5_who_111 : decode cX5_who 111 = .ok (.istore 6, 2) := by decide +kernel
theorem dX5_who_113 : decode cX5_who 113 = .ok (.iconst 0, 1) := by decide +kernel
theorem dX5_who_114 : decode cX5_who 114 = .ok (.istore 7, 2) := by decide +kernel
theorem dX5_who_116 : decode cX5_who 116 = .ok (.iload 7, 2) := by decide +kernel
theorem dX5_who_118 : decode cX5_who 118 = .ok (.aload_n 0, 1) := by decide +kernel
theorem dX5_who_119 : decode cX5_who 119 = .ok (.getfield 67, 3) := by decide +kernel
theorem dX5_who_122 : decode cX5_who 122 = .ok (.if_icmp .ge 32, 3) := by decide +kernel
theorem dX5_who_125 : decode cX5_who 125 = .ok (.iload 5, 2) := by decide +kernel
theorem dX5_who_127 : decode cX5_who 127 = .ok (.iload 7, 2) := by decide +kernel
theorem dX5_who_129 : decode cX5_who 129 = .ok (.ishr, 1) := by decide +kernel
theorem dX5_who_130 : decode cX5_who 130 = .ok (.iconst 1, 1) := by decide +kernel
theorem dX5_who_131 : decode cX5_who 131 = .ok (.iand, 1) := by decide +kernel
theorem dX5_who_132 : decode cX5_who 132 = .ok (.iconst 1, 1) := by decide +kernel
theorem dX5_who_133 : decode cX5_who 133 = .ok (.if_icmp .ne 15, 3) := by decide +kernel
theorem dX5_who_136 : decode cX5_who 136 = .ok (.iload 6, 2) := by decide +kernel
theorem dX5_who_138 : decode cX5_who 138 = .ok (.aload_n 0, 1) := by decide +kernel
theorem dX5_who_139 : decode cX5_who 139 = .ok (.getfield 19, 3) := by decide +kernel
theorem dX5_who_142 : decode cX5_who 142 = .ok (.iload 7, 2) := by decide +kernel
theorem dX5_who_144 : decode cX5_who 144 = .ok (.iaload, 1) := by decide +kernel
theorem dX5_who_145 : decode cX5_who 145 = .ok (.iadd, 1) := by decide +kernel
theorem dX5_who_146 : decode cX5_who 146 = .ok (.istore 6, 2) := by decide +kernel
theorem dX5_who_148 : decode cX5_who 148 = .ok (.iinc 7 1, 3) := by decide +kernel
theorem dX5_who_151 : decode cX5_who 151 = .ok (.goto (-35), 3) := by decide +kernel
theorem dX5_who_154 : decode cX5_who 154 = .ok (.sipush 1000, 3) := by decide +kernel
theorem dX5_who_157 : decode cX5_who 157 = .ok (.aload_n 0, 1) := by decide +kernel
theorem dX5_who_158 : decode cX5_who 158 = .ok (.getfield 19, 3) := by decide +kernel
theorem dX5_who_161 : decode cX5_who 161 = .ok (.aload_n 0, 1) := by decide +kernel
theorem dX5_who_162 : decode cX5_who 162 = .ok (.iload 5, 2) := by decide +kernel
theorem dX5_who_164 : decode cX5_who 164 = .ok (.invokevirtual 272, 3) := by decide +kernel
theorem dX5_who_167 : decode cX5_who 167 = .ok (.iaload, 1) := by decide +kernel
theorem dX5_who_168 : decode cX5_who 168 = .ok (.imul, 1) := by decide +kernel
theorem dX5_who_169 : decode cX5_who 169 = .ok (.iload 6, 2) := by decide +kernel
theorem dX5_who_171 : decode cX5_who 171 = .ok (.idiv, 1) := by decide +kernel
theorem dX5_who_172 : decode cX5_who 172 = .ok (.ireturn, 1) := by decide +kernel
theorem dX5_apartOn_0 : decode cX5_apartOn 0 = .ok (.iconst 0, 1) := by decide +kernel
theorem dX5_apartOn_1 : decode cX5_apartOn 1 = .ok (.istore_n 2, 1) := by decide +kernel
theorem dX5_apartOn_2 : decode cX5_apartOn 2 = .ok (.iconst 0, 1) := by decide +kernel
theorem dX5_apartOn_3 : decode cX5_apartOn 3 = .ok (.istore_n 3, 1) := by decide +kernel
theorem dX5_apartOn_4 : decode cX5_apartOn 4 = .ok (.iload_n 3, 1) := by decide +kernel
theorem dX5_apartOn_5 : decode cX5_apartOn 5 = .ok (.aload_n 0, 1) := by decide +kernel
theorem dX5_apartOn_6 : decode cX5_apartOn 6 = .ok (.getfield 67, 3) := by decide +kernel
theorem dX5_apartOn_9 : decode cX5_apartOn 9 = .ok (.if_icmp .ge 59, 3) := by decide +kernel
theorem dX5_apartOn_12 : decode cX5_apartOn 12 = .ok (.iconst 1, 1) := by decide +kernel
theorem dX5_apartOn_13 : decode cX5_apartOn 13 = .ok (.istore 4, 2) := by decide +kernel
theorem dX5_apartOn_15 : decode cX5_apartOn 15 = .ok (.iconst 0, 1) := by decide +kernel
theorem dX5_apartOn_16 : decode cX5_apartOn 16 = .ok (.istore 5, 2) := by decide +kernel
theorem dX5_apartOn_18 : decode cX5_apartOn 18 = .ok (.iload 5, 2) := by decide +kernel
theorem dX5_apartOn_20 : decode cX5_apartOn 20 = .ok (.aload_n 0, 1) := by decide +kernel
theorem dX5_apartOn_21 : decode cX5_apartOn 21 = .ok (.getfield 67, 3) := by decide +kernel
theorem dX5_apartOn_24 : decode cX5_apartOn 24 = .ok (.if_icmp .ge 30, 3) := by decide +kernel
theorem dX5_apartOn_27 : decode cX5_apartOn 27 = .ok (.iload 5, 2) := by decide +kernel
theorem dX5_apartOn_29 : decode cX5_apartOn 29 = .ok (.iload_n 3, 1) := by decide +kernel
theorem dX5_apartOn_30 : decode cX5_apartOn 30 = .ok (.if_icmp .eq 18, 3) := by decide +kernel
theorem dX5_apartOn_33 : decode cX5_apartOn 33 = .ok (.aload_n 0, 1) := by decide +kernel
theorem dX5_apartOn_34 : decode cX5_apartOn 34 = .ok (.iload_n 3, 1) := by decide +kernel
theorem dX5_apartOn_35 : decode cX5_apartOn 35 = .ok (.iload 5, 2) := by decide +kernel
theorem dX5_apartOn_37 : decode cX5_apartOn 37 = .ok (.iload_n 1, 1) := by decide +kernel
theorem dX5_apartOn_38 : decode cX5_apartOn 38 = .ok (.invokevirtual 250, 3) := by decide +kernel
theorem dX5_apartOn_41 : decode cX5_apartOn 41 = .ok (.iconst (-1), 1) := by decide +kernel
theorem dX5_apartOn_42 : decode cX5_apartOn 42 = .ok (.if_icmp .ne 6, 3) := by decide +kernel
theorem dX5_apartOn_45 : decode cX5_apartOn 45 = .ok (.iconst 0, 1) := by decide +kernel
theorem dX5_apartOn_46 : decode cX5_apartOn 46 = .ok (.istore 4, 2) := by decide +kernel
theorem dX5_apartOn_48 : decode cX5_apartOn 48 = .ok (.iinc 5 1, 3) := by decide +kernel
theorem dX5_apartOn_51 : decode cX5_apartOn 51 = .ok (.goto (-33), 3) := by decide +kernel
theorem dX5_apartOn_54 : decode cX5_apartOn 54 = .ok (.iload 4, 2) := by decide +kernel
theorem dX5_apartOn_56 : decode cX5_apartOn 56 = .ok (.ifCond .eq 6, 3) := by decide +kernel
theorem dX5_apartOn_59 : decode cX5_apartOn 59 = .ok (.iinc 2 1, 3) := by decide +kernel
theorem dX5_apartOn_62 : decode cX5_apartOn 62 = .ok (.iinc 3 1, 3) := by decide +kernel
theorem dX5_apartOn_65 : decode cX5_apartOn 65 = .ok (.goto (-61), 3) := by decide +kernel
theorem dX5_apartOn_68 : decode cX5_apartOn 68 = .ok (.iload_n 2, 1) := by decide +kernel
theorem dX5_apartOn_69 : decode cX5_apartOn 69 = .ok (.ireturn, 1) := by decide +kernel
theorem dX5_apart_0 : decode cX5_apart 0 = .ok (.aload_n 0, 1) := by decide +kernel
theorem dX5_apart_1 : decode cX5_apart 1 = .ok (.iload_n 1, 1) := by decide +kernel
theorem dX5_apart_2 : decode cX5_apart 2 = .ok (.invokevirtual 247, 3) := by decide +kernel
theorem dX5_apart_5 : decode cX5_apart 5 = .ok (.ifCond .eq 11, 3) := by decide +kernel
theorem dX5_apart_8 : decode cX5_apart 8 = .ok (.aload_n 0, 1) := by decide +kernel
theorem dX5_apart_9 : decode cX5_apart 9 = .ok (.iload_n 1, 1) := by decide +kernel
theorem dX5_apart_10 : decode cX5_apart 10 = .ok (.invokevirtual 278, 3) := by decide +kernel
theorem dX5_apart_13 : decode cX5_apart 13 = .ok (.goto 9, 3) := by decide +kernel
theorem dX5_apart_16 : decode cX5_apart 16 = .ok (.aload_n 0, 1) := by decide +kernel
theorem dX5_apart_17 : decode cX5_apart 17 = .ok (.bipush (-2), 2) := by decide +kernel
theorem dX5_apart_19 : decode cX5_apart 19 = .ok (.invokevirtual 78, 3) := by decide +kernel
theorem dX5_apart_22 : decode cX5_apart 22 = .ok (.ireturn, 1) := by decide +kernel
theorem dX5_mostApart_0 : decode cX5_mostApart 0 = .ok (.iconst 0, 1) := by decide +kernel
theorem dX5_mostApart_1 : decode cX5_mostApart 1 = .ok (.istore_n 1, 1) := by decide +kernel
theorem dX5_mostApart_2 : decode cX5_mostApart 2 = .ok (.iconst 1, 1) := by decide +kernel
theorem dX5_mostApart_3 : decode cX5_mostApart 3 = .ok (.istore_n 2, 1) := by decide +kernel
theorem dX5_mostApart_4 : decode cX5_mostApart 4 = .ok (.iload_n 2, 1) := by decide +kernel
theorem dX5_mostApart_5 : decode cX5_mostApart 5 = .ok (.aload_n 0, 1) := by decide +kernel
theorem dX5_mostApart_6 : decode cX5_mostApart 6 = .ok (.getfield 57, 3) := by decide +kernel
theorem dX5_mostApart_9 : decode cX5_mostApart 9 = .ok (.if_icmp .ge 24, 3) := by decide +kernel
theorem dX5_mostApart_12 : decode cX5_mostApart 12 = .ok (.aload_n 0, 1) := by decide +kernel
theorem dX5_mostApart_13 : decode cX5_mostApart 13 = .ok (.iload_n 2, 1) := by decide +kernel
theorem dX5_mostApart_14 : decode cX5_mostApart 14 = .ok (.invokevirtual 278, 3) := by decide +kernel
theorem dX5_mostApart_17 : decode cX5_mostApart 17 = .ok (.aload_n 0, 1) := by decide +kernel
theorem dX5_mostApart_18 : decode cX5_mostApart 18 = .ok (.iload_n 1, 1) := by decide +kernel
theorem dX5_mostApart_19 : decode cX5_mostApart 19 = .ok (.invokevirtual 278, 3) := by decide +kernel
theorem dX5_mostApart_22 : decode cX5_mostApart 22 = .ok (.if_icmp .le 5, 3) := by decide +kernel
theorem dX5_mostApart_25 : decode cX5_mostApart 25 = .ok (.iload_n 2, 1) := by decide +kernel
theorem dX5_mostApart_26 : decode cX5_mostApart 26 = .ok (.istore_n 1, 1) := by decide +kernel
theorem dX5_mostApart_27 : decode cX5_mostApart 27 = .ok (.iinc 2 1, 3) := by decide +kernel
theorem dX5_mostApart_30 : decode cX5_mostApart 30 = .ok (.goto (-26), 3) := by decide +kernel
theorem dX5_mostApart_33 : decode cX5_mostApart 33 = .ok (.iload_n 1, 1) := by decide +kernel
theorem dX5_mostApart_34 : decode cX5_mostApart 34 = .ok (.ireturn, 1) := by decide +kernel
theorem dX5_telling_0 : decode cX5_telling 0 = .ok (.iload_n 1, 1) := by decide +kernel
theorem dX5_telling_1 : decode cX5_telling 1 = .ok (.iconst 0, 1) := by decide +kernel
theorem dX5_telling_2 : decode cX5_telling 2 = .ok (.iconst 1, 1) := by decide +kernel
theorem dX5_telling_3 : decode cX5_telling 3 = .ok (.invokestatic 70, 3) := by decide +kernel
theorem dX5_telling_6 : decode cX5_telling 6 = .ok (.ifCond .ne 10, 3) := by decide +kernel
theorem dX5_telling_9 : decode cX5_telling 9 = .ok (.aload_n 0, 1) := by decide +kernel
theorem dX5_telling_10 : decode cX5_telling 10 = .ok (.bipush (-2), 2) := by decide +kernel
theorem dX5_telling_12 : decode cX5_telling 12 = .ok (.invokevirtual 78, 3) := by decide +kernel
theorem dX5_telling_15 : decode cX5_telling 15 = .ok (.ireturn, 1) := by decide +kernel
theorem dX5_telling_16 : decode cX5_telling 16 = .ok (.iload_n 1, 1) := by decide +kernel
theorem dX5_telling_17 : decode cX5_telling 17 = .ok (.ifCond .ne 8, 3) := by decide +kernel
theorem dX5_telling_20 : decode cX5_telling 20 = .ok (.aload_n 0, 1) := by decide +kernel
theorem dX5_telling_21 : decode cX5_telling 21 = .ok (.invokevirtual 281, 3) := by decide +kernel
theorem dX5_telling_24 : decode cX5_telling 24 = .ok (.ireturn, 1) := by decide +kernel
theorem dX5_telling_25 : decode cX5_telling 25 = .ok (.aload_n 0, 1) := by decide +kernel
theorem dX5_telling_26 : decode cX5_telling 26 = .ok (.getfield 103, 3) := by decide +kernel
theorem dX5_telling_29 : decode cX5_telling 29 = .ok (.istore_n 2, 1) := by decide +kernel
theorem dX5_telling_30 : decode cX5_telling 30 = .ok (.iconst (-1), 1) := by decide +kernel
theorem dX5_telling_31 : decode cX5_telling 31 = .ok (.istore_n 3, 1) := by decide +kernel
theorem dX5_telling_32 : decode cX5_telling 32 = .ok (.bipush 9, 2) := by decide +kernel
theorem dX5_telling_34 : decode cX5_telling 34 = .ok (.istore 4, 2) := by decide +kernel
theorem dX5_telling_36 : decode cX5_telling 36 = .ok (.iload 4, 2) := by decide +kernel
theorem dX5_telling_38 : decode cX5_telling 38 = .ok (.ifCond .lt 33, 3) := by decide +kernel
theorem dX5_telling_41 : decode cX5_telling 41 = .ok (.aload_n 0, 1) := by decide +kernel
theorem dX5_telling_42 : decode cX5_telling 42 = .ok (.iload 4, 2) := by decide +kernel
theorem dX5_telling_44 : decode cX5_telling 44 = .ok (.putfield 103, 3) := by decide +kernel
theorem dX5_telling_47 : decode cX5_telling 47 = .ok (.aload_n 0, 1) := by decide +kernel
theorem dX5_telling_48 : decode cX5_telling 48 = .ok (.aload_n 0, 1) := by decide +kernel
theorem dX5_telling_49 : decode cX5_telling 49 = .ok (.invokevirtual 281, 3) := by decide +kernel
theorem dX5_telling_52 : decode cX5_telling 52 = .ok (.invokevirtual 278, 3) := by decide +kernel
theorem dX5_telling_55 : decode cX5_telling 55 = .ok (.aload_n 0, 1) := by decide +kernel
theorem dX5_telling_56 : decode cX5_telling 56 = .ok (.getfield 67, 3) := by decide +kernel
theorem dX5_telling_59 : decode cX5_telling 59 = .ok (.if_icmp .ne 6, 3) := by decide +kernel
theorem dX5_telling_62 : decode cX5_telling 62 = .ok (.iload 4, 2) := by decide +kernel
theorem dX5_telling_64 : decode cX5_telling 64 = .ok (.istore_n 3, 1) := by decide +kernel
theorem dX5_telling_65 : decode cX5_telling 65 = .ok (.iinc 4 (-1), 3) := by decide +kernel
theorem dX5_telling_68 : decode cX5_telling 68 = .ok (.goto (-32), 3) := by decide +kernel
theorem dX5_telling_71 : decode cX5_telling 71 = .ok (.aload_n 0, 1) := by decide +kernel
theorem dX5_telling_72 : decode cX5_telling 72 = .ok (.iload_n 2, 1) := by decide +kernel
theorem dX5_telling_73 : decode cX5_telling 73 = .ok (.putfield 103, 3) := by decide +kernel
theorem dX5_telling_76 : decode cX5_telling 76 = .ok (.iload_n 3, 1) := by decide +kernel
theorem dX5_telling_77 : decode cX5_telling 77 = .ok (.ireturn, 1) := by decide +kernel
theorem dX5_as_0 : decode cX5_as 0 = .ok (.aload_n 0, 1) := by decide +kernel
theorem dX5_as_1 : decode cX5_as 1 = .ok (.iload_n 1, 1) := by decide +kernel
theorem dX5_as_2 : decode cX5_as 2 = .ok (.iload_n 2, 1) := by decide +kernel
theorem dX5_as_3 : decode cX5_as 3 = .ok (.invokevirtual 244, 3) := by decide +kernel
theorem dX5_as_6 : decode cX5_as 6 = .ok (.ifCond .eq 20, 3) := by decide +kernel
theorem dX5_as_9 : decode cX5_as 9 = .ok (.aload_n 0, 1) := by decide +kernel
theorem dX5_as_10 : decode cX5_as 10 = .ok (.iload_n 3, 1) := by decide +kernel
theorem dX5_as_11 : decode cX5_as 11 = .ok (.invokevirtual 247, 3) := by decide +kernel
theorem dX5_as_14 : decode cX5_as 14 = .ok (.ifCond .eq 12, 3) := by decide +kernel
theorem dX5_as_17 : decode cX5_as 17 = .ok (.aload_n 0, 1) := by decide +kernel
theorem dX5_as_18 : decode cX5_as 18 = .ok (.iload 4, 2) := by decide +kernel
theorem dX5_as_20 : decode cX5_as 20 = .ok (.invokevirtual 209, 3) := by decide +kernel
theorem dX5_as_23 : decode cX5_as 23 = .ok (.ifCond .ne 10, 3) := by decide +kernel
theorem dX5_as_26 : decode cX5_as 26 = .ok (.aload_n 0, 1) := by decide +kernel
theorem dX5_as_27 : decode cX5_as 27 = .ok (.bipush (-2), 2) := by decide +kernel
theorem dX5_as_29 : decode cX5_as 29 = .ok (.invokevirtual 78, 3) := by decide +kernel
theorem dX5_as_32 : decode cX5_as 32 = .ok (.ireturn, 1) := by decide +kernel
theorem dX5_as_33 : decode cX5_as 33 = .ok (.iconst 0, 1) := by decide +kernel
theorem dX5_as_34 : decode cX5_as 34 = .ok (.istore 5, 2) := by decide +kernel
theorem dX5_as_36 : decode cX5_as 36 = .ok (.iload 5, 2) := by decide +kernel
theorem dX5_as_38 : decode cX5_as 38 = .ok (.aload_n 0, 1) := by decide +kernel
theorem dX5_as_39 : decode cX5_as 39 = .ok (.getfield 57, 3) := by decide +kernel
theorem dX5_as_42 : decode cX5_as 42 = .ok (.aload_n 0, 1) := by decide +kernel
theorem dX5_as_43 : decode cX5_as 43 = .ok (.getfield 57, 3) := by decide +kernel
theorem dX5_as_46 : decode cX5_as 46 = .ok (.imul, 1) := by decide +kernel
theorem dX5_as_47 : decode cX5_as 47 = .ok (.if_icmp .ge 57, 3) := by decide +kernel
theorem dX5_as_50 : decode cX5_as 50 = .ok (.aload_n 0, 1) := by decide +kernel
theorem dX5_as_51 : decode cX5_as 51 = .ok (.getfield 47, 3) := by decide +kernel
theorem dX5_as_54 : decode cX5_as 54 = .ok (.iload 5, 2) := by decide +kernel
theorem dX5_as_56 : decode cX5_as 56 = .ok (.aload_n 0, 1) := by decide +kernel
theorem dX5_as_57 : decode cX5_as 57 = .ok (.iload_n 1, 1) := by decide +kernel
theorem dX5_as_58 : decode cX5_as 58 = .ok (.iload 5, 2) := by decide +kernel
theorem dX5_as_60 : decode cX5_as 60 = .ok (.invokevirtual 190, 3) := by decide +kernel
theorem dX5_as_63 : decode cX5_as 63 = .ok (.aload_n 0, 1) := by decide +kernel
theorem dX5_as_64 : decode cX5_as 64 = .ok (.iload_n 2, 1) := by decide +kernel
theorem dX5_as_65 : decode cX5_as 65 = .ok (.iload 5, 2) := by decide +kernel
theorem dX5_as_67 : decode cX5_as 67 = .ok (.aload_n 0, 1) := by decide +kernel
theorem dX5_as_68 : decode cX5_as 68 = .ok (.getfield 57, 3) := by decide +kernel
theorem dX5_as_71 : decode cX5_as 71 = .ok (.idiv, 1) := by decide +kernel
theorem dX5_as_72 : decode cX5_as 72 = .ok (.aload_n 0, 1) := by decide +kernel
theorem dX5_as_73 : decode cX5_as 73 = .ok (.getfield 57, 3) := by decide +kernel
theorem dX5_as_76 : decode cX5_as 76 = .ok (.imul, 1) := by decide +kernel
theorem dX5_as_77 : decode cX5_as 77 = .ok (.iload_n 3, 1) := by decide +kernel
theorem dX5_as_78 : decode cX5_as 78 = .ok (.iadd, 1) := by decide +kernel
theorem dX5_as_79 : decode cX5_as 79 = .ok (.iload 5, 2) := by decide +kernel
theorem dX5_as_81 : decode cX5_as 81 = .ok (.aload_n 0, 1) := by decide +kernel
theorem dX5_as_82 : decode cX5_as 82 = .ok (.getfield 57, 3) := by decide +kernel
theorem dX5_as_85 : decode cX5_as 85 = .ok (.idiv, 1) := by decide +kernel
theorem dX5_as_86 : decode cX5_as 86 = .ok (.invokevirtual 99, 3) := by decide +kernel
theorem dX5_as_89 : decode cX5_as 89 = .ok (.if_icmp .ne 7, 3) := by decide +kernel
theorem dX5_as_92 : decode cX5_as 92 = .ok (.iconst 1, 1) := by decide +kernel
theorem dX5_as_93 : decode cX5_as 93 = .ok (.goto 4, 3) := by decide +kernel
theorem dX5_as_96 : decode cX5_as 96 = .ok (.iconst 0, 1) := by decide +kernel
theorem dX5_as_97 : decode cX5_as 97 = .ok (.bastore, 1) := by decide +kernel
theorem dX5_as_98 : decode cX5_as 98 = .ok (.iinc 5 1, 3) := by decide +kernel
theorem dX5_as_101 : decode cX5_as 101 = .ok (.goto (-65), 3) := by decide +kernel
theorem dX5_as_104 : decode cX5_as 104 = .ok (.aload_n 0, 1) := by decide +kernel
theorem dX5_as_105 : decode cX5_as 105 = .ok (.invokevirtual 199, 3) := by decide +kernel
theorem dX5_as_108 : decode cX5_as 108 = .ok (.istore 5, 2) := by decide +kernel
theorem dX5_as_110 : decode cX5_as 110 = .ok (.iload 4, 2) := by decide +kernel
theorem dX5_as_112 : decode cX5_as 112 = .ok (.iconst (-1), 1) := by decide +kernel
theorem dX5_as_113 : decode cX5_as 113 = .ok (.if_icmp .ne 6, 3) := by decide +kernel
theorem dX5_as_116 : decode cX5_as 116 = .ok (.iload 5, 2) := by decide +kernel
theorem dX5_as_118 : decode cX5_as 118 = .ok (.ireturn, 1) := by decide +kernel
theorem dX5_as_119 : decode cX5_as 119 = .ok (.iload 5, 2) := by decide +kernel
theorem dX5_as_121 : decode cX5_as 121 = .ok (.ifCond .ne 10, 3) := by decide +kernel
theorem dX5_as_124 : decode cX5_as 124 = .ok (.aload_n 0, 1) := by decide +kernel
theorem dX5_as_125 : decode cX5_as 125 = .ok (.bipush (-5), 2) := by decide +kernel
theorem dX5_as_127 : decode cX5_as 127 = .ok (.invokevirtual 78, 3) := by decide +kernel
theorem dX5_as_130 : decode cX5_as 130 = .ok (.ireturn, 1) := by decide +kernel
theorem dX5_as_131 : decode cX5_as 131 = .ok (.aload_n 0, 1) := by decide +kernel
theorem dX5_as_132 : decode cX5_as 132 = .ok (.invokevirtual 218, 3) := by decide +kernel
theorem dX5_as_135 : decode cX5_as 135 = .ok (.aload_n 0, 1) := by decide +kernel
theorem dX5_as_136 : decode cX5_as 136 = .ok (.getfield 54, 3) := by decide +kernel
theorem dX5_as_139 : decode cX5_as 139 = .ok (.iload 4, 2) := by decide +kernel
theorem dX5_as_141 : decode cX5_as 141 = .ok (.iaload, 1) := by decide +kernel
theorem dX5_as_142 : decode cX5_as 142 = .ok (.ireturn, 1) := by decide +kernel
theorem dX5_two_0 : decode cX5_two 0 = .ok (.iload_n 1, 1) := by decide +kernel
theorem dX5_two_1 : decode cX5_two 1 = .ok (.invokestatic 74, 3) := by decide +kernel
theorem dX5_two_4 : decode cX5_two 4 = .ok (.ifCond .eq 34, 3) := by decide +kernel
theorem dX5_two_7 : decode cX5_two 7 = .ok (.aload_n 0, 1) := by decide +kernel
theorem dX5_two_8 : decode cX5_two 8 = .ok (.iload_n 2, 1) := by decide +kernel
theorem dX5_two_9 : decode cX5_two 9 = .ok (.invokevirtual 247, 3) := by decide +kernel
theorem dX5_two_12 : decode cX5_two 12 = .ok (.ifCond .eq 26, 3) := by decide +kernel
theorem dX5_two_15 : decode cX5_two 15 = .ok (.aload_n 0, 1) := by decide +kernel
theorem dX5_two_16 : decode cX5_two 16 = .ok (.iload_n 3, 1) := by decide +kernel
theorem dX5_two_17 : decode cX5_two 17 = .ok (.invokevirtual 247, 3) := by decide +kernel
theorem dX5_two_20 : decode cX5_two 20 = .ok (.ifCond .eq 18, 3) := by decide +kernel
theorem dX5_two_23 : decode cX5_two 23 = .ok (.iload 4, 2) := by decide +kernel
theorem dX5_two_25 : decode cX5_two 25 = .ok (.iconst 0, 1) := by decide +kernel
theorem dX5_two_26 : decode cX5_two 26 = .ok (.iconst 1, 1) := by decide +kernel
theorem dX5_two_27 : decode cX5_two 27 = .ok (.invokestatic 70, 3) := by decide +kernel
theorem dX5_two_30 : decode cX5_two 30 = .ok (.ifCond .eq 8, 3) := by decide +kernel
theorem dX5_two_33 : decode cX5_two 33 = .ok (.iload_n 2, 1) := by decide +kernel
theorem dX5_two_34 : decode cX5_two 34 = .ok (.iload_n 3, 1) := by decide +kernel
theorem dX5_two_35 : decode cX5_two 35 = .ok (.if_icmp .ne 10, 3) := by decide +kernel
theorem dX5_two_38 : decode cX5_two 38 = .ok (.aload_n 0, 1) := by decide +kernel
theorem dX5_two_39 : decode cX5_two 39 = .ok (.bipush (-2), 2) := by decide +kernel
theorem dX5_two_41 : decode cX5_two 41 = .ok (.invokevirtual 78, 3) := by decide +kernel
theorem dX5_two_44 : decode cX5_two 44 = .ok (.ireturn, 1) := by decide +kernel
theorem dX5_two_45 : decode cX5_two 45 = .ok (.aload_n 0, 1) := by decide +kernel
theorem dX5_two_46 : decode cX5_two 46 = .ok (.iload_n 1, 1) := by decide +kernel
theorem dX5_two_47 : decode cX5_two 47 = .ok (.invokevirtual 266, 3) := by decide +kernel
theorem dX5_two_50 : decode cX5_two 50 = .ok (.istore 5, 2) := by decide +kernel
theorem dX5_two_52 : decode cX5_two 52 = .ok (.iload 5, 2) := by decide +kernel
theorem dX5_two_54 : decode cX5_two 54 = .ok (.ifCond .ge 10, 3) := by decide +kernel
theorem dX5_two_57 : decode cX5_two 57 = .ok (.aload_n 0, 1) := by decide +kernel
theorem dX5_two_58 : decode cX5_two 58 = .ok (.iload 5, 2) := by decide +kernel
theorem dX5_two_60 : decode cX5_two 60 = .ok (.invokevirtual 78, 3) := by decide +kernel
theorem dX5_two_63 : decode cX5_two 63 = .ok (.ireturn, 1) := by decide +kernel
theorem dX5_two_64 : decode cX5_two 64 = .ok (.iconst 0, 1) := by decide +kernel
theorem dX5_two_65 : decode cX5_two 65 = .ok (.istore 6, 2) := by decide +kernel
theorem dX5_two_67 : decode cX5_two 67 = .ok (.iconst (-1), 1) := by decide +kernel
theorem dX5_two_68 : decode cX5_two 68 = .ok (.istore 7, 2) := by decide +kernel
theorem dX5_two_70 : decode cX5_two 70 = .ok (.iconst 0, 1) := by decide +kernel
theorem dX5_two_71 : decode cX5_two 71 = .ok (.istore 8, 2) := by decide +kernel
theorem dX5_two_73 : decode cX5_two 73 = .ok (.iload 8, 2) := by decide +kernel
theorem dX5_two_75 : decode cX5_two 75 = .ok (.aload_n 0, 1) := by decide +kernel
theorem dX5_two_76 : decode cX5_two 76 = .ok (.getfield 67, 3) := by decide +kernel
theorem dX5_two_79 : decode cX5_two 79 = .ok (.if_icmp .ge 136, 3) := by decide +kernel
theorem dX5_two_82 : decode cX5_two 82 = .ok (.iconst 0, 1) := by decide +kernel
theorem dX5_two_83 : decode cX5_two 83 = .ok (.istore 9, 2) := by decide +kernel
theorem dX5_two_85 : decode cX5_two 85 = .ok (.iload 9, 2) := by decide +kernel
theorem dX5_two_87 : decode cX5_two 87 = .ok (.aload_n 0, 1) := by decide +kernel
theorem dX5_two_88 : decode cX5_two 88 = .ok (.getfield 67, 3) := by decide +kernel
theorem dX5_two_91 : decode cX5_two 91 = .ok (.if_icmp .ge 118, 3) := by decide +kernel
theorem dX5_two_94 : decode cX5_two 94 = .ok (.iload 8, 2) := by decide +kernel
theorem dX5_two_96 : decode cX5_two 96 = .ok (.iload 9, 2) := by decide +kernel
theorem dX5_two_98 : decode cX5_two 98 = .ok (.if_icmp .eq 7, 3) := by decide +kernel
theorem dX5_two_101 : decode cX5_two 101 = .ok (.iconst 1, 1) := by decide +kernel
theorem dX5_two_102 : decode cX5_two 102 = .ok (.goto 4, 3) := by decide +kernel
theorem dX5_two_105 : decode cX5_two 105 = .ok (.iconst 0, 1) := by decide +kernel
theorem dX5_two_106 : decode cX5_two 106 = .ok (.istore 10, 2) := by decide +kernel
theorem dX5_two_108 : decode cX5_two 108 = .ok (.iconst 0, 1) := by decide +kernel
theorem dX5_two_109 : decode cX5_two 109 = .ok (.istore 11, 2) := by decide +kernel
theorem dX5_two_111 : decode cX5_two 111 = .ok (.iload 11, 2) := by decide +kernel
theorem dX5_two_113 : decode cX5_two 113 = .ok (.aload_n 0, 1) := by decide +kernel
theorem dX5_two_114 : decode cX5_two 114 = .ok (.getfield 57, 3) := by decide +kernel
theorem dX5_two_117 : decode cX5_two 117 = .ok (.if_icmp .ge 59, 3) := by decide +kernel
theorem dX5_two_120 : decode cX5_two 120 = .ok (.aload_n 0, 1) := by decide +kernel
theorem dX5_two_121 : decode cX5_two 121 = .ok (.iload_n 1, 1) := by decide +kernel
theorem dX5_two_122 : decode cX5_two 122 = .ok (.iload 11, 2) := by decide +kernel
theorem dX5_two_124 : decode cX5_two 124 = .ok (.invokevirtual 259, 3) := by decide +kernel
theorem dX5_two_127 : decode cX5_two 127 = .ok (.aload_n 0, 1) := by decide +kernel
theorem dX5_two_128 : decode cX5_two 128 = .ok (.iload 8, 2) := by decide +kernel
theorem dX5_two_130 : decode cX5_two 130 = .ok (.iload 11, 2) := by decide +kernel
theorem dX5_two_132 : decode cX5_two 132 = .ok (.aload_n 0, 1) := by decide +kernel
theorem dX5_two_133 : decode cX5_two 133 = .ok (.getfield 57, 3) := by decide +kernel
theorem dX5_two_136 : decode cX5_two 136 = .ok (.imul, 1) := by decide +kernel
theorem dX5_two_137 : decode cX5_two 137 = .ok (.iload_n 2, 1) := by decide +kernel
theorem dX5_two_138 : decode cX5_two 138 = .ok (.iadd, 1) := by decide +kernel
theorem dX5_two_139 : decode cX5_two 139 = .ok (.iload 11, 2) := by decide +kernel
theorem dX5_two_141 : decode cX5_two 141 = .ok (.invokevirtual 99, 3) := by decide +kernel
theorem dX5_two_144 : decode cX5_two 144 = .ok (.aload_n 0, 1) := by decide +kernel
theorem dX5_two_145 : decode cX5_two 145 = .ok (.iload 9, 2) := by decide +kernel
theorem dX5_two_147 : decode cX5_two 147 = .ok (.iload 11, 2) := by decide +kernel
theorem dX5_two_149 : decode cX5_two 149 = .ok (.aload_n 0, 1) := by decide +kernel
theorem dX5_two_150 : decode cX5_two 150 = .ok (.getfield 57, 3) := by decide +kernel
theorem dX5_two_153 : decode cX5_two 153 = .ok (.imul, 1) := by decide +kernel
theorem dX5_two_154 : decode cX5_two 154 = .ok (.iload_n 3, 1) := by decide +kernel
theorem dX5_two_155 : decode cX5_two 155 = .ok (.iadd, 1) := by decide +kernel
theorem dX5_two_156 : decode cX5_two 156 = .ok (.iload 11, 2) := by decide +kernel
theorem dX5_two_158 : decode cX5_two 158 = .ok (.invokevirtual 99, 3) := by decide +kernel
theorem dX5_two_161 : decode cX5_two 161 = .ok (.iadd, 1) := by decide +kernel
theorem dX5_two_162 : decode cX5_two 162 = .ok (.i2l, 1) := by decide +kernel
theorem dX5_two_163 : decode cX5_two 163 = .ok (.lcmp, 1) := by decide +kernel
theorem dX5_two_164 : decode cX5_two 164 = .ok (.ifCond .eq 6, 3) := by decide +kernel
theorem dX5_two_167 : decode cX5_two 167 = .ok (.iconst 0, 1) := by decide +kernel
theorem dX5_two_168 : decode cX5_two 168 = .ok (.istore 10, 2) := by decide +kernel
theorem dX5_two_170 : decode cX5_two 170 = .ok (.iinc 11 1, 3) := by decide +kernel
theorem dX5_two_173 : decode cX5_two 173 = .ok (.goto (-62), 3) := by decide +kernel
theorem dX5_two_176 : decode cX5_two 176 = .ok (.iload 10, 2) := by decide +kernel
theorem dX5_two_178 : decode cX5_two 178 = .ok (.ifCond .ne 6, 3) := by decide +kernel
theorem dX5_two_181 : decode cX5_two 181 = .ok (.goto 22, 3) := by decide +kernel
theorem dX5_two_184 : decode cX5_two 184 = .ok (.iinc 6 1, 3) := by decide +kernel
theorem dX5_two_187 : decode cX5_two 187 = .ok (.iload 7, 2) := by decide +kernel
theorem dX5_two_189 : decode cX5_two 189 = .ok (.iconst (-1), 1) := by decide +kernel
theorem dX5_two_190 : decode cX5_two 190 = .ok (.if_icmp .ne 13, 3) := by decide +kernel
theorem dX5_two_193 : decode cX5_two 193 = .ok (.bipush 10, 2) := by decide +kernel
theorem dX5_two_195 : decode cX5_two 195 = .ok (.iload 8, 2) := by decide +kernel
theorem dX5_two_197 : decode cX5_two 197 = .ok (.imul, 1) := by decide +kernel
theorem dX5_two_198 : decode cX5_two 198 = .ok (.iload 9, 2) := by decide +kernel
theorem dX5_two_200 : decode cX5_two 200 = .ok (.iadd, 1) := by decide +kernel
theorem dX5_two_201 : decode cX5_two 201 = .ok (.istore 7, 2) := by decide +kernel
theorem dX5_two_203 : decode cX5_two 203 = .ok (.iinc 9 1, 3) := by decide +kernel
theorem dX5_two_206 : decode cX5_two 206 = .ok (.goto (-121), 3) := by decide +kernel
theorem dX5_two_209 : decode cX5_two 209 = .ok (.iinc 8 1, 3) := by decide +kernel
theorem dX5_two_212 : decode cX5_two 212 = .ok (.goto (-139), 3) := by decide +kernel
theorem dX5_two_215 : decode cX5_two 215 = .ok (.iload 4, 2) := by decide +kernel
theorem dX5_two_217 : decode cX5_two 217 = .ok (.ifCond .ne 8, 3) := by decide +kernel
theorem dX5_two_220 : decode cX5_two 220 = .ok (.iload 6, 2) := by decide +kernel
theorem dX5_two_222 : decode cX5_two 222 = .ok (.goto 5, 3) := by decide +kernel
theorem dX5_two_225 : decode cX5_two 225 = .ok (.iload 7, 2) := by decide +kernel
theorem dX5_two_227 : decode cX5_two 227 = .ok (.ireturn, 1) := by decide +kernel
theorem dX5_meant_0 : decode cX5_meant 0 = .ok (.iload_n 1, 1) := by decide +kernel
theorem dX5_meant_1 : decode cX5_meant 1 = .ok (.invokestatic 74, 3) := by decide +kernel
theorem dX5_meant_4 : decode cX5_meant 4 = .ok (.ifCond .eq 29, 3) := by decide +kernel
theorem dX5_meant_7 : decode cX5_meant 7 = .ok (.aload_n 0, 1) := by decide +kernel
theorem dX5_meant_8 : decode cX5_meant 8 = .ok (.iload_n 2, 1) := by decide +kernel
theorem dX5_meant_9 : decode cX5_meant 9 = .ok (.invokevirtual 92, 3) := by decide +kernel
theorem dX5_meant_12 : decode cX5_meant 12 = .ok (.ifCond .eq 21, 3) := by decide +kernel
theorem dX5_meant_15 : decode cX5_meant 15 = .ok (.aload_n 0, 1) := by decide +kernel
theorem dX5_meant_16 : decode cX5_meant 16 = .ok (.iload_n 3, 1) := by decide +kernel
theorem dX5_meant_17 : decode cX5_meant 17 = .ok (.invokevirtual 247, 3) := by decide +kernel
theorem dX5_meant_20 : decode cX5_meant 20 = .ok (.ifCond .eq 13, 3) := by decide +kernel
theorem dX5_meant_23 : decode cX5_meant 23 = .ok (.iload 4, 2) := by decide +kernel
theorem dX5_meant_25 : decode cX5_meant 25 = .ok (.iconst 0, 1) := by decide +kernel
theorem dX5_meant_26 : decode cX5_meant 26 = .ok (.iconst 1, 1) := by decide +kernel
theorem dX5_meant_27 : decode cX5_meant 27 = .ok (.invokestatic 70, 3) := by decide +kernel
theorem dX5_meant_30 : decode cX5_meant 30 = .ok (.ifCond .ne 10, 3) := by decide +kernel
theorem dX5_meant_33 : decode cX5_meant 33 = .ok (.aload_n 0, 1) := by decide +kernel
theorem dX5_meant_34 : decode cX5_meant 34 = .ok (.bipush (-2), 2) := by decide +kernel
theorem dX5_meant_36 : decode cX5_meant 36 = .ok (.invokevirtual 78, 3) := by decide +kernel
theorem dX5_meant_39 : decode cX5_meant 39 = .ok (.ireturn, 1) := by decide +kernel
theorem dX5_meant_40 : decode cX5_meant 40 = .ok (.aload_n 0, 1) := by decide +kernel
theorem dX5_meant_41 : decode cX5_meant 41 = .ok (.iload_n 1, 1) := by decide +kernel
theorem dX5_meant_42 : decode cX5_meant 42 = .ok (.invokevirtual 266, 3) := by decide +kernel
theorem dX5_meant_45 : decode cX5_meant 45 = .ok (.istore 5, 2) := by decide +kernel
theorem dX5_meant_47 : decode cX5_meant 47 = .ok (.iload 5, 2) := by decide +kernel
theorem dX5_meant_49 : decode cX5_meant 49 = .ok (.ifCond .ge 10, 3) := by decide +kernel
theorem dX5_meant_52 : decode cX5_meant 52 = .ok (.aload_n 0, 1) := by decide +kernel
theorem dX5_meant_53 : decode cX5_meant 53 = .ok (.iload 5, 2) := by decide +kernel
theorem dX5_meant_55 : decode cX5_meant 55 = .ok (.invokevirtual 78, 3) := by decide +kernel
theorem dX5_meant_58 : decode cX5_meant 58 = .ok (.ireturn, 1) := by decide +kernel
theorem dX5_meant_59 : decode cX5_meant 59 = .ok (.aload_n 0, 1) := by decide +kernel
theorem dX5_meant_60 : decode cX5_meant 60 = .ok (.getfield 13, 3) := by decide +kernel
theorem dX5_meant_63 : decode cX5_meant 63 = .ok (.iload_n 2, 1) := by decide +kernel
theorem dX5_meant_64 : decode cX5_meant 64 = .ok (.iaload, 1) := by decide +kernel
theorem dX5_meant_65 : decode cX5_meant 65 = .ok (.istore 6, 2) := by decide +kernel
theorem dX5_meant_67 : decode cX5_meant 67 = .ok (.aload_n 0, 1) := by decide +kernel
theorem dX5_meant_68 : decode cX5_meant 68 = .ok (.getfield 16, 3) := by decide +kernel
theorem dX5_meant_71 : decode cX5_meant 71 = .ok (.iload_n 2, 1) := by decide +kernel
theorem dX5_meant_72 : decode cX5_meant 72 = .ok (.iaload, 1) := by decide +kernel
theorem dX5_meant_73 : decode cX5_meant 73 = .ok (.istore 7, 2) := by decide +kernel
theorem dX5_meant_75 : decode cX5_meant 75 = .ok (.iconst 0, 1) := by decide +kernel
theorem dX5_meant_76 : decode cX5_meant 76 = .ok (.istore 8, 2) := by decide +kernel
theorem dX5_meant_78 : decode cX5_meant 78 = .ok (.iconst (-1), 1) := by decide +kernel
theorem dX5_meant_79 : decode cX5_meant 79 = .ok (.istore 9, 2) := by decide +kernel
theorem dX5_meant_81 : decode cX5_meant 81 = .ok (.iconst 0, 1) := by decide +kernel
theorem dX5_meant_82 : decode cX5_meant 82 = .ok (.istore 10, 2) := by decide +kernel
theorem dX5_meant_84 : decode cX5_meant 84 = .ok (.iload 10, 2) := by decide +kernel
theorem dX5_meant_86 : decode cX5_meant 86 = .ok (.bipush 6, 2) := by decide +kernel
theorem dX5_meant_88 : decode cX5_meant 88 = .ok (.if_icmp .ge 40, 3) := by decide +kernel
theorem dX5_meant_91 : decode cX5_meant 91 = .ok (.aload_n 0, 1) := by decide +kernel
theorem dX5_meant_92 : decode cX5_meant 92 = .ok (.getfield 13, 3) := by decide +kernel
theorem dX5_meant_95 : decode cX5_meant 95 = .ok (.iload_n 2, 1) := by decide +kernel
theorem dX5_meant_96 : decode cX5_meant 96 = .ok (.iload 10, 2) := by decide +kernel
theorem dX5_meant_98 : decode cX5_meant 98 = .ok (.iastore, 1) := by decide +kernel
theorem dX5_meant_99 : decode cX5_meant 99 = .ok (.aload_n 0, 1) := by decide +kernel
theorem dX5_meant_100 : decode cX5_meant 100 = .ok (.iload_n 1, 1) := by decide +kernel
theorem dX5_meant_101 : decode cX5_meant 101 = .ok (.iload_n 2, 1) := by decide +kernel
theorem dX5_meant_102 : decode cX5_meant 102 = .ok (.iload_n 3, 1) := by decide +kernel
theorem dX5_meant_103 : decode cX5_meant 103 = .ok (.invokevirtual 263, 3) := by decide +kernel
theorem dX5_meant_106 : decode cX5_meant 106 = .ok (.aload_n 0, 1) := by decide +kernel
theorem dX5_meant_107 : decode cX5_meant 107 = .ok (.getfield 57, 3) := by decide +kernel
theorem dX5_meant_110 : decode cX5_meant 110 = .ok (.if_icmp .ne 12, 3) := by decide +kernel
theorem dX5_meant_113 : decode cX5_meant 113 = .ok (.iload 8, 2) := by decide +kernel
theorem dX5_meant_115 : decode cX5_meant 115 = .ok (.iconst 1, 1) := by decide +kernel
theorem dX5_meant_116 : decode cX5_meant 116 = .ok (.iload 10, 2) := by decide +kernel
theorem dX5_meant_118 : decode cX5_meant 118 = .ok (.ishl, 1) := by decide +kernel
theorem dX5_meant_119 : decode cX5_meant 119 = .ok (.ior, 1) := by decide +kernel
theorem dX5_meant_120 : decode cX5_meant 120 = .ok (.istore 8, 2) := by decide +kernel
theorem dX5_meant_122 : decode cX5_meant 122 = .ok (.iinc 10 1, 3) := by decide +kernel
theorem dX5_meant_125 : decode cX5_meant 125 = .ok (.goto (-41), 3) := by decide +kernel
theorem dX5_meant_128 : decode cX5_meant 128 = .ok (.aload_n 0, 1) := by decide +kernel
theorem dX5_meant_129 : decode cX5_meant 129 = .ok (.getfield 13, 3) := by decide +kernel
theorem dX5_meant_132 : decode cX5_meant 132 = .ok (.iload_n 2, 1) := by decide +kernel
theorem dX5_meant_133 : decode cX5_meant 133 = .ok (.iload 6, 2) := by decide +kernel
theorem dX5_meant_135 : decode cX5_meant 135 = .ok (.iastore, 1) := by decide +kernel
theorem dX5_meant_136 : decode cX5_meant 136 = .ok (.bipush 9, 2) := by decide +kernel
theorem dX5_meant_138 : decode cX5_meant 138 = .ok (.istore 10, 2) := by decide +kernel
theorem dX5_meant_140 : decode cX5_meant 140 = .ok (.iload 10, 2) := by decide +kernel
theorem dX5_meant_142 : decode cX5_meant 142 = .ok (.ifCond .lt 35, 3) := by decide +kernel
theorem dX5_meant_145 : decode cX5_meant 145 = .ok (.aload_n 0, 1) := by decide +kernel
theorem dX5_meant_146 : decode cX5_meant 146 = .ok (.getfield 16, 3) := by decide +kernel
theorem dX5_meant_149 : decode cX5_meant 149 = .ok (.iload_n 2, 1) := by decide +kernel
theorem dX5_meant_150 : decode cX5_meant 150 = .ok (.iload 10, 2) := by decide +kernel
theorem dX5_meant_152 : decode cX5_meant 152 = .ok (.iastore, 1) := by decide +kernel
theorem dX5_meant_153 : decode cX5_meant 153 = .ok (.aload_n 0, 1) := by decide +kernel
theorem dX5_meant_154 : decode cX5_meant 154 = .ok (.iload_n 1, 1) := by decide +kernel
theorem dX5_meant_155 : decode cX5_meant 155 = .ok (.iload_n 2, 1) := by decide +kernel
theorem dX5_meant_156 : decode cX5_meant 156 = .ok (.iload_n 3, 1) := by decide +kernel
theorem dX5_meant_157 : decode cX5_meant 157 = .ok (.invokevirtual 263, 3) := by decide +kernel
theorem dX5_meant_160 : decode cX5_meant 160 = .ok (.aload_n 0, 1) := by decide +kernel
theorem dX5_meant_161 : decode cX5_meant 161 = .ok (.getfield 57, 3) := by decide +kernel
theorem dX5_meant_164 : decode cX5_meant 164 = .ok (.if_icmp .ne 7, 3) := by decide +kernel
theorem dX5_meant_167 : decode cX5_meant 167 = .ok (.iload 10, 2) := by decide +kernel
theorem dX5_meant_169 : decode cX5_meant 169 = .ok (.istore 9, 2) := by decide +kernel
theorem dX5_meant_171 : decode cX5_meant 171 = .ok (.iinc 10 (-1), 3) := by decide +kernel
theorem dX5_meant_174 : decode cX5_meant 174 = .ok (.goto (-34), 3) := by decide +kernel
theorem dX5_meant_177 : decode cX5_meant 177 = .ok (.aload_n 0, 1) := by decide +kernel
theorem dX5_meant_178 : decode cX5_meant 178 = .ok (.getfield 16, 3) := by decide +kernel
theorem dX5_meant_181 : decode cX5_meant 181 = .ok (.iload_n 2, 1) := by decide +kernel
theorem dX5_meant_182 : decode cX5_meant 182 = .ok (.iload 7, 2) := by decide +kernel
theorem dX5_meant_184 : decode cX5_meant 184 = .ok (.iastore, 1) := by decide +kernel
theorem dX5_meant_185 : decode cX5_meant 185 = .ok (.iload 4, 2) := by decide +kernel
theorem dX5_meant_187 : decode cX5_meant 187 = .ok (.ifCond .ne 8, 3) := by decide +kernel
theorem dX5_meant_190 : decode cX5_meant 190 = .ok (.iload 8, 2) := by decide +kernel
theorem dX5_meant_192 : decode cX5_meant 192 = .ok (.goto 5, 3) := by decide +kernel
theorem dX5_meant_195 : decode cX5_meant 195 = .ok (.iload 9, 2) := by decide +kernel
theorem dX5_meant_197 : decode cX5_meant 197 = .ok (.ireturn, 1) := by decide +kernel
theorem dX5_duel_0 : decode cX5_duel 0 = .ok (.aload_n 0, 1) := by decide +kernel
theorem dX5_duel_1 : decode cX5_duel 1 = .ok (.iload_n 1, 1) := by decide +kernel
theorem dX5_duel_2 : decode cX5_duel 2 = .ok (.invokevirtual 92, 3) := by decide +kernel
theorem dX5_duel_5 : decode cX5_duel 5 = .ok (.ifCond .eq 12, 3) := by decide +kernel
theorem dX5_duel_8 : decode cX5_duel 8 = .ok (.iload_n 2, 1) := by decide +kernel
theorem dX5_duel_9 : decode cX5_duel 9 = .ok (.iconst 0, 1) := by decide +kernel
theorem dX5_duel_10 : decode cX5_duel 10 = .ok (.iconst 1, 1) := by decide +kernel
theorem dX5_duel_11 : decode cX5_duel 11 = .ok (.invokestatic 70, 3) := by decide +kernel
theorem dX5_duel_14 : decode cX5_duel 14 = .ok (.ifCond .ne 10, 3) := by decide +kernel
theorem dX5_duel_17 : decode cX5_duel 17 = .ok (.aload_n 0, 1) := by decide +kernel
theorem dX5_duel_18 : decode cX5_duel 18 = .ok (.bipush (-2), 2) := by decide +kernel
theorem dX5_duel_20 : decode cX5_duel 20 = .ok (.invokevirtual 78, 3) := by decide +kernel
theorem dX5_duel_23 : decode cX5_duel 23 = .ok (.ireturn, 1) := by decide +kernel
theorem dX5_duel_24 : decode cX5_duel 24 = .ok (.iconst 0, 1) := by decide +kernel
theorem dX5_duel_25 : decode cX5_duel 25 = .ok (.istore_n 3, 1) := by decide +kernel
theorem dX5_duel_26 : decode cX5_duel 26 = .ok (.iconst (-1), 1) := by decide +kernel
theorem dX5_duel_27 : decode cX5_duel 27 = .ok (.istore 4, 2) := by decide +kernel
theorem dX5_duel_29 : decode cX5_duel 29 = .ok (.iconst 0, 1) := by decide +kernel
theorem dX5_duel_30 : decode cX5_duel 30 = .ok (.istore 5, 2) := by decide +kernel
theorem dX5_duel_32 : decode cX5_duel 32 = .ok (.iload 5, 2) := by decide +kernel
theorem dX5_duel_34 : decode cX5_duel 34 = .ok (.aload_n 0, 1) := by decide +kernel
theorem dX5_duel_35 : decode cX5_duel 35 = .ok (.getfield 57, 3) := by decide +kernel
theorem dX5_duel_38 : decode cX5_duel 38 = .ok (.aload_n 0, 1) := by decide +kernel
theorem dX5_duel_39 : decode cX5_duel 39 = .ok (.getfield 57, 3) := by decide +kernel
theorem dX5_duel_42 : decode cX5_duel 42 = .ok (.imul, 1) := by decide +kernel
theorem dX5_duel_43 : decode cX5_duel 43 = .ok (.if_icmp .ge 60, 3) := by decide +kernel
theorem dX5_duel_46 : decode cX5_duel 46 = .ok (.aload_n 0, 1) := by decide +kernel
theorem dX5_duel_47 : decode cX5_duel 47 = .ok (.getfield 7, 3) := by decide +kernel
theorem dX5_duel_50 : decode cX5_duel 50 = .ok (.iload 5, 2) := by decide +kernel
theorem dX5_duel_52 : decode cX5_duel 52 = .ok (.iaload, 1) := by decide +kernel
theorem dX5_duel_53 : decode cX5_duel 53 = .ok (.istore 6, 2) := by decide +kernel
theorem dX5_duel_55 : decode cX5_duel 55 = .ok (.aload_n 0, 1) := by decide +kernel
theorem dX5_duel_56 : decode cX5_duel 56 = .ok (.getfield 7, 3) := by decide +kernel
theorem dX5_duel_59 : decode cX5_duel 59 = .ok (.iload 5, 2) := by decide +kernel
theorem dX5_duel_61 : decode cX5_duel 61 = .ok (.bipush 9, 2) := by decide +kernel
theorem dX5_duel_63 : decode cX5_duel 63 = .ok (.iastore, 1) := by decide +kernel
theorem dX5_duel_64 : decode cX5_duel 64 = .ok (.aload_n 0, 1) := by decide +kernel
theorem dX5_duel_65 : decode cX5_duel 65 = .ok (.iload_n 1, 1) := by decide +kernel
theorem dX5_duel_66 : decode cX5_duel 66 = .ok (.invokevirtual 212, 3) := by decide +kernel
theorem dX5_duel_69 : decode cX5_duel 69 = .ok (.istore 7, 2) := by decide +kernel
theorem dX5_duel_71 : decode cX5_duel 71 = .ok (.aload_n 0, 1) := by decide +kernel
theorem dX5_duel_72 : decode cX5_duel 72 = .ok (.getfield 7, 3) := by decide +kernel
theorem dX5_duel_75 : decode cX5_duel 75 = .ok (.iload 5, 2) := by decide +kernel
theorem dX5_duel_77 : decode cX5_duel 77 = .ok (.iload 6, 2) := by decide +kernel
theorem dX5_duel_79 : decode cX5_duel 79 = .ok (.iastore, 1) := by decide +kernel
theorem dX5_duel_80 : decode cX5_duel 80 = .ok (.iload 7, 2) := by decide +kernel
theorem dX5_duel_82 : decode cX5_duel 82 = .ok (.iload 4, 2) := by decide +kernel
theorem dX5_duel_84 : decode cX5_duel 84 = .ok (.if_icmp .gt 6, 3) := by decide +kernel
theorem dX5_duel_87 : decode cX5_duel 87 = .ok (.goto 10, 3) := by decide +kernel
theorem dX5_duel_90 : decode cX5_duel 90 = .ok (.iload 7, 2) := by decide +kernel
theorem dX5_duel_92 : decode cX5_duel 92 = .ok (.istore 4, 2) := by decide +kernel
theorem dX5_duel_94 : decode cX5_duel 94 = .ok (.iload 5, 2) := by decide +kernel
theorem dX5_duel_96 : decode cX5_duel 96 = .ok (.istore_n 3, 1) := by decide +kernel
theorem dX5_duel_97 : decode cX5_duel 97 = .ok (.iinc 5 1, 3) := by decide +kernel
theorem dX5_duel_100 : decode cX5_duel 100 = .ok (.goto (-68), 3) := by decide +kernel
theorem dX5_duel_103 : decode cX5_duel 103 = .ok (.iload_n 2, 1) := by decide +kernel
theorem dX5_duel_104 : decode cX5_duel 104 = .ok (.ifCond .ne 7, 3) := by decide +kernel
theorem dX5_duel_107 : decode cX5_duel 107 = .ok (.iload_n 3, 1) := by decide +kernel
theorem dX5_duel_108 : decode cX5_duel 108 = .ok (.goto 5, 3) := by decide +kernel
theorem dX5_duel_111 : decode cX5_duel 111 = .ok (.iload 4, 2) := by decide +kernel
theorem dX5_duel_113 : decode cX5_duel 113 = .ok (.ireturn, 1) := by decide +kernel
theorem dX5_noWay_0 : decode cX5_noWay 0 = .ok (.aload_n 0, 1) := by decide +kernel
theorem dX5_noWay_1 : decode cX5_noWay 1 = .ok (.iload_n 1, 1) := by decide +kernel
theorem dX5_noWay_2 : decode cX5_noWay 2 = .ok (.invokevirtual 82, 3) := by decide +kernel
theorem dX5_noWay_5 : decode cX5_noWay 5 = .ok (.ifCond .ne 11, 3) := by decide +kernel
theorem dX5_noWay_8 : decode cX5_noWay 8 = .ok (.aload_n 0, 1) := by decide +kernel
theorem dX5_noWay_9 : decode cX5_noWay 9 = .ok (.iload_n 1, 1) := by decide +kernel
theorem dX5_noWay_10 : decode cX5_noWay 10 = .ok (.invokevirtual 85, 3) := by decide +kernel
theorem dX5_noWay_13 : decode cX5_noWay 13 = .ok (.goto 19, 3) := by decide +kernel
theorem dX5_noWay_16 : decode cX5_noWay 16 = .ok (.iload_n 2, 1) := by decide +kernel
theorem dX5_noWay_17 : decode cX5_noWay 17 = .ok (.aload_n 0, 1) := by decide +kernel
theorem dX5_noWay_18 : decode cX5_noWay 18 = .ok (.getfield 28, 3) := by decide +kernel
theorem dX5_noWay_21 : decode cX5_noWay 21 = .ok (.iload_n 1, 1) := by decide +kernel
theorem dX5_noWay_22 : decode cX5_noWay 22 = .ok (.iaload, 1) := by decide +kernel
theorem dX5_noWay_23 : decode cX5_noWay 23 = .ok (.if_icmp .le 8, 3) := by decide +kernel
theorem dX5_noWay_26 : decode cX5_noWay 26 = .ok (.bipush (-2), 2) := by decide +kernel
theorem dX5_noWay_28 : decode cX5_noWay 28 = .ok (.goto 4, 3) := by decide +kernel
theorem dX5_noWay_31 : decode cX5_noWay 31 = .ok (.iconst 0, 1) := by decide +kernel
theorem dX5_noWay_32 : decode cX5_noWay 32 = .ok (.ireturn, 1) := by decide +kernel
theorem dX5_wrong_0 : decode cX5_wrong 0 = .ok (.iconst 0, 1) := by decide +kernel
theorem dX5_wrong_1 : decode cX5_wrong 1 = .ok (.istore_n 3, 1) := by decide +kernel
theorem dX5_wrong_2 : decode cX5_wrong 2 = .ok (.iload_n 3, 1) := by decide +kernel
theorem dX5_wrong_3 : decode cX5_wrong 3 = .ok (.iload_n 2, 1) := by decide +kernel
theorem dX5_wrong_4 : decode cX5_wrong 4 = .ok (.if_icmp .ge 89, 3) := by decide +kernel
theorem dX5_wrong_7 : decode cX5_wrong 7 = .ok (.aload_n 0, 1) := by decide +kernel
theorem dX5_wrong_8 : decode cX5_wrong 8 = .ok (.iload_n 1, 1) := by decide +kernel
theorem dX5_wrong_9 : decode cX5_wrong 9 = .ok (.iload_n 3, 1) := by decide +kernel
theorem dX5_wrong_10 : decode cX5_wrong 10 = .ok (.invokevirtual 259, 3) := by decide +kernel
theorem dX5_wrong_13 : decode cX5_wrong 13 = .ok (.lstore 4, 2) := by decide +kernel
theorem dX5_wrong_15 : decode cX5_wrong 15 = .ok (.iload_n 3, 1) := by decide +kernel
theorem dX5_wrong_16 : decode cX5_wrong 16 = .ok (.aload_n 0, 1) := by decide +kernel
theorem dX5_wrong_17 : decode cX5_wrong 17 = .ok (.getfield 57, 3) := by decide +kernel
theorem dX5_wrong_20 : decode cX5_wrong 20 = .ok (.if_icmp .eq 40, 3) := by decide +kernel
theorem dX5_wrong_23 : decode cX5_wrong 23 = .ok (.lload 4, 2) := by decide +kernel
theorem dX5_wrong_25 : decode cX5_wrong 25 = .ok (.lconst 0, 1) := by decide +kernel
theorem dX5_wrong_26 : decode cX5_wrong 26 = .ok (.lcmp, 1) := by decide +kernel
theorem dX5_wrong_27 : decode cX5_wrong 27 = .ok (.ifCond .lt 33, 3) := by decide +kernel
theorem dX5_wrong_30 : decode cX5_wrong 30 = .ok (.lload 4, 2) := by decide +kernel
theorem dX5_wrong_32 : decode cX5_wrong 32 = .ok (.aload_n 0, 1) := by decide +kernel
theorem dX5_wrong_33 : decode cX5_wrong 33 = .ok (.getfield 57, 3) := by decide +kernel
theorem dX5_wrong_36 : decode cX5_wrong 36 = .ok (.aload_n 0, 1) := by decide +kernel
theorem dX5_wrong_37 : decode cX5_wrong 37 = .ok (.getfield 57, 3) := by decide +kernel
theorem dX5_wrong_40 : decode cX5_wrong 40 = .ok (.imul, 1) := by decide +kernel
theorem dX5_wrong_41 : decode cX5_wrong 41 = .ok (.i2l, 1) := by decide +kernel
theorem dX5_wrong_42 : decode cX5_wrong 42 = .ok (.lcmp, 1) := by decide +kernel
theorem dX5_wrong_43 : decode cX5_wrong 43 = .ok (.ifCond .ge 17, 3) := by decide +kernel
theorem dX5_wrong_46 : decode cX5_wrong 46 = .ok (.lload 4, 2) := by decide +kernel
theorem dX5_wrong_48 : decode cX5_wrong 48 = .ok (.aload_n 0, 1) := by decide +kernel
theorem dX5_wrong_49 : decode cX5_wrong 49 = .ok (.getfield 57, 3) := by decide +kernel
theorem dX5_wrong_52 : decode cX5_wrong 52 = .ok (.i2l, 1) := by decide +kernel
theorem dX5_wrong_53 : decode cX5_wrong 53 = .ok (.ldiv, 1) := by decide +kernel
theorem dX5_wrong_54 : decode cX5_wrong 54 = .ok (.iload_n 3, 1) := by decide +kernel
theorem dX5_wrong_55 : decode cX5_wrong 55 = .ok (.i2l, 1) := by decide +kernel
theorem dX5_wrong_56 : decode cX5_wrong 56 = .ok (.lcmp, 1) := by decide +kernel
theorem dX5_wrong_57 : decode cX5_wrong 57 = .ok (.ifCond .eq 5, 3) := by decide +kernel
theorem dX5_wrong_60 : decode cX5_wrong 60 = .ok (.iload_n 3, 1) := by decide +kernel
theorem dX5_wrong_61 : decode cX5_wrong 61 = .ok (.ireturn, 1) := by decide +kernel
theorem dX5_wrong_62 : decode cX5_wrong 62 = .ok (.iload_n 3, 1) := by decide +kernel
theorem dX5_wrong_63 : decode cX5_wrong 63 = .ok (.ifCond .le 24, 3) := by decide +kernel
theorem dX5_wrong_66 : decode cX5_wrong 66 = .ok (.aload_n 0, 1) := by decide +kernel
theorem dX5_wrong_67 : decode cX5_wrong 67 = .ok (.aload_n 0, 1) := by decide +kernel
theorem dX5_wrong_68 : decode cX5_wrong 68 = .ok (.iload_n 1, 1) := by decide +kernel
theorem dX5_wrong_69 : decode cX5_wrong 69 = .ok (.iload_n 3, 1) := by decide +kernel
theorem dX5_wrong_70 : decode cX5_wrong 70 = .ok (.iconst 1, 1) := by decide +kernel
theorem dX5_wrong_71 : decode cX5_wrong 71 = .ok (.isub, 1) := by decide +kernel
theorem dX5_wrong_72 : decode cX5_wrong 72 = .ok (.invokevirtual 259, 3) := by decide +kernel
theorem dX5_wrong_75 : decode cX5_wrong 75 = .ok (.l2i, 1) := by decide +kernel
theorem dX5_wrong_76 : decode cX5_wrong 76 = .ok (.lload 4, 2) := by decide +kernel
theorem dX5_wrong_78 : decode cX5_wrong 78 = .ok (.l2i, 1) := by decide +kernel
theorem dX5_wrong_79 : decode cX5_wrong 79 = .ok (.invokevirtual 196, 3) := by decide +kernel
theorem dX5_wrong_82 : decode cX5_wrong 82 = .ok (.ifCond .ne 5, 3) := by decide +kernel
theorem dX5_wrong_85 : decode cX5_wrong 85 = .ok (.iload_n 3, 1) := by decide +kernel
theorem dX5_wrong_86 : decode cX5_wrong 86 = .ok (.ireturn, 1) := by decide +kernel
theorem dX5_wrong_87 : decode cX5_wrong 87 = .ok (.iinc 3 1, 3) := by decide +kernel
theorem dX5_wrong_90 : decode cX5_wrong 90 = .ok (.goto (-88), 3) := by decide +kernel
theorem dX5_wrong_93 : decode cX5_wrong 93 = .ok (.iload_n 2, 1) := by decide +kernel
theorem dX5_wrong_94 : decode cX5_wrong 94 = .ok (.aload_n 0, 1) := by decide +kernel
theorem dX5_wrong_95 : decode cX5_wrong 95 = .ok (.getfield 57, 3) := by decide +kernel
theorem dX5_wrong_98 : decode cX5_wrong 98 = .ok (.if_icmp .ge 7, 3) := by decide +kernel
theorem dX5_wrong_101 : decode cX5_wrong 101 = .ok (.iload_n 2, 1) := by decide +kernel
theorem dX5_wrong_102 : decode cX5_wrong 102 = .ok (.goto 4, 3) := by decide +kernel
theorem dX5_wrong_105 : decode cX5_wrong 105 = .ok (.iconst (-1), 1) := by decide +kernel
theorem dX5_wrong_106 : decode cX5_wrong 106 = .ok (.ireturn, 1) := by decide +kernel
theorem dX5_judge_0 : decode cX5_judge 0 = .ok (.iload_n 1, 1) := by decide +kernel
theorem dX5_judge_1 : decode cX5_judge 1 = .ok (.invokestatic 74, 3) := by decide +kernel
theorem dX5_judge_4 : decode cX5_judge 4 = .ok (.ifCond .eq 13, 3) := by decide +kernel
theorem dX5_judge_7 : decode cX5_judge 7 = .ok (.iload_n 2, 1) := by decide +kernel
theorem dX5_judge_8 : decode cX5_judge 8 = .ok (.iconst 0, 1) := by decide +kernel
theorem dX5_judge_9 : decode cX5_judge 9 = .ok (.bipush 40, 2) := by decide +kernel
theorem dX5_judge_11 : decode cX5_judge 11 = .ok (.invokestatic 70, 3) := by decide +kernel
theorem dX5_judge_14 : decode cX5_judge 14 = .ok (.ifCond .ne 10, 3) := by decide +kernel
theorem dX5_judge_17 : decode cX5_judge 17 = .ok (.aload_n 0, 1) := by decide +kernel
theorem dX5_judge_18 : decode cX5_judge 18 = .ok (.bipush (-2), 2) := by decide +kernel
theorem dX5_judge_20 : decode cX5_judge 20 = .ok (.invokevirtual 78, 3) := by decide +kernel
theorem dX5_judge_23 : decode cX5_judge 23 = .ok (.ireturn, 1) := by decide +kernel
theorem dX5_judge_24 : decode cX5_judge 24 = .ok (.aload_n 0, 1) := by decide +kernel
theorem dX5_judge_25 : decode cX5_judge 25 = .ok (.iload_n 1, 1) := by decide +kernel
theorem dX5_judge_26 : decode cX5_judge 26 = .ok (.iload_n 2, 1) := by decide +kernel
theorem dX5_judge_27 : decode cX5_judge 27 = .ok (.invokevirtual 284, 3) := by decide +kernel
theorem dX5_judge_30 : decode cX5_judge 30 = .ok (.istore_n 3, 1) := by decide +kernel
theorem dX5_judge_31 : decode cX5_judge 31 = .ok (.iload_n 3, 1) := by decide +kernel
theorem dX5_judge_32 : decode cX5_judge 32 = .ok (.ifCond .ge 11, 3) := by decide +kernel
theorem dX5_judge_35 : decode cX5_judge 35 = .ok (.aload_n 0, 1) := by decide +kernel
theorem dX5_judge_36 : decode cX5_judge 36 = .ok (.iload_n 3, 1) := by decide +kernel
theorem dX5_judge_37 : decode cX5_judge 37 = .ok (.invokevirtual 78, 3) := by decide +kernel
theorem dX5_judge_40 : decode cX5_judge 40 = .ok (.goto 9, 3) := by decide +kernel
theorem dX5_judge_43 : decode cX5_judge 43 = .ok (.aload_n 0, 1) := by decide +kernel
theorem dX5_judge_44 : decode cX5_judge 44 = .ok (.iload_n 1, 1) := by decide +kernel
theorem dX5_judge_45 : decode cX5_judge 45 = .ok (.iload_n 2, 1) := by decide +kernel
theorem dX5_judge_46 : decode cX5_judge 46 = .ok (.invokevirtual 287, 3) := by decide +kernel
theorem dX5_judge_49 : decode cX5_judge 49 = .ok (.ireturn, 1) := by decide +kernel
theorem dX5_loudOf_0 : decode cX5_loudOf 0 = .ok (.iconst 0, 1) := by decide +kernel
theorem dX5_loudOf_1 : decode cX5_loudOf 1 = .ok (.istore 4, 2) := by decide +kernel
theorem dX5_loudOf_3 : decode cX5_loudOf 3 = .ok (.iconst (-1), 1) := by decide +kernel
theorem dX5_loudOf_4 : decode cX5_loudOf 4 = .ok (.istore 5, 2) := by decide +kernel
theorem dX5_loudOf_6 : decode cX5_loudOf 6 = .ok (.aload_n 0, 1) := by decide +kernel
theorem dX5_loudOf_7 : decode cX5_loudOf 7 = .ok (.getfield 57, 3) := by decide +kernel
theorem dX5_loudOf_10 : decode cX5_loudOf 10 = .ok (.iconst 1, 1) := by decide +kernel
theorem dX5_loudOf_11 : decode cX5_loudOf 11 = .ok (.isub, 1) := by decide +kernel
theorem dX5_loudOf_12 : decode cX5_loudOf 12 = .ok (.istore 6, 2) := by decide +kernel
theorem dX5_loudOf_14 : decode cX5_loudOf 14 = .ok (.iload 6, 2) := by decide +kernel
theorem dX5_loudOf_16 : decode cX5_loudOf 16 = .ok (.ifCond .lt 44, 3) := by decide +kernel
theorem dX5_loudOf_19 : decode cX5_loudOf 19 = .ok (.aload_n 0, 1) := by decide +kernel
theorem dX5_loudOf_20 : decode cX5_loudOf 20 = .ok (.iload_n 2, 1) := by decide +kernel
theorem dX5_loudOf_21 : decode cX5_loudOf 21 = .ok (.aload_n 0, 1) := by decide +kernel
theorem dX5_loudOf_22 : decode cX5_loudOf 22 = .ok (.iload_n 1, 1) := by decide +kernel
theorem dX5_loudOf_23 : decode cX5_loudOf 23 = .ok (.iload 6, 2) := by decide +kernel
theorem dX5_loudOf_25 : decode cX5_loudOf 25 = .ok (.invokevirtual 259, 3) := by decide +kernel
theorem dX5_loudOf_28 : decode cX5_loudOf 28 = .ok (.l2i, 1) := by decide +kernel
theorem dX5_loudOf_29 : decode cX5_loudOf 29 = .ok (.invokevirtual 190, 3) := by decide +kernel
theorem dX5_loudOf_32 : decode cX5_loudOf 32 = .ok (.istore 7, 2) := by decide +kernel
theorem dX5_loudOf_34 : decode cX5_loudOf 34 = .ok (.iload 4, 2) := by decide +kernel
theorem dX5_loudOf_36 : decode cX5_loudOf 36 = .ok (.iload 7, 2) := by decide +kernel
theorem dX5_loudOf_38 : decode cX5_loudOf 38 = .ok (.iadd, 1) := by decide +kernel
theorem dX5_loudOf_39 : decode cX5_loudOf 39 = .ok (.istore 4, 2) := by decide +kernel
theorem dX5_loudOf_41 : decode cX5_loudOf 41 = .ok (.iload 7, 2) := by decide +kernel
theorem dX5_loudOf_43 : decode cX5_loudOf 43 = .ok (.aload_n 0, 1) := by decide +kernel
theorem dX5_loudOf_44 : decode cX5_loudOf 44 = .ok (.getfield 61, 3) := by decide +kernel
theorem dX5_loudOf_47 : decode cX5_loudOf 47 = .ok (.if_icmp .lt 7, 3) := by decide +kernel
theorem dX5_loudOf_50 : decode cX5_loudOf 50 = .ok (.iload 6, 2) := by decide +kernel
theorem dX5_loudOf_52 : decode cX5_loudOf 52 = .ok (.istore 5, 2) := by decide +kernel
theorem dX5_loudOf_54 : decode cX5_loudOf 54 = .ok (.iinc 6 (-1), 3) := by decide +kernel
theorem dX5_loudOf_57 : decode cX5_loudOf 57 = .ok (.goto (-43), 3) := by decide +kernel
theorem dX5_loudOf_60 : decode cX5_loudOf 60 = .ok (.iload_n 3, 1) := by decide +kernel
theorem dX5_loudOf_61 : decode cX5_loudOf 61 = .ok (.ifCond .ne 8, 3) := by decide +kernel
theorem dX5_loudOf_64 : decode cX5_loudOf 64 = .ok (.iload 4, 2) := by decide +kernel
theorem dX5_loudOf_66 : decode cX5_loudOf 66 = .ok (.goto 5, 3) := by decide +kernel
theorem dX5_loudOf_69 : decode cX5_loudOf 69 = .ok (.iload 5, 2) := by decide +kernel
theorem dX5_loudOf_71 : decode cX5_loudOf 71 = .ok (.ireturn, 1) := by decide +kernel
theorem dX5_loud_0 : decode cX5_loud 0 = .ok (.iload_n 1, 1) := by decide +kernel
theorem dX5_loud_1 : decode cX5_loud 1 = .ok (.invokestatic 74, 3) := by decide +kernel
theorem dX5_loud_4 : decode cX5_loud 4 = .ok (.ifCond .eq 31, 3) := by decide +kernel
theorem dX5_loud_7 : decode cX5_loud 7 = .ok (.iload_n 2, 1) := by decide +kernel
theorem dX5_loud_8 : decode cX5_loud 8 = .ok (.iconst 0, 1) := by decide +kernel
theorem dX5_loud_9 : decode cX5_loud 9 = .ok (.bipush 40, 2) := by decide +kernel
theorem dX5_loud_11 : decode cX5_loud 11 = .ok (.invokestatic 70, 3) := by decide +kernel
theorem dX5_loud_14 : decode cX5_loud 14 = .ok (.ifCond .eq 21, 3) := by decide +kernel
theorem dX5_loud_17 : decode cX5_loud 17 = .ok (.aload_n 0, 1) := by decide +kernel
theorem dX5_loud_18 : decode cX5_loud 18 = .ok (.iload_n 3, 1) := by decide +kernel
theorem dX5_loud_19 : decode cX5_loud 19 = .ok (.invokevirtual 92, 3) := by decide +kernel
theorem dX5_loud_22 : decode cX5_loud 22 = .ok (.ifCond .eq 13, 3) := by decide +kernel
theorem dX5_loud_25 : decode cX5_loud 25 = .ok (.iload 4, 2) := by decide +kernel
theorem dX5_loud_27 : decode cX5_loud 27 = .ok (.iconst 0, 1) := by decide +kernel
theorem dX5_loud_28 : decode cX5_loud 28 = .ok (.iconst 1, 1) := by decide +kernel
theorem dX5_loud_29 : decode cX5_loud 29 = .ok (.invokestatic 70, 3) := by decide +kernel
theorem dX5_loud_32 : decode cX5_loud 32 = .ok (.ifCond .ne 10, 3) := by decide +kernel
theorem dX5_loud_35 : decode cX5_loud 35 = .ok (.aload_n 0, 1) := by decide +kernel
theorem dX5_loud_36 : decode cX5_loud 36 = .ok (.bipush (-2), 2) := by decide +kernel
theorem dX5_loud_38 : decode cX5_loud 38 = .ok (.invokevirtual 78, 3) := by decide +kernel
theorem dX5_loud_41 : decode cX5_loud 41 = .ok (.ireturn, 1) := by decide +kernel
theorem dX5_loud_42 : decode cX5_loud 42 = .ok (.aload_n 0, 1) := by decide +kernel
theorem dX5_loud_43 : decode cX5_loud 43 = .ok (.iload_n 1, 1) := by decide +kernel
theorem dX5_loud_44 : decode cX5_loud 44 = .ok (.iload_n 2, 1) := by decide +kernel
theorem dX5_loud_45 : decode cX5_loud 45 = .ok (.invokevirtual 284, 3) := by decide +kernel
theorem dX5_loud_48 : decode cX5_loud 48 = .ok (.istore 5, 2) := by decide +kernel
theorem dX5_loud_50 : decode cX5_loud 50 = .ok (.iload 5, 2) := by decide +kernel
theorem dX5_loud_52 : decode cX5_loud 52 = .ok (.ifCond .ge 10, 3) := by decide +kernel
theorem dX5_loud_55 : decode cX5_loud 55 = .ok (.aload_n 0, 1) := by decide +kernel
theorem dX5_loud_56 : decode cX5_loud 56 = .ok (.iload 5, 2) := by decide +kernel
theorem dX5_loud_58 : decode cX5_loud 58 = .ok (.invokevirtual 78, 3) := by decide +kernel
theorem dX5_loud_61 : decode cX5_loud 61 = .ok (.ireturn, 1) := by decide +kernel
theorem dX5_loud_62 : decode cX5_loud 62 = .ok (.aload_n 0, 1) := by decide +kernel
theorem dX5_loud_63 : decode cX5_loud 63 = .ok (.iload_n 1, 1) := by decide +kernel
theorem dX5_loud_64 : decode cX5_loud 64 = .ok (.iload_n 2, 1) := by decide +kernel
theorem dX5_loud_65 : decode cX5_loud 65 = .ok (.invokevirtual 287, 3) := by decide +kernel
theorem dX5_loud_68 : decode cX5_loud 68 = .ok (.iconst (-1), 1) := by decide +kernel
theorem dX5_loud_69 : decode cX5_loud 69 = .ok (.if_icmp .ne 14, 3) := by decide +kernel
theorem dX5_loud_72 : decode cX5_loud 72 = .ok (.aload_n 0, 1) := by decide +kernel
theorem dX5_loud_73 : decode cX5_loud 73 = .ok (.iload_n 1, 1) := by decide +kernel
theorem dX5_loud_74 : decode cX5_loud 74 = .ok (.iload_n 3, 1) := by decide +kernel
theorem dX5_loud_75 : decode cX5_loud 75 = .ok (.iload 4, 2) := by decide +kernel
theorem dX5_loud_77 : decode cX5_loud 77 = .ok (.invokevirtual 290, 3) := by decide +kernel
theorem dX5_loud_80 : decode cX5_loud 80 = .ok (.goto 9, 3) := by decide +kernel
theorem dX5_loud_83 : decode cX5_loud 83 = .ok (.aload_n 0, 1) := by decide +kernel
theorem dX5_loud_84 : decode cX5_loud 84 = .ok (.bipush (-5), 2) := by decide +kernel
theorem dX5_loud_86 : decode cX5_loud 86 = .ok (.invokevirtual 78, 3) := by decide +kernel
theorem dX5_loud_89 : decode cX5_loud 89 = .ok (.ireturn, 1) := by decide +kernel
theorem dX5_done_0 : decode cX5_done 0 = .ok (.iload_n 1, 1) := by decide +kernel
theorem dX5_done_1 : decode cX5_done 1 = .ok (.invokestatic 74, 3) := by decide +kernel
theorem dX5_done_4 : decode cX5_done 4 = .ok (.ifCond .eq 21, 3) := by decide +kernel
theorem dX5_done_7 : decode cX5_done 7 = .ok (.iload_n 2, 1) := by decide +kernel
theorem dX5_done_8 : decode cX5_done 8 = .ok (.iconst 0, 1) := by decide +kernel
theorem dX5_done_9 : decode cX5_done 9 = .ok (.bipush 40, 2) := by decide +kernel
theorem dX5_done_11 : decode cX5_done 11 = .ok (.invokestatic 70, 3) := by decide +kernel
theorem dX5_done_14 : decode cX5_done 14 = .ok (.ifCond .eq 11, 3) := by decide +kernel
theorem dX5_done_17 : decode cX5_done 17 = .ok (.aload_n 0, 1) := by decide +kernel
theorem dX5_done_18 : decode cX5_done 18 = .ok (.iload_n 3, 1) := by decide +kernel
theorem dX5_done_19 : decode cX5_done 19 = .ok (.invokevirtual 92, 3) := by decide +kernel
theorem dX5_done_22 : decode cX5_done 22 = .ok (.ifCond .ne 10, 3) := by decide +kernel
theorem dX5_done_25 : decode cX5_done 25 = .ok (.aload_n 0, 1) := by decide +kernel
theorem dX5_done_26 : decode cX5_done 26 = .ok (.bipush (-2), 2) := by decide +kernel
theorem dX5_done_28 : decode cX5_done 28 = .ok (.invokevirtual 78, 3) := by decide +kernel
theorem dX5_done_31 : decode cX5_done 31 = .ok (.ireturn, 1) := by decide +kernel
theorem dX5_done_32 : decode cX5_done 32 = .ok (.aload_n 0, 1) := by decide +kernel
theorem dX5_done_33 : decode cX5_done 33 = .ok (.iload_n 1, 1) := by decide +kernel
theorem dX5_done_34 : decode cX5_done 34 = .ok (.iload_n 2, 1) := by decide +kernel
theorem dX5_done_35 : decode cX5_done 35 = .ok (.invokevirtual 284, 3) := by decide +kernel
theorem dX5_done_38 : decode cX5_done 38 = .ok (.istore 4, 2) := by decide +kernel
theorem dX5_done_40 : decode cX5_done 40 = .ok (.iload 4, 2) := by decide +kernel
theorem dX5_done_42 : decode cX5_done 42 = .ok (.ifCond .ge 10, 3) := by decide +kernel
theorem dX5_done_45 : decode cX5_done 45 = .ok (.aload_n 0, 1) := by decide +kernel
theorem dX5_done_46 : decode cX5_done 46 = .ok (.iload 4, 2) := by decide +kernel
theorem dX5_done_48 : decode cX5_done 48 = .ok (.invokevirtual 78, 3) := by decide +kernel
theorem dX5_done_51 : decode cX5_done 51 = .ok (.ireturn, 1) := by decide +kernel
theorem dX5_done_52 : decode cX5_done 52 = .ok (.aload_n 0, 1) := by decide +kernel
theorem dX5_done_53 : decode cX5_done 53 = .ok (.iload_n 1, 1) := by decide +kernel
theorem dX5_done_54 : decode cX5_done 54 = .ok (.iload_n 2, 1) := by decide +kernel
theorem dX5_done_55 : decode cX5_done 55 = .ok (.invokevirtual 287, 3) := by decide +kernel
theorem dX5_done_58 : decode cX5_done 58 = .ok (.iconst (-1), 1) := by decide +kernel
theorem dX5_done_59 : decode cX5_done 59 = .ok (.if_icmp .eq 10, 3) := by decide +kernel
theorem dX5_done_62 : decode cX5_done 62 = .ok (.aload_n 0, 1) := by decide +kernel
theorem dX5_done_63 : decode cX5_done 63 = .ok (.bipush (-5), 2) := by decide +kernel
theorem dX5_done_65 : decode cX5_done 65 = .ok (.invokevirtual 78, 3) := by decide +kernel
theorem dX5_done_68 : decode cX5_done 68 = .ok (.ireturn, 1) := by decide +kernel
theorem dX5_done_69 : decode cX5_done 69 = .ok (.aload_n 0, 1) := by decide +kernel
theorem dX5_done_70 : decode cX5_done 70 = .ok (.iload_n 1, 1) := by decide +kernel
theorem dX5_done_71 : decode cX5_done 71 = .ok (.iload_n 3, 1) := by decide +kernel
theorem dX5_done_72 : decode cX5_done 72 = .ok (.iconst 0, 1) := by decide +kernel
theorem dX5_done_73 : decode cX5_done 73 = .ok (.invokevirtual 290, 3) := by decide +kernel
theorem dX5_done_76 : decode cX5_done 76 = .ok (.istore 5, 2) := by decide +kernel
theorem dX5_done_78 : decode cX5_done 78 = .ok (.iconst 0, 1) := by decide +kernel
theorem dX5_done_79 : decode cX5_done 79 = .ok (.istore 6, 2) := by decide +kernel
theorem dX5_done_81 : decode cX5_done 81 = .ok (.iload 6, 2) := by decide +kernel
theorem dX5_done_83 : decode cX5_done 83 = .ok (.aload_n 0, 1) := by decide +kernel
theorem dX5_done_84 : decode cX5_done 84 = .ok (.getfield 57, 3) := by decide +kernel
theorem dX5_done_87 : decode cX5_done 87 = .ok (.if_icmp .ge 39, 3) := by decide +kernel
theorem dX5_done_90 : decode cX5_done 90 = .ok (.aload_n 0, 1) := by decide +kernel
theorem dX5_done_91 : decode cX5_done 91 = .ok (.iload_n 1, 1) := by decide +kernel
theorem dX5_done_92 : decode cX5_done 92 = .ok (.iload 6, 2) := by decide +kernel
theorem dX5_done_94 : decode cX5_done 94 = .ok (.invokevirtual 259, 3) := by decide +kernel
theorem dX5_done_97 : decode cX5_done 97 = .ok (.l2i, 1) := by decide +kernel
theorem dX5_done_98 : decode cX5_done 98 = .ok (.istore 7, 2) := by decide +kernel
theorem dX5_done_100 : decode cX5_done 100 = .ok (.aload_n 0, 1) := by decide +kernel
theorem dX5_done_101 : decode cX5_done 101 = .ok (.getfield 7, 3) := by decide +kernel
theorem dX5_done_104 : decode cX5_done 104 = .ok (.iload 7, 2) := by decide +kernel
theorem dX5_done_106 : decode cX5_done 106 = .ok (.iconst 0, 1) := by decide +kernel
theorem dX5_done_107 : decode cX5_done 107 = .ok (.aload_n 0, 1) := by decide +kernel
theorem dX5_done_108 : decode cX5_done 108 = .ok (.getfield 7, 3) := by decide +kernel
theorem dX5_done_111 : decode cX5_done 111 = .ok (.iload 7, 2) := by decide +kernel
theorem dX5_done_113 : decode cX5_done 113 = .ok (.iaload, 1) := by decide +kernel
theorem dX5_done_114 : decode cX5_done 114 = .ok (.iconst 1, 1) := by decide +kernel
theorem dX5_done_115 : decode cX5_done 115 = .ok (.isub, 1) := by decide +kernel
theorem dX5_done_116 : decode cX5_done 116 = .ok (.invokestatic 106, 3) := by decide +kernel
theorem dX5_done_119 : decode cX5_done 119 = .ok (.iastore, 1) := by decide +kernel
theorem dX5_done_120 : decode cX5_done 120 = .ok (.iinc 6 1, 3) := by decide +kernel
theorem dX5_done_123 : decode cX5_done 123 = .ok (.goto (-42), 3) := by decide +kernel
theorem dX5_done_126 : decode cX5_done 126 = .ok (.iload 5, 2) := by decide +kernel
theorem dX5_done_128 : decode cX5_done 128 = .ok (.ireturn, 1) := by decide +kernel
theorem dX5_allGravel_0 : decode cX5_allGravel 0 = .ok (.iconst 0, 1) := by decide +kernel
theorem dX5_allGravel_1 : decode cX5_allGravel 1 = .ok (.istore_n 1, 1) := by decide +kernel
theorem dX5_allGravel_2 : decode cX5_allGravel 2 = .ok (.iconst 0, 1) := by decide +kernel
theorem dX5_allGravel_3 : decode cX5_allGravel 3 = .ok (.istore_n 2, 1) := by decide +kernel
theorem dX5_allGravel_4 : decode cX5_allGravel 4 = .ok (.iload_n 2, 1) := by decide +kernel
theorem dX5_allGravel_5 : decode cX5_allGravel 5 = .ok (.aload_n 0, 1) := by decide +kernel
theorem dX5_allGravel_6 : decode cX5_allGravel 6 = .ok (.getfield 57, 3) := by decide +kernel
theorem dX5_allGravel_9 : decode cX5_allGravel 9 = .ok (.aload_n 0, 1) := by decide +kernel
theorem dX5_allGravel_10 : decode cX5_allGravel 10 = .ok (.getfield 57, 3) := by decide +kernel
theorem dX5_allGravel_13 : decode cX5_allGravel 13 = .ok (.imul, 1) := by decide +kernel
theorem dX5_allGravel_14 : decode cX5_allGravel 14 = .ok (.if_icmp .ge 18, 3) := by decide +kernel
theorem dX5_allGravel_17 : decode cX5_allGravel 17 = .ok (.iload_n 1, 1) := by decide +kernel
theorem dX5_allGravel_18 : decode cX5_allGravel 18 = .ok (.aload_n 0, 1) := by decide +kernel
theorem dX5_allGravel_19 : decode cX5_allGravel 19 = .ok (.getfield 7, 3) := by decide +kernel
theorem dX5_allGravel_22 : decode cX5_allGravel 22 = .ok (.iload_n 2, 1) := by decide +kernel
theorem dX5_allGravel_23 : decode cX5_allGravel 23 = .ok (.iaload, 1) := by decide +kernel
theorem dX5_allGravel_24 : decode cX5_allGravel 24 = .ok (.iadd, 1) := by decide +kernel
theorem dX5_allGravel_25 : decode cX5_allGravel 25 = .ok (.istore_n 1, 1) := by decide +kernel
theorem dX5_allGravel_26 : decode cX5_allGravel 26 = .ok (.iinc 2 1, 3) := by decide +kernel
theorem dX5_allGravel_29 : decode cX5_allGravel 29 = .ok (.goto (-25), 3) := by decide +kernel
theorem dX5_allGravel_32 : decode cX5_allGravel 32 = .ok (.iload_n 1, 1) := by decide +kernel
theorem dX5_allGravel_33 : decode cX5_allGravel 33 = .ok (.ireturn, 1) := by decide +kernel
theorem dX5_rake_0 : decode cX5_rake 0 = .ok (.aload_n 0, 1) := by decide +kernel
theorem dX5_rake_1 : decode cX5_rake 1 = .ok (.invokevirtual 172, 3) := by decide +kernel
theorem dX5_rake_4 : decode cX5_rake 4 = .ok (.aload_n 0, 1) := by decide +kernel
theorem dX5_rake_5 : decode cX5_rake 5 = .ok (.invokevirtual 293, 3) := by decide +kernel
theorem dX5_rake_8 : decode cX5_rake 8 = .ok (.ireturn, 1) := by decide +kernel
theorem dX5_sweep_0 : decode cX5_sweep 0 = .ok (.aload_n 0, 1) := by decide +kernel
theorem dX5_sweep_1 : decode cX5_sweep 1 = .ok (.iload_n 1, 1) := by decide +kernel
theorem dX5_sweep_2 : decode cX5_sweep 2 = .ok (.invokevirtual 247, 3) := by decide +kernel
theorem dX5_sweep_5 : decode cX5_sweep 5 = .ok (.ifCond .ne 10, 3) := by decide +kernel
theorem dX5_sweep_8 : decode cX5_sweep 8 = .ok (.aload_n 0, 1) := by decide +kernel
theorem dX5_sweep_9 : decode cX5_sweep 9 = .ok (.bipush (-2), 2) := by decide +kernel
theorem dX5_sweep_11 : decode cX5_sweep 11 = .ok (.invokevirtual 78, 3) := by decide +kernel
theorem dX5_sweep_14 : decode cX5_sweep 14 = .ok (.ireturn, 1) := by decide +kernel
theorem dX5_sweep_15 : decode cX5_sweep 15 = .ok (.iconst 0, 1) := by decide +kernel
theorem dX5_sweep_16 : decode cX5_sweep 16 = .ok (.istore_n 2, 1) := by decide +kernel
theorem dX5_sweep_17 : decode cX5_sweep 17 = .ok (.iconst 0, 1) := by decide +kernel
theorem dX5_sweep_18 : decode cX5_sweep 18 = .ok (.istore_n 3, 1) := by decide +kernel
theorem dX5_sweep_19 : decode cX5_sweep 19 = .ok (.iload_n 3, 1) := by decide +kernel
theorem dX5_sweep_20 : decode cX5_sweep 20 = .ok (.aload_n 0, 1) := by decide +kernel
theorem dX5_sweep_21 : decode cX5_sweep 21 = .ok (.getfield 57, 3) := by decide +kernel
theorem dX5_sweep_24 : decode cX5_sweep 24 = .ok (.if_icmp .ge 39, 3) := by decide +kernel
theorem dX5_sweep_27 : decode cX5_sweep 27 = .ok (.iload_n 2, 1) := by decide +kernel
theorem dX5_sweep_28 : decode cX5_sweep 28 = .ok (.aload_n 0, 1) := by decide +kernel
theorem dX5_sweep_29 : decode cX5_sweep 29 = .ok (.getfield 7, 3) := by decide +kernel
theorem dX5_sweep_32 : decode cX5_sweep 32 = .ok (.iload_n 3, 1) := by decide +kernel
theorem dX5_sweep_33 : decode cX5_sweep 33 = .ok (.aload_n 0, 1) := by decide +kernel
theorem dX5_sweep_34 : decode cX5_sweep 34 = .ok (.getfield 57, 3) := by decide +kernel
theorem dX5_sweep_37 : decode cX5_sweep 37 = .ok (.imul, 1) := by decide +kernel
theorem dX5_sweep_38 : decode cX5_sweep 38 = .ok (.iload_n 1, 1) := by decide +kernel
theorem dX5_sweep_39 : decode cX5_sweep 39 = .ok (.iadd, 1) := by decide +kernel
theorem dX5_sweep_40 : decode cX5_sweep 40 = .ok (.iaload, 1) := by decide +kernel
theorem dX5_sweep_41 : decode cX5_sweep 41 = .ok (.iadd, 1) := by decide +kernel
theorem dX5_sweep_42 : decode cX5_sweep 42 = .ok (.istore_n 2, 1) := by decide +kernel
theorem dX5_sweep_43 : decode cX5_sweep 43 = .ok (.aload_n 0, 1) := by decide +kernel
theorem dX5_sweep_44 : decode cX5_sweep 44 = .ok (.getfield 7, 3) := by decide +kernel
theorem dX5_sweep_47 : decode cX5_sweep 47 = .ok (.iload_n 3, 1) := by decide +kernel
theorem dX5_sweep_48 : decode cX5_sweep 48 = .ok (.aload_n 0, 1) := by decide +kernel
theorem dX5_sweep_49 : decode cX5_sweep 49 = .ok (.getfield 57, 3) := by decide +kernel
theorem dX5_sweep_52 : decode cX5_sweep 52 = .ok (.imul, 1) := by decide +kernel
theorem dX5_sweep_53 : decode cX5_sweep 53 = .ok (.iload_n 1, 1) := by decide +kernel
theorem dX5_sweep_54 : decode cX5_sweep 54 = .ok (.iadd, 1) := by decide +kernel
theorem dX5_sweep_55 : decode cX5_sweep 55 = .ok (.iconst 0, 1) := by decide +kernel
theorem dX5_sweep_56 : decode cX5_sweep 56 = .ok (.iastore, 1) := by decide +kernel
theorem dX5_sweep_57 : decode cX5_sweep 57 = .ok (.iinc 3 1, 3) := by decide +kernel
theorem dX5_sweep_60 : decode cX5_sweep 60 = .ok (.goto (-41), 3) := by decide +kernel
theorem dX5_sweep_63 : decode cX5_sweep 63 = .ok (.iload_n 2, 1) := by decide +kernel
theorem dX5_sweep_64 : decode cX5_sweep 64 = .ok (.ireturn, 1) := by decide +kernel
theorem dX5_draw_0 : decode cX5_draw 0 = .ok (.aload_n 0, 1) := by decide +kernel
theorem dX5_draw_1 : decode cX5_draw 1 = .ok (.aload_n 0, 1) := by decide +kernel
theorem dX5_draw_2 : decode cX5_draw 2 = .ok (.getfield 64, 3) := by decide +kernel
theorem dX5_draw_5 : decode cX5_draw 5 = .ok (.ldc_w 296, 3) := by decide +kernel
theorem dX5_draw_8 : decode cX5_draw 8 = .ok (.imul, 1) := by decide +kernel
theorem dX5_draw_9 : decode cX5_draw 9 = .ok (.sipush 12345, 3) := by decide +kernel
theorem dX5_draw_12 : decode cX5_draw 12 = .ok (.iadd, 1) := by decide +kernel
theorem dX5_draw_13 : decode cX5_draw 13 = .ok (.putfield 64, 3) := by decide +kernel
theorem dX5_draw_16 : decode cX5_draw 16 = .ok (.aload_n 0, 1) := by decide +kernel
theorem dX5_draw_17 : decode cX5_draw 17 = .ok (.getfield 64, 3) := by decide +kernel
theorem dX5_draw_20 : decode cX5_draw 20 = .ok (.bipush 16, 2) := by decide +kernel
theorem dX5_draw_22 : decode cX5_draw 22 = .ok (.iushr, 1) := by decide +kernel
theorem dX5_draw_23 : decode cX5_draw 23 = .ok (.iload_n 1, 1) := by decide +kernel
theorem dX5_draw_24 : decode cX5_draw 24 = .ok (.irem, 1) := by decide +kernel
theorem dX5_draw_25 : decode cX5_draw 25 = .ok (.ireturn, 1) := by decide +kernel
theorem dX5_arrivals_0 : decode cX5_arrivals 0 = .ok (.iload_n 1, 1) := by decide +kernel
theorem dX5_arrivals_1 : decode cX5_arrivals 1 = .ok (.iconst 1, 1) := by decide +kernel
theorem dX5_arrivals_2 : decode cX5_arrivals 2 = .ok (.bipush 60, 2) := by decide +kernel
theorem dX5_arrivals_4 : decode cX5_arrivals 4 = .ok (.invokestatic 70, 3) := by decide +kernel
theorem dX5_arrivals_7 : decode cX5_arrivals 7 = .ok (.ifCond .ne 10, 3) := by decide +kernel
theorem dX5_arrivals_10 : decode cX5_arrivals 10 = .ok (.aload_n 0, 1) := by decide +kernel
theorem dX5_arrivals_11 : decode cX5_arrivals 11 = .ok (.bipush (-2), 2) := by decide +kernel
theorem dX5_arrivals_13 : decode cX5_arrivals 13 = .ok (.invokevirtual 78, 3) := by decide +kernel
theorem dX5_arrivals_16 : decode cX5_arrivals 16 = .ok (.ireturn, 1) := by decide +kernel
theorem dX5_arrivals_17 : decode cX5_arrivals 17 = .ok (.aload_n 0, 1) := by decide +kernel
theorem dX5_arrivals_18 : decode cX5_arrivals 18 = .ok (.getfield 67, 3) := by decide +kernel
theorem dX5_arrivals_21 : decode cX5_arrivals 21 = .ok (.ifCond .ne 10, 3) := by decide +kernel
theorem dX5_arrivals_24 : decode cX5_arrivals 24 = .ok (.aload_n 0, 1) := by decide +kernel

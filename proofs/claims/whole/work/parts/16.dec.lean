theorem dX5_init_0 : decode cX5_init 0 = .ok (.aload_n 0, 1) := by decide +kernel
theorem dX5_init_1 : decode cX5_init 1 = .ok (.invokespecial 1, 3) := by decide +kernel
theorem dX5_init_4 : decode cX5_init 4 = .ok (.aload_n 0, 1) := by decide +kernel
theorem dX5_init_5 : decode cX5_init 5 = .ok (.bipush 36, 2) := by decide +kernel
theorem dX5_init_7 : decode cX5_init 7 = .ok (.newarray .int, 2) := by decide +kernel
theorem dX5_init_9 : decode cX5_init 9 = .ok (.putfield 7, 3) := by decide +kernel
theorem dX5_init_12 : decode cX5_init 12 = .ok (.aload_n 0, 1) := by decide +kernel
theorem dX5_init_13 : decode cX5_init 13 = .ok (.bipush 8, 2) := by decide +kernel
theorem dX5_init_15 : decode cX5_init 15 = .ok (.newarray .int, 2) := by decide +kernel
theorem dX5_init_17 : decode cX5_init 17 = .ok (.putfield 13, 3) := by decide +kernel
theorem dX5_init_20 : decode cX5_init 20 = .ok (.aload_n 0, 1) := by decide +kernel
theorem dX5_init_21 : decode cX5_init 21 = .ok (.bipush 8, 2) := by decide +kernel
theorem dX5_init_23 : decode cX5_init 23 = .ok (.newarray .int, 2) := by decide +kernel
theorem dX5_init_25 : decode cX5_init 25 = .ok (.putfield 16, 3) := by decide +kernel
theorem dX5_init_28 : decode cX5_init 28 = .ok (.aload_n 0, 1) := by decide +kernel
theorem dX5_init_29 : decode cX5_init 29 = .ok (.bipush 8, 2) := by decide +kernel
theorem dX5_init_31 : decode cX5_init 31 = .ok (.newarray .int, 2) := by decide +kernel
theorem dX5_init_33 : decode cX5_init 33 = .ok (.putfield 19, 3) := by decide +kernel
theorem dX5_init_36 : decode cX5_init 36 = .ok (.aload_n 0, 1) := by decide +kernel
theorem dX5_init_37 : decode cX5_init 37 = .ok (.sipush 250, 3) := by decide +kernel
theorem dX5_init_40 : decode cX5_init 40 = .ok (.newarray .int, 2) := by decide +kernel
theorem dX5_init_42 : decode cX5_init 42 = .ok (.putfield 22, 3) := by decide +kernel
theorem dX5_init_45 : decode cX5_init 45 = .ok (.aload_n 0, 1) := by decide +kernel
theorem dX5_init_46 : decode cX5_init 46 = .ok (.bipush 8, 2) := by decide +kernel
theorem dX5_init_48 : decode cX5_init 48 = .ok (.newarray .int, 2) := by decide +kernel
theorem dX5_init_50 : decode cX5_init 50 = .ok (.putfield 25, 3) := by decide +kernel
theorem dX5_init_53 : decode cX5_init 53 = .ok (.aload_n 0, 1) := by decide +kernel
theorem dX5_init_54 : decode cX5_init 54 = .ok (.bipush 8, 2) := by decide +kernel
theorem dX5_init_56 : decode cX5_init 56 = .ok (.newarray .int, 2) := by decide +kernel
theorem dX5_init_58 : decode cX5_init 58 = .ok (.putfield 28, 3) := by decide +kernel
theorem dX5_init_61 : decode cX5_init 61 = .ok (.aload_n 0, 1) := by decide +kernel
theorem dX5_init_62 : decode cX5_init 62 = .ok (.sipush 320, 3) := by decide +kernel
theorem dX5_init_65 : decode cX5_init 65 = .ok (.newarray .long, 2) := by decide +kernel
theorem dX5_init_67 : decode cX5_init 67 = .ok (.putfield 31, 3) := by decide +kernel
theorem dX5_init_70 : decode cX5_init 70 = .ok (.aload_n 0, 1) := by decide +kernel
theorem dX5_init_71 : decode cX5_init 71 = .ok (.bipush 7, 2) := by decide +kernel
theorem dX5_init_73 : decode cX5_init 73 = .ok (.newarray .int, 2) := by decide +kernel
theorem dX5_init_75 : decode cX5_init 75 = .ok (.putfield 35, 3) := by decide +kernel
theorem dX5_init_78 : decode cX5_init 78 = .ok (.aload_n 0, 1) := by decide +kernel
theorem dX5_init_79 : decode cX5_init 79 = .ok (.bipush 65, 2) := by decide +kernel
theorem dX5_init_81 : decode cX5_init 81 = .ok (.newarray .int, 2) := by decide +kernel
theorem dX5_init_83 : decode cX5_init 83 = .ok (.putfield 38, 3) := by decide +kernel
theorem dX5_init_86 : decode cX5_init 86 = .ok (.aload_n 0, 1) := by decide +kernel
theorem dX5_init_87 : decode cX5_init 87 = .ok (.bipush 65, 2) := by decide +kernel
theorem dX5_init_89 : decode cX5_init 89 = .ok (.newarray .int, 2) := by decide +kernel
theorem dX5_init_91 : decode cX5_init 91 = .ok (.putfield 41, 3) := by decide +kernel
theorem dX5_init_94 : decode cX5_init 94 = .ok (.aload_n 0, 1) := by decide +kernel
theorem dX5_init_95 : decode cX5_init 95 = .ok (.bipush 36, 2) := by decide +kernel
theorem dX5_init_97 : decode cX5_init 97 = .ok (.newarray .int, 2) := by decide +kernel
theorem dX5_init_99 : decode cX5_init 99 = .ok (.putfield 44, 3) := by decide +kernel
theorem dX5_init_102 : decode cX5_init 102 = .ok (.aload_n 0, 1) := by decide +kernel
theorem dX5_init_103 : decode cX5_init 103 = .ok (.bipush 36, 2) := by decide +kernel
theorem dX5_init_105 : decode cX5_init 105 = .ok (.newarray .boolean, 2) := by decide +kernel
theorem dX5_init_107 : decode cX5_init 107 = .ok (.putfield 47, 3) := by decide +kernel
theorem dX5_init_110 : decode cX5_init 110 = .ok (.aload_n 0, 1) := by decide +kernel
theorem dX5_init_111 : decode cX5_init 111 = .ok (.bipush 36, 2) := by decide +kernel
theorem dX5_init_113 : decode cX5_init 113 = .ok (.newarray .int, 2) := by decide +kernel
theorem dX5_init_115 : decode cX5_init 115 = .ok (.putfield 51, 3) := by decide +kernel
theorem dX5_init_118 : decode cX5_init 118 = .ok (.aload_n 0, 1) := by decide +kernel
theorem dX5_init_119 : decode cX5_init 119 = .ok (.bipush 6, 2) := by decide +kernel
theorem dX5_init_121 : decode cX5_init 121 = .ok (.newarray .int, 2) := by decide +kernel
theorem dX5_init_123 : decode cX5_init 123 = .ok (.putfield 54, 3) := by decide +kernel
theorem dX5_init_126 : decode cX5_init 126 = .ok (.aload_n 0, 1) := by decide +kernel
theorem dX5_init_127 : decode cX5_init 127 = .ok (.iconst 4, 1) := by decide +kernel
theorem dX5_init_128 : decode cX5_init 128 = .ok (.putfield 57, 3) := by decide +kernel
theorem dX5_init_131 : decode cX5_init 131 = .ok (.iconst 0, 1) := by decide +kernel
theorem dX5_init_132 : decode cX5_init 132 = .ok (.istore_n 1, 1) := by decide +kernel
theorem dX5_init_133 : decode cX5_init 133 = .ok (.iload_n 1, 1) := by decide +kernel
theorem dX5_init_134 : decode cX5_init 134 = .ok (.bipush 36, 2) := by decide +kernel
theorem dX5_init_136 : decode cX5_init 136 = .ok (.if_icmp .ge 16, 3) := by decide +kernel
theorem dX5_init_139 : decode cX5_init 139 = .ok (.aload_n 0, 1) := by decide +kernel
theorem dX5_init_140 : decode cX5_init 140 = .ok (.getfield 7, 3) := by decide +kernel
theorem dX5_init_143 : decode cX5_init 143 = .ok (.iload_n 1, 1) := by decide +kernel
theorem dX5_init_144 : decode cX5_init 144 = .ok (.iconst 3, 1) := by decide +kernel
theorem dX5_init_145 : decode cX5_init 145 = .ok (.iastore, 1) := by decide +kernel
theorem dX5_init_146 : decode cX5_init 146 = .ok (.iinc 1 1, 3) := by decide +kernel
theorem dX5_init_149 : decode cX5_init 149 = .ok (.goto (-16), 3) := by decide +kernel
theorem dX5_init_152 : decode cX5_init 152 = .ok (.aload_n 0, 1) := by decide +kernel
theorem dX5_init_153 : decode cX5_init 153 = .ok (.iconst 4, 1) := by decide +kernel
theorem dX5_init_154 : decode cX5_init 154 = .ok (.putfield 61, 3) := by decide +kernel
theorem dX5_init_157 : decode cX5_init 157 = .ok (.aload_n 0, 1) := by decide +kernel
theorem dX5_init_158 : decode cX5_init 158 = .ok (.iconst 1, 1) := by decide +kernel
theorem dX5_init_159 : decode cX5_init 159 = .ok (.putfield 64, 3) := by decide +kernel
theorem dX5_init_162 : decode cX5_init 162 = .ok (.iconst 0, 1) := by decide +kernel
theorem dX5_init_163 : decode cX5_init 163 = .ok (.istore_n 1, 1) := by decide +kernel
theorem dX5_init_164 : decode cX5_init 164 = .ok (.iload_n 1, 1) := by decide +kernel
theorem dX5_init_165 : decode cX5_init 165 = .ok (.bipush 8, 2) := by decide +kernel
theorem dX5_init_167 : decode cX5_init 167 = .ok (.if_icmp .ge 16, 3) := by decide +kernel
theorem dX5_init_170 : decode cX5_init 170 = .ok (.aload_n 0, 1) := by decide +kernel
theorem dX5_init_171 : decode cX5_init 171 = .ok (.getfield 25, 3) := by decide +kernel
theorem dX5_init_174 : decode cX5_init 174 = .ok (.iload_n 1, 1) := by decide +kernel
theorem dX5_init_175 : decode cX5_init 175 = .ok (.iconst (-1), 1) := by decide +kernel
theorem dX5_init_176 : decode cX5_init 176 = .ok (.iastore, 1) := by decide +kernel
theorem dX5_init_177 : decode cX5_init 177 = .ok (.iinc 1 1, 3) := by decide +kernel
theorem dX5_init_180 : decode cX5_init 180 = .ok (.goto (-16), 3) := by decide +kernel
theorem dX5_init_183 : decode cX5_init 183 = .ok (.return_, 1) := by decide +kernel
theorem dX5_no_0 : decode cX5_no 0 = .ok (.aload_n 0, 1) := by decide +kernel
theorem dX5_no_1 : decode cX5_no 1 = .ok (.getfield 35, 3) := by decide +kernel
theorem dX5_no_4 : decode cX5_no 4 = .ok (.iload_n 1, 1) := by decide +kernel
theorem dX5_no_5 : decode cX5_no 5 = .ok (.ineg, 1) := by decide +kernel
theorem dX5_no_6 : decode cX5_no 6 = .ok (.dup2, 1) := by decide +kernel
theorem dX5_no_7 : decode cX5_no 7 = .ok (.iaload, 1) := by decide +kernel
theorem dX5_no_8 : decode cX5_no 8 = .ok (.iconst 1, 1) := by decide +kernel
theorem dX5_no_9 : decode cX5_no 9 = .ok (.iadd, 1) := by decide +kernel
theorem dX5_no_10 : decode cX5_no 10 = .ok (.iastore, 1) := by decide +kernel
theorem dX5_no_11 : decode cX5_no 11 = .ok (.iload_n 1, 1) := by decide +kernel
theorem dX5_no_12 : decode cX5_no 12 = .ok (.ireturn, 1) := by decide +kernel
theorem dX5_within_0 : decode cX5_within 0 = .ok (.iload_n 0, 1) := by decide +kernel
theorem dX5_within_1 : decode cX5_within 1 = .ok (.iload_n 1, 1) := by decide +kernel
theorem dX5_within_2 : decode cX5_within 2 = .ok (.if_icmp .lt 12, 3) := by decide +kernel
theorem dX5_within_5 : decode cX5_within 5 = .ok (.iload_n 0, 1) := by decide +kernel
theorem dX5_within_6 : decode cX5_within 6 = .ok (.iload_n 2, 1) := by decide +kernel
theorem dX5_within_7 : decode cX5_within 7 = .ok (.if_icmp .gt 7, 3) := by decide +kernel
theorem dX5_within_10 : decode cX5_within 10 = .ok (.iconst 1, 1) := by decide +kernel
theorem dX5_within_11 : decode cX5_within 11 = .ok (.goto 4, 3) := by decide +kernel
theorem dX5_within_14 : decode cX5_within 14 = .ok (.iconst 0, 1) := by decide +kernel
theorem dX5_within_15 : decode cX5_within 15 = .ok (.ireturn, 1) := by decide +kernel
theorem dX5_isFeet_0 : decode cX5_isFeet 0 = .ok (.iload_n 1, 1) := by decide +kernel
theorem dX5_isFeet_1 : decode cX5_isFeet 1 = .ok (.iconst 0, 1) := by decide +kernel
theorem dX5_isFeet_2 : decode cX5_isFeet 2 = .ok (.aload_n 0, 1) := by decide +kernel
theorem dX5_isFeet_3 : decode cX5_isFeet 3 = .ok (.getfield 67, 3) := by decide +kernel
theorem dX5_isFeet_6 : decode cX5_isFeet 6 = .ok (.iconst 1, 1) := by decide +kernel
theorem dX5_isFeet_7 : decode cX5_isFeet 7 = .ok (.isub, 1) := by decide +kernel
theorem dX5_isFeet_8 : decode cX5_isFeet 8 = .ok (.invokestatic 70, 3) := by decide +kernel
theorem dX5_isFeet_11 : decode cX5_isFeet 11 = .ok (.ireturn, 1) := by decide +kernel
theorem dX5_isCell_0 : decode cX5_isCell 0 = .ok (.iload_n 1, 1) := by decide +kernel
theorem dX5_isCell_1 : decode cX5_isCell 1 = .ok (.iconst 0, 1) := by decide +kernel
theorem dX5_isCell_2 : decode cX5_isCell 2 = .ok (.aload_n 0, 1) := by decide +kernel
theorem dX5_isCell_3 : decode cX5_isCell 3 = .ok (.getfield 57, 3) := by decide +kernel
theorem dX5_isCell_6 : decode cX5_isCell 6 = .ok (.aload_n 0, 1) := by decide +kernel
theorem dX5_isCell_7 : decode cX5_isCell 7 = .ok (.getfield 57, 3) := by decide +kernel
theorem dX5_isCell_10 : decode cX5_isCell 10 = .ok (.imul, 1) := by decide +kernel
theorem dX5_isCell_11 : decode cX5_isCell 11 = .ok (.iconst 1, 1) := by decide +kernel
theorem dX5_isCell_12 : decode cX5_isCell 12 = .ok (.isub, 1) := by decide +kernel
theorem dX5_isCell_13 : decode cX5_isCell 13 = .ok (.invokestatic 70, 3) := by decide +kernel
theorem dX5_isCell_16 : decode cX5_isCell 16 = .ok (.ireturn, 1) := by decide +kernel
theorem dX5_isColumn_0 : decode cX5_isColumn 0 = .ok (.iload_n 1, 1) := by decide +kernel
theorem dX5_isColumn_1 : decode cX5_isColumn 1 = .ok (.iconst 0, 1) := by decide +kernel
theorem dX5_isColumn_2 : decode cX5_isColumn 2 = .ok (.aload_n 0, 1) := by decide +kernel
theorem dX5_isColumn_3 : decode cX5_isColumn 3 = .ok (.getfield 57, 3) := by decide +kernel
theorem dX5_isColumn_6 : decode cX5_isColumn 6 = .ok (.iconst 1, 1) := by decide +kernel
theorem dX5_isColumn_7 : decode cX5_isColumn 7 = .ok (.isub, 1) := by decide +kernel
theorem dX5_isColumn_8 : decode cX5_isColumn 8 = .ok (.invokestatic 70, 3) := by decide +kernel
theorem dX5_isColumn_11 : decode cX5_isColumn 11 = .ok (.ireturn, 1) := by decide +kernel
theorem dX5_isPlace_0 : decode cX5_isPlace 0 = .ok (.iload_n 1, 1) := by decide +kernel
theorem dX5_isPlace_1 : decode cX5_isPlace 1 = .ok (.iconst (-1), 1) := by decide +kernel
theorem dX5_isPlace_2 : decode cX5_isPlace 2 = .ok (.aload_n 0, 1) := by decide +kernel
theorem dX5_isPlace_3 : decode cX5_isPlace 3 = .ok (.getfield 57, 3) := by decide +kernel
theorem dX5_isPlace_6 : decode cX5_isPlace 6 = .ok (.iconst 1, 1) := by decide +kernel
theorem dX5_isPlace_7 : decode cX5_isPlace 7 = .ok (.isub, 1) := by decide +kernel
theorem dX5_isPlace_8 : decode cX5_isPlace 8 = .ok (.invokestatic 70, 3) := by decide +kernel
theorem dX5_isPlace_11 : decode cX5_isPlace 11 = .ok (.ireturn, 1) := by decide +kernel
theorem dX5_isShelf_0 : decode cX5_isShelf 0 = .ok (.iload_n 0, 1) := by decide +kernel
theorem dX5_isShelf_1 : decode cX5_isShelf 1 = .ok (.iconst 0, 1) := by decide +kernel
theorem dX5_isShelf_2 : decode cX5_isShelf 2 = .ok (.bipush 7, 2) := by decide +kernel
theorem dX5_isShelf_4 : decode cX5_isShelf 4 = .ok (.invokestatic 70, 3) := by decide +kernel
theorem dX5_isShelf_7 : decode cX5_isShelf 7 = .ok (.ireturn, 1) := by decide +kernel
theorem dX5_isRow_0 : decode cX5_isRow 0 = .ok (.aload_n 0, 1) := by decide +kernel
theorem dX5_isRow_1 : decode cX5_isRow 1 = .ok (.getfield 25, 3) := by decide +kernel
theorem dX5_isRow_4 : decode cX5_isRow 4 = .ok (.iload_n 1, 1) := by decide +kernel
theorem dX5_isRow_5 : decode cX5_isRow 5 = .ok (.iaload, 1) := by decide +kernel
theorem dX5_isRow_6 : decode cX5_isRow 6 = .ok (.iconst 0, 1) := by decide +kernel
theorem dX5_isRow_7 : decode cX5_isRow 7 = .ok (.iconst 4, 1) := by decide +kernel
theorem dX5_isRow_8 : decode cX5_isRow 8 = .ok (.invokestatic 70, 3) := by decide +kernel
theorem dX5_isRow_11 : decode cX5_isRow 11 = .ok (.ireturn, 1) := by decide +kernel
theorem dX5_row_0 : decode cX5_row 0 = .ok (.iload_n 1, 1) := by decide +kernel
theorem dX5_row_1 : decode cX5_row 1 = .ok (.invokestatic 74, 3) := by decide +kernel
theorem dX5_row_4 : decode cX5_row 4 = .ok (.ifCond .eq 22, 3) := by decide +kernel
theorem dX5_row_7 : decode cX5_row 7 = .ok (.iload_n 2, 1) := by decide +kernel
theorem dX5_row_8 : decode cX5_row 8 = .ok (.iconst 0, 1) := by decide +kernel
theorem dX5_row_9 : decode cX5_row 9 = .ok (.iconst 4, 1) := by decide +kernel
theorem dX5_row_10 : decode cX5_row 10 = .ok (.invokestatic 70, 3) := by decide +kernel
theorem dX5_row_13 : decode cX5_row 13 = .ok (.ifCond .eq 13, 3) := by decide +kernel
theorem dX5_row_16 : decode cX5_row 16 = .ok (.iload_n 3, 1) := by decide +kernel
theorem dX5_row_17 : decode cX5_row 17 = .ok (.iconst 0, 1) := by decide +kernel
theorem dX5_row_18 : decode cX5_row 18 = .ok (.bipush 40, 2) := by decide +kernel
theorem dX5_row_20 : decode cX5_row 20 = .ok (.invokestatic 70, 3) := by decide +kernel
theorem dX5_row_23 : decode cX5_row 23 = .ok (.ifCond .ne 10, 3) := by decide +kernel
theorem dX5_row_26 : decode cX5_row 26 = .ok (.aload_n 0, 1) := by decide +kernel
theorem dX5_row_27 : decode cX5_row 27 = .ok (.bipush (-2), 2) := by decide +kernel
theorem dX5_row_29 : decode cX5_row 29 = .ok (.invokevirtual 78, 3) := by decide +kernel
theorem dX5_row_32 : decode cX5_row 32 = .ok (.ireturn, 1) := by decide +kernel
theorem dX5_row_33 : decode cX5_row 33 = .ok (.aload_n 0, 1) := by decide +kernel
theorem dX5_row_34 : decode cX5_row 34 = .ok (.getfield 25, 3) := by decide +kernel
theorem dX5_row_37 : decode cX5_row 37 = .ok (.iload_n 1, 1) := by decide +kernel
theorem dX5_row_38 : decode cX5_row 38 = .ok (.iload_n 2, 1) := by decide +kernel
theorem dX5_row_39 : decode cX5_row 39 = .ok (.iastore, 1) := by decide +kernel
theorem dX5_row_40 : decode cX5_row 40 = .ok (.aload_n 0, 1) := by decide +kernel
theorem dX5_row_41 : decode cX5_row 41 = .ok (.getfield 28, 3) := by decide +kernel
theorem dX5_row_44 : decode cX5_row 44 = .ok (.iload_n 1, 1) := by decide +kernel
theorem dX5_row_45 : decode cX5_row 45 = .ok (.iload_n 3, 1) := by decide +kernel
theorem dX5_row_46 : decode cX5_row 46 = .ok (.iastore, 1) := by decide +kernel
theorem dX5_row_47 : decode cX5_row 47 = .ok (.iconst 0, 1) := by decide +kernel
theorem dX5_row_48 : decode cX5_row 48 = .ok (.istore 4, 2) := by decide +kernel
theorem dX5_row_50 : decode cX5_row 50 = .ok (.iload 4, 2) := by decide +kernel
theorem dX5_row_52 : decode cX5_row 52 = .ok (.bipush 40, 2) := by decide +kernel
theorem dX5_row_54 : decode cX5_row 54 = .ok (.if_icmp .ge 22, 3) := by decide +kernel
theorem dX5_row_57 : decode cX5_row 57 = .ok (.aload_n 0, 1) := by decide +kernel
theorem dX5_row_58 : decode cX5_row 58 = .ok (.getfield 31, 3) := by decide +kernel
theorem dX5_row_61 : decode cX5_row 61 = .ok (.bipush 40, 2) := by decide +kernel
theorem dX5_row_63 : decode cX5_row 63 = .ok (.iload_n 1, 1) := by decide +kernel
theorem dX5_row_64 : decode cX5_row 64 = .ok (.imul, 1) := by decide +kernel
theorem dX5_row_65 : decode cX5_row 65 = .ok (.iload 4, 2) := by decide +kernel
theorem dX5_row_67 : decode cX5_row 67 = .ok (.iadd, 1) := by decide +kernel
theorem dX5_row_68 : decode cX5_row 68 = .ok (.lconst 0, 1) := by decide +kernel
theorem dX5_row_69 : decode cX5_row 69 = .ok (.lastore, 1) := by decide +kernel
theorem dX5_row_70 : decode cX5_row 70 = .ok (.iinc 4 1, 3) := by decide +kernel
theorem dX5_row_73 : decode cX5_row 73 = .ok (.goto (-23), 3) := by decide +kernel
theorem dX5_row_76 : decode cX5_row 76 = .ok (.iconst 1, 1) := by decide +kernel
theorem dX5_row_77 : decode cX5_row 77 = .ok (.ireturn, 1) := by decide +kernel
theorem dX5_noRow_0 : decode cX5_noRow 0 = .ok (.aload_n 0, 1) := by decide +kernel
theorem dX5_noRow_1 : decode cX5_noRow 1 = .ok (.getfield 25, 3) := by decide +kernel
theorem dX5_noRow_4 : decode cX5_noRow 4 = .ok (.iload_n 1, 1) := by decide +kernel
theorem dX5_noRow_5 : decode cX5_noRow 5 = .ok (.iaload, 1) := by decide +kernel
theorem dX5_noRow_6 : decode cX5_noRow 6 = .ok (.bipush 10, 2) := by decide +kernel
theorem dX5_noRow_8 : decode cX5_noRow 8 = .ok (.if_icmp .lt 8, 3) := by decide +kernel
theorem dX5_noRow_11 : decode cX5_noRow 11 = .ok (.bipush (-3), 2) := by decide +kernel
theorem dX5_noRow_13 : decode cX5_noRow 13 = .ok (.goto 18, 3) := by decide +kernel
theorem dX5_noRow_16 : decode cX5_noRow 16 = .ok (.aload_n 0, 1) := by decide +kernel
theorem dX5_noRow_17 : decode cX5_noRow 17 = .ok (.getfield 25, 3) := by decide +kernel
theorem dX5_noRow_20 : decode cX5_noRow 20 = .ok (.iload_n 1, 1) := by decide +kernel
theorem dX5_noRow_21 : decode cX5_noRow 21 = .ok (.iaload, 1) := by decide +kernel
theorem dX5_noRow_22 : decode cX5_noRow 22 = .ok (.ifCond .ge 8, 3) := by decide +kernel
theorem dX5_noRow_25 : decode cX5_noRow 25 = .ok (.bipush (-4), 2) := by decide +kernel
theorem dX5_noRow_27 : decode cX5_noRow 27 = .ok (.goto 4, 3) := by decide +kernel
theorem dX5_noRow_30 : decode cX5_noRow 30 = .ok (.iconst 0, 1) := by decide +kernel
theorem dX5_noRow_31 : decode cX5_noRow 31 = .ok (.ireturn, 1) := by decide +kernel
theorem dX5_kept_0 : decode cX5_kept 0 = .ok (.iload_n 0, 1) := by decide +kernel
theorem dX5_kept_1 : decode cX5_kept 1 = .ok (.tableswitch 47 0 3 #[31, 36, 41, 45], 31) := by decide +kernel
theorem dX5_kept_32 : decode cX5_kept 32 = .ok (.lload_n 1, 1) := by decide +kernel
theorem dX5_kept_33 : decode cX5_kept 33 = .ok (.l2i, 1) := by decide +kernel
theorem dX5_kept_34 : decode cX5_kept 34 = .ok (.i2b, 1) := by decide +kernel
theorem dX5_kept_35 : decode cX5_kept 35 = .ok (.i2l, 1) := by decide +kernel
theorem dX5_kept_36 : decode cX5_kept 36 = .ok (.lreturn, 1) := by decide +kernel
theorem dX5_kept_37 : decode cX5_kept 37 = .ok (.lload_n 1, 1) := by decide +kernel
theorem dX5_kept_38 : decode cX5_kept 38 = .ok (.l2i, 1) := by decide +kernel
theorem dX5_kept_39 : decode cX5_kept 39 = .ok (.i2s, 1) := by decide +kernel
theorem dX5_kept_40 : decode cX5_kept 40 = .ok (.i2l, 1) := by decide +kernel
theorem dX5_kept_41 : decode cX5_kept 41 = .ok (.lreturn, 1) := by decide +kernel
theorem dX5_kept_42 : decode cX5_kept 42 = .ok (.lload_n 1, 1) := by decide +kernel
theorem dX5_kept_43 : decode cX5_kept 43 = .ok (.l2i, 1) := by decide +kernel
theorem dX5_kept_44 : decode cX5_kept 44 = .ok (.i2l, 1) := by decide +kernel
theorem dX5_kept_45 : decode cX5_kept 45 = .ok (.lreturn, 1) := by decide +kernel
theorem dX5_kept_46 : decode cX5_kept 46 = .ok (.lload_n 1, 1) := by decide +kernel
theorem dX5_kept_47 : decode cX5_kept 47 = .ok (.lreturn, 1) := by decide +kernel
theorem dX5_kept_48 : decode cX5_kept 48 = .ok (.lload_n 1, 1) := by decide +kernel
theorem dX5_kept_49 : decode cX5_kept 49 = .ok (.lconst 0, 1) := by decide +kernel
theorem dX5_kept_50 : decode cX5_kept 50 = .ok (.lcmp, 1) := by decide +kernel
theorem dX5_kept_51 : decode cX5_kept 51 = .ok (.ifCond .eq 7, 3) := by decide +kernel
theorem dX5_kept_54 : decode cX5_kept 54 = .ok (.lconst 1, 1) := by decide +kernel
theorem dX5_kept_55 : decode cX5_kept 55 = .ok (.goto 4, 3) := by decide +kernel
theorem dX5_kept_58 : decode cX5_kept 58 = .ok (.lconst 0, 1) := by decide +kernel
theorem dX5_kept_59 : decode cX5_kept 59 = .ok (.lreturn, 1) := by decide +kernel
theorem dX5_set_0 : decode cX5_set 0 = .ok (.iload_n 1, 1) := by decide +kernel
theorem dX5_set_1 : decode cX5_set 1 = .ok (.invokestatic 74, 3) := by decide +kernel
theorem dX5_set_4 : decode cX5_set 4 = .ok (.ifCond .ne 10, 3) := by decide +kernel
theorem dX5_set_7 : decode cX5_set 7 = .ok (.aload_n 0, 1) := by decide +kernel
theorem dX5_set_8 : decode cX5_set 8 = .ok (.bipush (-2), 2) := by decide +kernel
theorem dX5_set_10 : decode cX5_set 10 = .ok (.invokevirtual 78, 3) := by decide +kernel
theorem dX5_set_13 : decode cX5_set 13 = .ok (.ireturn, 1) := by decide +kernel
theorem dX5_set_14 : decode cX5_set 14 = .ok (.aload_n 0, 1) := by decide +kernel
theorem dX5_set_15 : decode cX5_set 15 = .ok (.iload_n 1, 1) := by decide +kernel
theorem dX5_set_16 : decode cX5_set 16 = .ok (.invokevirtual 82, 3) := by decide +kernel
theorem dX5_set_19 : decode cX5_set 19 = .ok (.ifCond .ne 13, 3) := by decide +kernel
theorem dX5_set_22 : decode cX5_set 22 = .ok (.aload_n 0, 1) := by decide +kernel
theorem dX5_set_23 : decode cX5_set 23 = .ok (.aload_n 0, 1) := by decide +kernel
theorem dX5_set_24 : decode cX5_set 24 = .ok (.iload_n 1, 1) := by decide +kernel
theorem dX5_set_25 : decode cX5_set 25 = .ok (.invokevirtual 85, 3) := by decide +kernel
theorem dX5_set_28 : decode cX5_set 28 = .ok (.invokevirtual 78, 3) := by decide +kernel
theorem dX5_set_31 : decode cX5_set 31 = .ok (.ireturn, 1) := by decide +kernel
theorem dX5_set_32 : decode cX5_set 32 = .ok (.iload_n 2, 1) := by decide +kernel
theorem dX5_set_33 : decode cX5_set 33 = .ok (.iconst 0, 1) := by decide +kernel
theorem dX5_set_34 : decode cX5_set 34 = .ok (.aload_n 0, 1) := by decide +kernel
theorem dX5_set_35 : decode cX5_set 35 = .ok (.getfield 28, 3) := by decide +kernel
theorem dX5_set_38 : decode cX5_set 38 = .ok (.iload_n 1, 1) := by decide +kernel
theorem dX5_set_39 : decode cX5_set 39 = .ok (.iaload, 1) := by decide +kernel
theorem dX5_set_40 : decode cX5_set 40 = .ok (.iconst 1, 1) := by decide +kernel
theorem dX5_set_41 : decode cX5_set 41 = .ok (.isub, 1) := by decide +kernel
theorem dX5_set_42 : decode cX5_set 42 = .ok (.invokestatic 70, 3) := by decide +kernel
theorem dX5_set_45 : decode cX5_set 45 = .ok (.ifCond .ne 10, 3) := by decide +kernel
theorem dX5_set_48 : decode cX5_set 48 = .ok (.aload_n 0, 1) := by decide +kernel
theorem dX5_set_49 : decode cX5_set 49 = .ok (.bipush (-2), 2) := by decide +kernel
theorem dX5_set_51 : decode cX5_set 51 = .ok (.invokevirtual 78, 3) := by decide +kernel
theorem dX5_set_54 : decode cX5_set 54 = .ok (.ireturn, 1) := by decide +kernel
theorem dX5_set_55 : decode cX5_set 55 = .ok (.aload_n 0, 1) := by decide +kernel
theorem dX5_set_56 : decode cX5_set 56 = .ok (.getfield 31, 3) := by decide +kernel
theorem dX5_set_59 : decode cX5_set 59 = .ok (.bipush 40, 2) := by decide +kernel
theorem dX5_set_61 : decode cX5_set 61 = .ok (.iload_n 1, 1) := by decide +kernel
theorem dX5_set_62 : decode cX5_set 62 = .ok (.imul, 1) := by decide +kernel
theorem dX5_set_63 : decode cX5_set 63 = .ok (.iload_n 2, 1) := by decide +kernel
theorem dX5_set_64 : decode cX5_set 64 = .ok (.iadd, 1) := by decide +kernel
theorem dX5_set_65 : decode cX5_set 65 = .ok (.aload_n 0, 1) := by decide +kernel
theorem dX5_set_66 : decode cX5_set 66 = .ok (.getfield 25, 3) := by decide +kernel
theorem dX5_set_69 : decode cX5_set 69 = .ok (.iload_n 1, 1) := by decide +kernel
theorem dX5_set_70 : decode cX5_set 70 = .ok (.iaload, 1) := by decide +kernel
theorem dX5_set_71 : decode cX5_set 71 = .ok (.lload_n 3, 1) := by decide +kernel
theorem dX5_set_72 : decode cX5_set 72 = .ok (.invokestatic 88, 3) := by decide +kernel
theorem dX5_set_75 : decode cX5_set 75 = .ok (.lastore, 1) := by decide +kernel
theorem dX5_set_76 : decode cX5_set 76 = .ok (.iconst 1, 1) := by decide +kernel
theorem dX5_set_77 : decode cX5_set 77 = .ok (.ireturn, 1) := by decide +kernel
theorem dX5_copy_0 : decode cX5_copy 0 = .ok (.iload_n 1, 1) := by decide +kernel
theorem dX5_copy_1 : decode cX5_copy 1 = .ok (.invokestatic 74, 3) := by decide +kernel
theorem dX5_copy_4 : decode cX5_copy 4 = .ok (.ifCond .eq 10, 3) := by decide +kernel
theorem dX5_copy_7 : decode cX5_copy 7 = .ok (.iload_n 2, 1) := by decide +kernel
theorem dX5_copy_8 : decode cX5_copy 8 = .ok (.invokestatic 74, 3) := by decide +kernel
theorem dX5_copy_11 : decode cX5_copy 11 = .ok (.ifCond .ne 10, 3) := by decide +kernel
theorem dX5_copy_14 : decode cX5_copy 14 = .ok (.aload_n 0, 1) := by decide +kernel
theorem dX5_copy_15 : decode cX5_copy 15 = .ok (.bipush (-2), 2) := by decide +kernel
theorem dX5_copy_17 : decode cX5_copy 17 = .ok (.invokevirtual 78, 3) := by decide +kernel
theorem dX5_copy_20 : decode cX5_copy 20 = .ok (.ireturn, 1) := by decide +kernel
theorem dX5_copy_21 : decode cX5_copy 21 = .ok (.aload_n 0, 1) := by decide +kernel
theorem dX5_copy_22 : decode cX5_copy 22 = .ok (.getfield 25, 3) := by decide +kernel
theorem dX5_copy_25 : decode cX5_copy 25 = .ok (.iload_n 1, 1) := by decide +kernel
theorem dX5_copy_26 : decode cX5_copy 26 = .ok (.iaload, 1) := by decide +kernel
theorem dX5_copy_27 : decode cX5_copy 27 = .ok (.bipush 10, 2) := by decide +kernel
theorem dX5_copy_29 : decode cX5_copy 29 = .ok (.if_icmp .ge 45, 3) := by decide +kernel
theorem dX5_copy_32 : decode cX5_copy 32 = .ok (.aload_n 0, 1) := by decide +kernel
theorem dX5_copy_33 : decode cX5_copy 33 = .ok (.getfield 25, 3) := by decide +kernel
theorem dX5_copy_36 : decode cX5_copy 36 = .ok (.iload_n 2, 1) := by decide +kernel
theorem dX5_copy_37 : decode cX5_copy 37 = .ok (.iaload, 1) := by decide +kernel
theorem dX5_copy_38 : decode cX5_copy 38 = .ok (.bipush 10, 2) := by decide +kernel
theorem dX5_copy_40 : decode cX5_copy 40 = .ok (.if_icmp .ge 34, 3) := by decide +kernel
theorem dX5_copy_43 : decode cX5_copy 43 = .ok (.aload_n 0, 1) := by decide +kernel
theorem dX5_copy_44 : decode cX5_copy 44 = .ok (.iload_n 1, 1) := by decide +kernel
theorem dX5_copy_45 : decode cX5_copy 45 = .ok (.invokevirtual 82, 3) := by decide +kernel
theorem dX5_copy_48 : decode cX5_copy 48 = .ok (.ifCond .eq 33, 3) := by decide +kernel
theorem dX5_copy_51 : decode cX5_copy 51 = .ok (.aload_n 0, 1) := by decide +kernel
theorem dX5_copy_52 : decode cX5_copy 52 = .ok (.iload_n 2, 1) := by decide +kernel
theorem dX5_copy_53 : decode cX5_copy 53 = .ok (.invokevirtual 82, 3) := by decide +kernel
theorem dX5_copy_56 : decode cX5_copy 56 = .ok (.ifCond .eq 25, 3) := by decide +kernel
theorem dX5_copy_59 : decode cX5_copy 59 = .ok (.aload_n 0, 1) := by decide +kernel
theorem dX5_copy_60 : decode cX5_copy 60 = .ok (.getfield 25, 3) := by decide +kernel
theorem dX5_copy_63 : decode cX5_copy 63 = .ok (.iload_n 1, 1) := by decide +kernel
theorem dX5_copy_64 : decode cX5_copy 64 = .ok (.iaload, 1) := by decide +kernel
theorem dX5_copy_65 : decode cX5_copy 65 = .ok (.aload_n 0, 1) := by decide +kernel
theorem dX5_copy_66 : decode cX5_copy 66 = .ok (.getfield 25, 3) := by decide +kernel
theorem dX5_copy_69 : decode cX5_copy 69 = .ok (.iload_n 2, 1) := by decide +kernel
theorem dX5_copy_70 : decode cX5_copy 70 = .ok (.iaload, 1) := by decide +kernel
theorem dX5_copy_71 : decode cX5_copy 71 = .ok (.if_icmp .eq 10, 3) := by decide +kernel
theorem dX5_copy_74 : decode cX5_copy 74 = .ok (.aload_n 0, 1) := by decide +kernel
theorem dX5_copy_75 : decode cX5_copy 75 = .ok (.bipush (-3), 2) := by decide +kernel
theorem dX5_copy_77 : decode cX5_copy 77 = .ok (.invokevirtual 78, 3) := by decide +kernel
theorem dX5_copy_80 : decode cX5_copy 80 = .ok (.ireturn, 1) := by decide +kernel
theorem dX5_copy_81 : decode cX5_copy 81 = .ok (.aload_n 0, 1) := by decide +kernel
theorem dX5_copy_82 : decode cX5_copy 82 = .ok (.getfield 25, 3) := by decide +kernel
theorem dX5_copy_85 : decode cX5_copy 85 = .ok (.iload_n 1, 1) := by decide +kernel
theorem dX5_copy_86 : decode cX5_copy 86 = .ok (.iaload, 1) := by decide +kernel
theorem dX5_copy_87 : decode cX5_copy 87 = .ok (.ifCond .lt 12, 3) := by decide +kernel
theorem dX5_copy_90 : decode cX5_copy 90 = .ok (.aload_n 0, 1) := by decide +kernel
theorem dX5_copy_91 : decode cX5_copy 91 = .ok (.getfield 25, 3) := by decide +kernel
theorem dX5_copy_94 : decode cX5_copy 94 = .ok (.iload_n 2, 1) := by decide +kernel
theorem dX5_copy_95 : decode cX5_copy 95 = .ok (.iaload, 1) := by decide +kernel
theorem dX5_copy_96 : decode cX5_copy 96 = .ok (.ifCond .ge 10, 3) := by decide +kernel
theorem dX5_copy_99 : decode cX5_copy 99 = .ok (.aload_n 0, 1) := by decide +kernel
theorem dX5_copy_100 : decode cX5_copy 100 = .ok (.bipush (-4), 2) := by decide +kernel
theorem dX5_copy_102 : decode cX5_copy 102 = .ok (.invokevirtual 78, 3) := by decide +kernel
theorem dX5_copy_105 : decode cX5_copy 105 = .ok (.ireturn, 1) := by decide +kernel
theorem dX5_copy_106 : decode cX5_copy 106 = .ok (.iload 5, 2) := by decide +kernel
theorem dX5_copy_108 : decode cX5_copy 108 = .ok (.ifCond .lt 47, 3) := by decide +kernel
theorem dX5_copy_111 : decode cX5_copy 111 = .ok (.iload_n 3, 1) := by decide +kernel
theorem dX5_copy_112 : decode cX5_copy 112 = .ok (.ifCond .lt 43, 3) := by decide +kernel
theorem dX5_copy_115 : decode cX5_copy 115 = .ok (.iload 4, 2) := by decide +kernel
theorem dX5_copy_117 : decode cX5_copy 117 = .ok (.ifCond .lt 38, 3) := by decide +kernel
theorem dX5_copy_120 : decode cX5_copy 120 = .ok (.iload_n 3, 1) := by decide +kernel
theorem dX5_copy_121 : decode cX5_copy 121 = .ok (.i2l, 1) := by decide +kernel
theorem dX5_copy_122 : decode cX5_copy 122 = .ok (.iload 5, 2) := by decide +kernel
theorem dX5_copy_124 : decode cX5_copy 124 = .ok (.i2l, 1) := by decide +kernel
theorem dX5_copy_125 : decode cX5_copy 125 = .ok (.ladd, 1) := by decide +kernel
theorem dX5_copy_126 : decode cX5_copy 126 = .ok (.aload_n 0, 1) := by decide +kernel
theorem dX5_copy_127 : decode cX5_copy 127 = .ok (.getfield 28, 3) := by decide +kernel
theorem dX5_copy_130 : decode cX5_copy 130 = .ok (.iload_n 1, 1) := by decide +kernel
theorem dX5_copy_131 : decode cX5_copy 131 = .ok (.iaload, 1) := by decide +kernel
theorem dX5_copy_132 : decode cX5_copy 132 = .ok (.i2l, 1) := by decide +kernel
theorem dX5_copy_133 : decode cX5_copy 133 = .ok (.lcmp, 1) := by decide +kernel
theorem dX5_copy_134 : decode cX5_copy 134 = .ok (.ifCond .gt 21, 3) := by decide +kernel
theorem dX5_copy_137 : decode cX5_copy 137 = .ok (.iload 4, 2) := by decide +kernel
theorem dX5_copy_139 : decode cX5_copy 139 = .ok (.i2l, 1) := by decide +kernel
theorem dX5_copy_140 : decode cX5_copy 140 = .ok (.iload 5, 2) := by decide +kernel
theorem dX5_copy_142 : decode cX5_copy 142 = .ok (.i2l, 1) := by decide +kernel
theorem dX5_copy_143 : decode cX5_copy 143 = .ok (.ladd, 1) := by decide +kernel
theorem dX5_copy_144 : decode cX5_copy 144 = .ok (.aload_n 0, 1) := by decide +kernel
theorem dX5_copy_145 : decode cX5_copy 145 = .ok (.getfield 28, 3) := by decide +kernel
theorem dX5_copy_148 : decode cX5_copy 148 = .ok (.iload_n 2, 1) := by decide +kernel
theorem dX5_copy_149 : decode cX5_copy 149 = .ok (.iaload, 1) := by decide +kernel
theorem dX5_copy_150 : decode cX5_copy 150 = .ok (.i2l, 1) := by decide +kernel
theorem dX5_copy_151 : decode cX5_copy 151 = .ok (.lcmp, 1) := by decide +kernel
theorem dX5_copy_152 : decode cX5_copy 152 = .ok (.ifCond .le 10, 3) := by decide +kernel
theorem dX5_copy_155 : decode cX5_copy 155 = .ok (.aload_n 0, 1) := by decide +kernel
theorem dX5_copy_156 : decode cX5_copy 156 = .ok (.bipush (-2), 2) := by decide +kernel
theorem dX5_copy_158 : decode cX5_copy 158 = .ok (.invokevirtual 78, 3) := by decide +kernel
theorem dX5_copy_161 : decode cX5_copy 161 = .ok (.ireturn, 1) := by decide +kernel
theorem dX5_copy_162 : decode cX5_copy 162 = .ok (.iload_n 1, 1) := by decide +kernel
theorem dX5_copy_163 : decode cX5_copy 163 = .ok (.iload_n 2, 1) := by decide +kernel
theorem dX5_copy_164 : decode cX5_copy 164 = .ok (.if_icmp .ne 58, 3) := by decide +kernel
theorem dX5_copy_167 : decode cX5_copy 167 = .ok (.iload_n 3, 1) := by decide +kernel
theorem dX5_copy_168 : decode cX5_copy 168 = .ok (.iload 4, 2) := by decide +kernel
theorem dX5_copy_170 : decode cX5_copy 170 = .ok (.if_icmp .ge 52, 3) := by decide +kernel
theorem dX5_copy_173 : decode cX5_copy 173 = .ok (.iload 5, 2) := by decide +kernel
theorem dX5_copy_175 : decode cX5_copy 175 = .ok (.iconst 1, 1) := by decide +kernel
theorem dX5_copy_176 : decode cX5_copy 176 = .ok (.isub, 1) := by decide +kernel
theorem dX5_copy_177 : decode cX5_copy 177 = .ok (.istore 6, 2) := by decide +kernel
theorem dX5_copy_179 : decode cX5_copy 179 = .ok (.iload 6, 2) := by decide +kernel
theorem dX5_copy_181 : decode cX5_copy 181 = .ok (.ifCond .lt 38, 3) := by decide +kernel
theorem dX5_copy_184 : decode cX5_copy 184 = .ok (.aload_n 0, 1) := by decide +kernel
theorem dX5_copy_185 : decode cX5_copy 185 = .ok (.getfield 31, 3) := by decide +kernel
theorem dX5_copy_188 : decode cX5_copy 188 = .ok (.bipush 40, 2) := by decide +kernel
theorem dX5_copy_190 : decode cX5_copy 190 = .ok (.iload_n 2, 1) := by decide +kernel
theorem dX5_copy_191 : decode cX5_copy 191 = .ok (.imul, 1) := by decide +kernel
theorem dX5_copy_192 : decode cX5_copy 192 = .ok (.iload 4, 2) := by decide +kernel
theorem dX5_copy_194 : decode cX5_copy 194 = .ok (.iadd, 1) := by decide +kernel
theorem dX5_copy_195 : decode cX5_copy 195 = .ok (.iload 6, 2) := by decide +kernel
theorem dX5_copy_197 : decode cX5_copy 197 = .ok (.iadd, 1) := by decide +kernel
theorem dX5_copy_198 : decode cX5_copy 198 = .ok (.aload_n 0, 1) := by decide +kernel
theorem dX5_copy_199 : decode cX5_copy 199 = .ok (.getfield 31, 3) := by decide +kernel
theorem dX5_copy_202 : decode cX5_copy 202 = .ok (.bipush 40, 2) := by decide +kernel
theorem dX5_copy_204 : decode cX5_copy 204 = .ok (.iload_n 1, 1) := by decide +kernel
theorem dX5_copy_205 : decode cX5_copy 205 = .ok (.imul, 1) := by decide +kernel
theorem dX5_copy_206 : decode cX5_copy 206 = .ok (.iload_n 3, 1) := by decide +kernel
theorem dX5_copy_207 : decode cX5_copy 207 = .ok (.iadd, 1) := by decide +kernel
theorem dX5_copy_208 : decode cX5_copy 208 = .ok (.iload 6, 2) := by decide +kernel
theorem dX5_copy_210 : decode cX5_copy 210 = .ok (.iadd, 1) := by decide +kernel
theorem dX5_copy_211 : decode cX5_copy 211 = .ok (.laload, 1) := by decide +kernel
theorem dX5_copy_212 : decode cX5_copy 212 = .ok (.lastore, 1) := by decide +kernel
theorem dX5_copy_213 : decode cX5_copy 213 = .ok (.iinc 6 (-1), 3) := by decide +kernel
theorem dX5_copy_216 : decode cX5_copy 216 = .ok (.goto (-37), 3) := by decide +kernel
theorem dX5_copy_219 : decode cX5_copy 219 = .ok (.goto 48, 3) := by decide +kernel
theorem dX5_copy_222 : decode cX5_copy 222 = .ok (.iconst 0, 1) := by decide +kernel
theorem dX5_copy_223 : decode cX5_copy 223 = .ok (.istore 6, 2) := by decide +kernel
theorem dX5_copy_225 : decode cX5_copy 225 = .ok (.iload 6, 2) := by decide +kernel
theorem dX5_copy_227 : decode cX5_copy 227 = .ok (.iload 5, 2) := by decide +kernel
theorem dX5_copy_229 : decode cX5_copy 229 = .ok (.if_icmp .ge 38, 3) := by decide +kernel
theorem dX5_copy_232 : decode cX5_copy 232 = .ok (.aload_n 0, 1) := by decide +kernel
theorem dX5_copy_233 : decode cX5_copy 233 = .ok (.getfield 31, 3) := by decide +kernel
theorem dX5_copy_236 : decode cX5_copy 236 = .ok (.bipush 40, 2) := by decide +kernel
theorem dX5_copy_238 : decode cX5_copy 238 = .ok (.iload_n 2, 1) := by decide +kernel
theorem dX5_copy_239 : decode cX5_copy 239 = .ok (.imul, 1) := by decide +kernel
theorem dX5_copy_240 : decode cX5_copy 240 = .ok (.iload 4, 2) := by decide +kernel
theorem dX5_copy_242 : decode cX5_copy 242 = .ok (.iadd, 1) := by decide +kernel
theorem dX5_copy_243 : decode cX5_copy 243 = .ok (.iload 6, 2) := by decide +kernel
theorem dX5_copy_245 : decode cX5_copy 245 = .ok (.iadd, 1) := by decide +kernel
theorem dX5_copy_246 : decode cX5_copy 246 = .ok (.aload_n 0, 1) := by decide +kernel
theorem dX5_copy_247 : decode cX5_copy 247 = .ok (.getfield 31, 3) := by decide +kernel
theorem dX5_copy_250 : decode cX5_copy 250 = .ok (.bipush 40, 2) := by decide +kernel
theorem dX5_copy_252 : decode cX5_copy 252 = .ok (.iload_n 1, 1) := by decide +kernel
theorem dX5_copy_253 : decode cX5_copy 253 = .ok (.imul, 1) := by decide +kernel
theorem dX5_copy_254 : decode cX5_copy 254 = .ok (.iload_n 3, 1) := by decide +kernel
theorem dX5_copy_255 : decode cX5_copy 255 = .ok (.iadd, 1) := by decide +kernel
theorem dX5_copy_256 : decode cX5_copy 256 = .ok (.iload 6, 2) := by decide +kernel
theorem dX5_copy_258 : decode cX5_copy 258 = .ok (.iadd, 1) := by decide +kernel
theorem dX5_copy_259 : decode cX5_copy 259 = .ok (.laload, 1) := by decide +kernel
theorem dX5_copy_260 : decode cX5_copy 260 = .ok (.lastore, 1) := by decide +kernel
theorem dX5_copy_261 : decode cX5_copy 261 = .ok (.iinc 6 1, 3) := by decide +kernel
theorem dX5_copy_264 : decode cX5_copy 264 = .ok (.goto (-39), 3) := by decide +kernel
theorem dX5_copy_267 : decode cX5_copy 267 = .ok (.iload 5, 2) := by decide +kernel
theorem dX5_copy_269 : decode cX5_copy 269 = .ok (.ireturn, 1) := by decide +kernel
theorem dX5_element_0 : decode cX5_element 0 = .ok (.iload_n 1, 1) := by decide +kernel
theorem dX5_element_1 : decode cX5_element 1 = .ok (.invokestatic 74, 3) := by decide +kernel
theorem dX5_element_4 : decode cX5_element 4 = .ok (.ifCond .eq 41, 3) := by decide +kernel
theorem dX5_element_7 : decode cX5_element 7 = .ok (.aload_n 0, 1) := by decide +kernel
theorem dX5_element_8 : decode cX5_element 8 = .ok (.iload_n 1, 1) := by decide +kernel
theorem dX5_element_9 : decode cX5_element 9 = .ok (.invokevirtual 82, 3) := by decide +kernel
theorem dX5_element_12 : decode cX5_element 12 = .ok (.ifCond .eq 33, 3) := by decide +kernel
theorem dX5_element_15 : decode cX5_element 15 = .ok (.iload_n 2, 1) := by decide +kernel
theorem dX5_element_16 : decode cX5_element 16 = .ok (.iconst 0, 1) := by decide +kernel
theorem dX5_element_17 : decode cX5_element 17 = .ok (.aload_n 0, 1) := by decide +kernel
theorem dX5_element_18 : decode cX5_element 18 = .ok (.getfield 28, 3) := by decide +kernel
theorem dX5_element_21 : decode cX5_element 21 = .ok (.iload_n 1, 1) := by decide +kernel
theorem dX5_element_22 : decode cX5_element 22 = .ok (.iaload, 1) := by decide +kernel
theorem dX5_element_23 : decode cX5_element 23 = .ok (.iconst 1, 1) := by decide +kernel
theorem dX5_element_24 : decode cX5_element 24 = .ok (.isub, 1) := by decide +kernel
theorem dX5_element_25 : decode cX5_element 25 = .ok (.invokestatic 70, 3) := by decide +kernel
theorem dX5_element_28 : decode cX5_element 28 = .ok (.ifCond .eq 17, 3) := by decide +kernel
theorem dX5_element_31 : decode cX5_element 31 = .ok (.aload_n 0, 1) := by decide +kernel
theorem dX5_element_32 : decode cX5_element 32 = .ok (.getfield 31, 3) := by decide +kernel
theorem dX5_element_35 : decode cX5_element 35 = .ok (.bipush 40, 2) := by decide +kernel
theorem dX5_element_37 : decode cX5_element 37 = .ok (.iload_n 1, 1) := by decide +kernel
theorem dX5_element_38 : decode cX5_element 38 = .ok (.imul, 1) := by decide +kernel
theorem dX5_element_39 : decode cX5_element 39 = .ok (.iload_n 2, 1) := by decide +kernel
theorem dX5_element_40 : decode cX5_element 40 = .ok (.iadd, 1) := by decide +kernel
theorem dX5_element_41 : decode cX5_element 41 = .ok (.laload, 1) := by decide +kernel
theorem dX5_element_42 : decode cX5_element 42 = .ok (.goto 4, 3) := by decide +kernel
theorem dX5_element_45 : decode cX5_element 45 = .ok (.lconst 0, 1) := by decide +kernel
theorem dX5_element_46 : decode cX5_element 46 = .ok (.lreturn, 1) := by decide +kernel
theorem dX5_holds_0 : decode cX5_holds 0 = .ok (.iload_n 1, 1) := by decide +kernel
theorem dX5_holds_1 : decode cX5_holds 1 = .ok (.invokestatic 74, 3) := by decide +kernel
theorem dX5_holds_4 : decode cX5_holds 4 = .ok (.ifCond .eq 12, 3) := by decide +kernel
theorem dX5_holds_7 : decode cX5_holds 7 = .ok (.aload_n 0, 1) := by decide +kernel
theorem dX5_holds_8 : decode cX5_holds 8 = .ok (.getfield 25, 3) := by decide +kernel
theorem dX5_holds_11 : decode cX5_holds 11 = .ok (.iload_n 1, 1) := by decide +kernel
theorem dX5_holds_12 : decode cX5_holds 12 = .ok (.iaload, 1) := by decide +kernel
theorem dX5_holds_13 : decode cX5_holds 13 = .ok (.goto 4, 3) := by decide +kernel
theorem dX5_holds_16 : decode cX5_holds 16 = .ok (.iconst (-1), 1) := by decide +kernel
theorem dX5_holds_17 : decode cX5_holds 17 = .ok (.ireturn, 1) := by decide +kernel
theorem dX5_show_0 : decode cX5_show 0 = .ok (.iload_n 1, 1) := by decide +kernel
theorem dX5_show_1 : decode cX5_show 1 = .ok (.invokestatic 74, 3) := by decide +kernel
theorem dX5_show_4 : decode cX5_show 4 = .ok (.ifCond .eq 16, 3) := by decide +kernel
theorem dX5_show_7 : decode cX5_show 7 = .ok (.iload_n 2, 1) := by decide +kernel
theorem dX5_show_8 : decode cX5_show 8 = .ok (.iconst (-1), 1) := by decide +kernel
theorem dX5_show_9 : decode cX5_show 9 = .ok (.if_icmp .eq 18, 3) := by decide +kernel
theorem dX5_show_12 : decode cX5_show 12 = .ok (.aload_n 0, 1) := by decide +kernel
theorem dX5_show_13 : decode cX5_show 13 = .ok (.iload_n 2, 1) := by decide +kernel
theorem dX5_show_14 : decode cX5_show 14 = .ok (.invokevirtual 92, 3) := by decide +kernel
theorem dX5_show_17 : decode cX5_show 17 = .ok (.ifCond .ne 10, 3) := by decide +kernel
theorem dX5_show_20 : decode cX5_show 20 = .ok (.aload_n 0, 1) := by decide +kernel
theorem dX5_show_21 : decode cX5_show 21 = .ok (.bipush (-2), 2) := by decide +kernel
theorem dX5_show_23 : decode cX5_show 23 = .ok (.invokevirtual 78, 3) := by decide +kernel
theorem dX5_show_26 : decode cX5_show 26 = .ok (.ireturn, 1) := by decide +kernel
theorem dX5_show_27 : decode cX5_show 27 = .ok (.aload_n 0, 1) := by decide +kernel
theorem dX5_show_28 : decode cX5_show 28 = .ok (.getfield 25, 3) := by decide +kernel
theorem dX5_show_31 : decode cX5_show 31 = .ok (.iload_n 1, 1) := by decide +kernel
theorem dX5_show_32 : decode cX5_show 32 = .ok (.iload_n 2, 1) := by decide +kernel
theorem dX5_show_33 : decode cX5_show 33 = .ok (.iconst (-1), 1) := by decide +kernel
theorem dX5_show_34 : decode cX5_show 34 = .ok (.if_icmp .ne 7, 3) := by decide +kernel
theorem dX5_show_37 : decode cX5_show 37 = .ok (.iconst (-1), 1) := by decide +kernel
theorem dX5_show_38 : decode cX5_show 38 = .ok (.goto 7, 3) := by decide +kernel
theorem dX5_show_41 : decode cX5_show 41 = .ok (.bipush 10, 2) := by decide +kernel
theorem dX5_show_43 : decode cX5_show 43 = .ok (.iload_n 2, 1) := by decide +kernel
theorem dX5_show_44 : decode cX5_show 44 = .ok (.iadd, 1) := by decide +kernel
theorem dX5_show_45 : decode cX5_show 45 = .ok (.iastore, 1) := by decide +kernel
theorem dX5_show_46 : decode cX5_show 46 = .ok (.iconst 1, 1) := by decide +kernel
theorem dX5_show_47 : decode cX5_show 47 = .ok (.ireturn, 1) := by decide +kernel
theorem dX5_isUnder_0 : decode cX5_isUnder 0 = .ok (.iload_n 1, 1) := by decide +kernel
theorem dX5_isUnder_1 : decode cX5_isUnder 1 = .ok (.ifCond .eq 28, 3) := by decide +kernel
theorem dX5_isUnder_4 : decode cX5_isUnder 4 = .ok (.iload_n 0, 1) := by decide +kernel
theorem dX5_isUnder_5 : decode cX5_isUnder 5 = .ok (.iload_n 1, 1) := by decide +kernel
theorem dX5_isUnder_6 : decode cX5_isUnder 6 = .ok (.if_icmp .eq 23, 3) := by decide +kernel
theorem dX5_isUnder_9 : decode cX5_isUnder 9 = .ok (.iload_n 0, 1) := by decide +kernel
theorem dX5_isUnder_10 : decode cX5_isUnder 10 = .ok (.iconst 3, 1) := by decide +kernel
theorem dX5_isUnder_11 : decode cX5_isUnder 11 = .ok (.if_icmp .ne 8, 3) := by decide +kernel
theorem dX5_isUnder_14 : decode cX5_isUnder 14 = .ok (.iload_n 1, 1) := by decide +kernel
theorem dX5_isUnder_15 : decode cX5_isUnder 15 = .ok (.iconst 1, 1) := by decide +kernel
theorem dX5_isUnder_16 : decode cX5_isUnder 16 = .ok (.if_icmp .eq 13, 3) := by decide +kernel
theorem dX5_isUnder_19 : decode cX5_isUnder 19 = .ok (.iload_n 0, 1) := by decide +kernel
theorem dX5_isUnder_20 : decode cX5_isUnder 20 = .ok (.iconst 4, 1) := by decide +kernel
theorem dX5_isUnder_21 : decode cX5_isUnder 21 = .ok (.if_icmp .ne 12, 3) := by decide +kernel
theorem dX5_isUnder_24 : decode cX5_isUnder 24 = .ok (.iload_n 1, 1) := by decide +kernel
theorem dX5_isUnder_25 : decode cX5_isUnder 25 = .ok (.iconst 2, 1) := by decide +kernel
theorem dX5_isUnder_26 : decode cX5_isUnder 26 = .ok (.if_icmp .ne 7, 3) := by decide +kernel
theorem dX5_isUnder_29 : decode cX5_isUnder 29 = .ok (.iconst 1, 1) := by decide +kernel
theorem dX5_isUnder_30 : decode cX5_isUnder 30 = .ok (.goto 4, 3) := by decide +kernel
theorem dX5_isUnder_33 : decode cX5_isUnder 33 = .ok (.iconst 0, 1) := by decide +kernel
theorem dX5_isUnder_34 : decode cX5_isUnder 34 = .ok (.ireturn, 1) := by decide +kernel
theorem dX5_says_0 : decode cX5_says 0 = .ok (.iload_n 1, 1) := by decide +kernel
theorem dX5_says_1 : decode cX5_says 1 = .ok (.invokestatic 74, 3) := by decide +kernel
theorem dX5_says_4 : decode cX5_says 4 = .ok (.ifCond .eq 12, 3) := by decide +kernel
theorem dX5_says_7 : decode cX5_says 7 = .ok (.iload_n 2, 1) := by decide +kernel
theorem dX5_says_8 : decode cX5_says 8 = .ok (.iconst 0, 1) := by decide +kernel
theorem dX5_says_9 : decode cX5_says 9 = .ok (.iconst 5, 1) := by decide +kernel
theorem dX5_says_10 : decode cX5_says 10 = .ok (.invokestatic 70, 3) := by decide +kernel
theorem dX5_says_13 : decode cX5_says 13 = .ok (.ifCond .ne 10, 3) := by decide +kernel
theorem dX5_says_16 : decode cX5_says 16 = .ok (.aload_n 0, 1) := by decide +kernel
theorem dX5_says_17 : decode cX5_says 17 = .ok (.bipush (-2), 2) := by decide +kernel
theorem dX5_says_19 : decode cX5_says 19 = .ok (.invokevirtual 78, 3) := by decide +kernel
theorem dX5_says_22 : decode cX5_says 22 = .ok (.ireturn, 1) := by decide +kernel
theorem dX5_says_23 : decode cX5_says 23 = .ok (.aload_n 0, 1) := by decide +kernel
theorem dX5_says_24 : decode cX5_says 24 = .ok (.iload_n 1, 1) := by decide +kernel
theorem dX5_says_25 : decode cX5_says 25 = .ok (.invokevirtual 82, 3) := by decide +kernel
theorem dX5_says_28 : decode cX5_says 28 = .ok (.ifCond .eq 10, 3) := by decide +kernel
theorem dX5_says_31 : decode cX5_says 31 = .ok (.aload_n 0, 1) := by decide +kernel
theorem dX5_says_32 : decode cX5_says 32 = .ok (.bipush (-3), 2) := by decide +kernel
theorem dX5_says_34 : decode cX5_says 34 = .ok (.invokevirtual 78, 3) := by decide +kernel
theorem dX5_says_37 : decode cX5_says 37 = .ok (.ireturn, 1) := by decide +kernel
theorem dX5_says_38 : decode cX5_says 38 = .ok (.aload_n 0, 1) := by decide +kernel
theorem dX5_says_39 : decode cX5_says 39 = .ok (.getfield 25, 3) := by decide +kernel
theorem dX5_says_42 : decode cX5_says 42 = .ok (.iload_n 1, 1) := by decide +kernel
theorem dX5_says_43 : decode cX5_says 43 = .ok (.iaload, 1) := by decide +kernel
theorem dX5_says_44 : decode cX5_says 44 = .ok (.ifCond .ge 10, 3) := by decide +kernel
theorem dX5_says_47 : decode cX5_says 47 = .ok (.aload_n 0, 1) := by decide +kernel
theorem dX5_says_48 : decode cX5_says 48 = .ok (.bipush (-4), 2) := by decide +kernel
theorem dX5_says_50 : decode cX5_says 50 = .ok (.invokevirtual 78, 3) := by decide +kernel
theorem dX5_says_53 : decode cX5_says 53 = .ok (.ireturn, 1) := by decide +kernel
theorem dX5_says_54 : decode cX5_says 54 = .ok (.aload_n 0, 1) := by decide +kernel
theorem dX5_says_55 : decode cX5_says 55 = .ok (.getfield 25, 3) := by decide +kernel
theorem dX5_says_58 : decode cX5_says 58 = .ok (.iload_n 1, 1) := by decide +kernel
theorem dX5_says_59 : decode cX5_says 59 = .ok (.iaload, 1) := by decide +kernel
theorem dX5_says_60 : decode cX5_says 60 = .ok (.bipush 10, 2) := by decide +kernel
theorem dX5_says_62 : decode cX5_says 62 = .ok (.isub, 1) := by decide +kernel
theorem dX5_says_63 : decode cX5_says 63 = .ok (.istore_n 3, 1) := by decide +kernel
theorem dX5_says_64 : decode cX5_says 64 = .ok (.aload_n 0, 1) := by decide +kernel
theorem dX5_says_65 : decode cX5_says 65 = .ok (.getfield 13, 3) := by decide +kernel
theorem dX5_says_68 : decode cX5_says 68 = .ok (.iload_n 3, 1) := by decide +kernel
theorem dX5_says_69 : decode cX5_says 69 = .ok (.iaload, 1) := by decide +kernel
theorem dX5_says_70 : decode cX5_says 70 = .ok (.iload_n 2, 1) := by decide +kernel
theorem dX5_says_71 : decode cX5_says 71 = .ok (.invokestatic 95, 3) := by decide +kernel
theorem dX5_says_74 : decode cX5_says 74 = .ok (.ifCond .ne 10, 3) := by decide +kernel
theorem dX5_says_77 : decode cX5_says 77 = .ok (.aload_n 0, 1) := by decide +kernel
theorem dX5_says_78 : decode cX5_says 78 = .ok (.bipush (-3), 2) := by decide +kernel
theorem dX5_says_80 : decode cX5_says 80 = .ok (.invokevirtual 78, 3) := by decide +kernel
theorem dX5_says_83 : decode cX5_says 83 = .ok (.ireturn, 1) := by decide +kernel
theorem dX5_says_84 : decode cX5_says 84 = .ok (.iload_n 2, 1) := by decide +kernel
theorem dX5_says_85 : decode cX5_says 85 = .ok (.ifCond .ne 12, 3) := by decide +kernel
theorem dX5_says_88 : decode cX5_says 88 = .ok (.aload_n 0, 1) := by decide +kernel
theorem dX5_says_89 : decode cX5_says 89 = .ok (.getfield 19, 3) := by decide +kernel
theorem dX5_says_92 : decode cX5_says 92 = .ok (.iload_n 3, 1) := by decide +kernel
theorem dX5_says_93 : decode cX5_says 93 = .ok (.iaload, 1) := by decide +kernel
theorem dX5_says_94 : decode cX5_says 94 = .ok (.goto 10, 3) := by decide +kernel
theorem dX5_says_97 : decode cX5_says 97 = .ok (.aload_n 0, 1) := by decide +kernel
theorem dX5_says_98 : decode cX5_says 98 = .ok (.iload_n 3, 1) := by decide +kernel
theorem dX5_says_99 : decode cX5_says 99 = .ok (.iconst 0, 1) := by decide +kernel
theorem dX5_says_100 : decode cX5_says 100 = .ok (.iconst 1, 1) := by decide +kernel
theorem dX5_says_101 : decode cX5_says 101 = .ok (.invokevirtual 99, 3) := by decide +kernel
theorem dX5_says_104 : decode cX5_says 104 = .ok (.ireturn, 1) := by decide +kernel
theorem dX5_wet_0 : decode cX5_wet 0 = .ok (.iconst 0, 1) := by decide +kernel
theorem dX5_wet_1 : decode cX5_wet 1 = .ok (.aload_n 0, 1) := by decide +kernel
theorem dX5_wet_2 : decode cX5_wet 2 = .ok (.getfield 7, 3) := by decide +kernel
theorem dX5_wet_5 : decode cX5_wet 5 = .ok (.iload_n 1, 1) := by decide +kernel
theorem dX5_wet_6 : decode cX5_wet 6 = .ok (.iaload, 1) := by decide +kernel
theorem dX5_wet_7 : decode cX5_wet 7 = .ok (.aload_n 0, 1) := by decide +kernel
theorem dX5_wet_8 : decode cX5_wet 8 = .ok (.getfield 103, 3) := by decide +kernel
theorem dX5_wet_11 : decode cX5_wet 11 = .ok (.isub, 1) := by decide +kernel
theorem dX5_wet_12 : decode cX5_wet 12 = .ok (.invokestatic 106, 3) := by decide +kernel
theorem dX5_wet_15 : decode cX5_wet 15 = .ok (.ireturn, 1) := by decide +kernel
theorem dX5_crunches_0 : decode cX5_crunches 0 = .ok (.aload_n 0, 1) := by decide +kernel
theorem dX5_crunches_1 : decode cX5_crunches 1 = .ok (.iload_n 2, 1) := by decide +kernel
theorem dX5_crunches_2 : decode cX5_crunches 2 = .ok (.invokevirtual 112, 3) := by decide +kernel
theorem dX5_crunches_5 : decode cX5_crunches 5 = .ok (.istore 4, 2) := by decide +kernel
theorem dX5_crunches_7 : decode cX5_crunches 7 = .ok (.iload 4, 2) := by decide +kernel
theorem dX5_crunches_9 : decode cX5_crunches 9 = .ok (.ifCond .ne 5, 3) := by decide +kernel
theorem dX5_crunches_12 : decode cX5_crunches 12 = .ok (.iconst 0, 1) := by decide +kernel
theorem dX5_crunches_13 : decode cX5_crunches 13 = .ok (.ireturn, 1) := by decide +kernel
theorem dX5_crunches_14 : decode cX5_crunches 14 = .ok (.iload 4, 2) := by decide +kernel
theorem dX5_crunches_16 : decode cX5_crunches 16 = .ok (.aload_n 0, 1) := by decide +kernel
theorem dX5_crunches_17 : decode cX5_crunches 17 = .ok (.getfield 16, 3) := by decide +kernel
theorem dX5_crunches_20 : decode cX5_crunches 20 = .ok (.iload_n 1, 1) := by decide +kernel
theorem dX5_crunches_21 : decode cX5_crunches 21 = .ok (.iaload, 1) := by decide +kernel
theorem dX5_crunches_22 : decode cX5_crunches 22 = .ok (.iadd, 1) := by decide +kernel
theorem dX5_crunches_23 : decode cX5_crunches 23 = .ok (.istore 5, 2) := by decide +kernel
theorem dX5_crunches_25 : decode cX5_crunches 25 = .ok (.aload_n 0, 1) := by decide +kernel
theorem dX5_crunches_26 : decode cX5_crunches 26 = .ok (.getfield 13, 3) := by decide +kernel
theorem dX5_crunches_29 : decode cX5_crunches 29 = .ok (.iload_n 1, 1) := by decide +kernel
theorem dX5_crunches_30 : decode cX5_crunches 30 = .ok (.iaload, 1) := by decide +kernel
theorem dX5_crunches_31 : decode cX5_crunches 31 = .ok (.tableswitch 91 1 5 #[33, 38, 47, 56, 75], 33) := by decide +kernel
theorem dX5_crunches_64 : decode cX5_crunches 64 = .ok (.iconst 2, 1) := by decide +kernel
theorem dX5_crunches_65 : decode cX5_crunches 65 = .ok (.iload 5, 2) := by decide +kernel
theorem dX5_crunches_67 : decode cX5_crunches 67 = .ok (.imul, 1) := by decide +kernel
theorem dX5_crunches_68 : decode cX5_crunches 68 = .ok (.ireturn, 1) := by decide +kernel
theorem dX5_crunches_69 : decode cX5_crunches 69 = .ok (.iconst 0, 1) := by decide +kernel
theorem dX5_crunches_70 : decode cX5_crunches 70 = .ok (.iload 5, 2) := by decide +kernel
theorem dX5_crunches_72 : decode cX5_crunches 72 = .ok (.iconst 3, 1) := by decide +kernel
theorem dX5_crunches_73 : decode cX5_crunches 73 = .ok (.isub, 1) := by decide +kernel
theorem dX5_crunches_74 : decode cX5_crunches 74 = .ok (.invokestatic 106, 3) := by decide +kernel
theorem dX5_crunches_77 : decode cX5_crunches 77 = .ok (.ireturn, 1) := by decide +kernel
theorem dX5_crunches_78 : decode cX5_crunches 78 = .ok (.iconst 2, 1) := by decide +kernel
theorem dX5_crunches_79 : decode cX5_crunches 79 = .ok (.iload 5, 2) := by decide +kernel
theorem dX5_crunches_81 : decode cX5_crunches 81 = .ok (.imul, 1) := by decide +kernel
theorem dX5_crunches_82 : decode cX5_crunches 82 = .ok (.iload_n 3, 1) := by decide +kernel
theorem dX5_crunches_83 : decode cX5_crunches 83 = .ok (.iconst 2, 1) := by decide +kernel
theorem dX5_crunches_84 : decode cX5_crunches 84 = .ok (.irem, 1) := by decide +kernel
theorem dX5_crunches_85 : decode cX5_crunches 85 = .ok (.iadd, 1) := by decide +kernel
theorem dX5_crunches_86 : decode cX5_crunches 86 = .ok (.ireturn, 1) := by decide +kernel
theorem dX5_crunches_87 : decode cX5_crunches 87 = .ok (.iload 4, 2) := by decide +kernel
theorem dX5_crunches_89 : decode cX5_crunches 89 = .ok (.iconst 5, 1) := by decide +kernel
theorem dX5_crunches_90 : decode cX5_crunches 90 = .ok (.if_icmp .ge 7, 3) := by decide +kernel
theorem dX5_crunches_93 : decode cX5_crunches 93 = .ok (.iconst 0, 1) := by decide +kernel
theorem dX5_crunches_94 : decode cX5_crunches 94 = .ok (.goto 11, 3) := by decide +kernel
theorem dX5_crunches_97 : decode cX5_crunches 97 = .ok (.iconst 0, 1) := by decide +kernel
theorem dX5_crunches_98 : decode cX5_crunches 98 = .ok (.iload 5, 2) := by decide +kernel
theorem dX5_crunches_100 : decode cX5_crunches 100 = .ok (.iconst 3, 1) := by decide +kernel
theorem dX5_crunches_101 : decode cX5_crunches 101 = .ok (.isub, 1) := by decide +kernel
theorem dX5_crunches_102 : decode cX5_crunches 102 = .ok (.invokestatic 106, 3) := by decide +kernel
theorem dX5_crunches_105 : decode cX5_crunches 105 = .ok (.ireturn, 1) := by decide +kernel
theorem dX5_crunches_106 : decode cX5_crunches 106 = .ok (.iload_n 3, 1) := by decide +kernel
theorem dX5_crunches_107 : decode cX5_crunches 107 = .ok (.iconst 2, 1) := by decide +kernel
theorem dX5_crunches_108 : decode cX5_crunches 108 = .ok (.irem, 1) := by decide +kernel
theorem dX5_crunches_109 : decode cX5_crunches 109 = .ok (.ifCond .ne 8, 3) := by decide +kernel
theorem dX5_crunches_112 : decode cX5_crunches 112 = .ok (.iload 5, 2) := by decide +kernel
theorem dX5_crunches_114 : decode cX5_crunches 114 = .ok (.goto 7, 3) := by decide +kernel
theorem dX5_crunches_117 : decode cX5_crunches 117 = .ok (.iload 5, 2) := by decide +kernel
theorem dX5_crunches_119 : decode cX5_crunches 119 = .ok (.iconst 2, 1) := by decide +kernel
theorem dX5_crunches_120 : decode cX5_crunches 120 = .ok (.idiv, 1) := by decide +kernel
theorem dX5_crunches_121 : decode cX5_crunches 121 = .ok (.ireturn, 1) := by decide +kernel
theorem dX5_crunches_122 : decode cX5_crunches 122 = .ok (.iload 5, 2) := by decide +kernel
theorem dX5_crunches_124 : decode cX5_crunches 124 = .ok (.ireturn, 1) := by decide +kernel
theorem dX5_stepOn_0 : decode cX5_stepOn 0 = .ok (.aload_n 0, 1) := by decide +kernel
theorem dX5_stepOn_1 : decode cX5_stepOn 1 = .ok (.iload_n 1, 1) := by decide +kernel
theorem dX5_stepOn_2 : decode cX5_stepOn 2 = .ok (.iload_n 2, 1) := by decide +kernel
theorem dX5_stepOn_3 : decode cX5_stepOn 3 = .ok (.iload_n 2, 1) := by decide +kernel
theorem dX5_stepOn_4 : decode cX5_stepOn 4 = .ok (.aload_n 0, 1) := by decide +kernel
theorem dX5_stepOn_5 : decode cX5_stepOn 5 = .ok (.getfield 57, 3) := by decide +kernel
theorem dX5_stepOn_8 : decode cX5_stepOn 8 = .ok (.idiv, 1) := by decide +kernel
theorem dX5_stepOn_9 : decode cX5_stepOn 9 = .ok (.invokevirtual 99, 3) := by decide +kernel
theorem dX5_stepOn_12 : decode cX5_stepOn 12 = .ok (.ireturn, 1) := by decide +kernel
theorem dX5_sides_0 : decode cX5_sides 0 = .ok (.aload_n 0, 1) := by decide +kernel
theorem dX5_sides_1 : decode cX5_sides 1 = .ok (.getfield 57, 3) := by decide +kernel
theorem dX5_sides_4 : decode cX5_sides 4 = .ok (.istore_n 2, 1) := by decide +kernel
theorem dX5_sides_5 : decode cX5_sides 5 = .ok (.aload_n 0, 1) := by decide +kernel
theorem dX5_sides_6 : decode cX5_sides 6 = .ok (.iload_n 1, 1) := by decide +kernel
theorem dX5_sides_7 : decode cX5_sides 7 = .ok (.putfield 57, 3) := by decide +kernel
theorem dX5_sides_10 : decode cX5_sides 10 = .ok (.iconst 0, 1) := by decide +kernel
theorem dX5_sides_11 : decode cX5_sides 11 = .ok (.istore_n 3, 1) := by decide +kernel
theorem dX5_sides_12 : decode cX5_sides 12 = .ok (.iload_n 3, 1) := by decide +kernel
theorem dX5_sides_13 : decode cX5_sides 13 = .ok (.bipush 36, 2) := by decide +kernel
theorem dX5_sides_15 : decode cX5_sides 15 = .ok (.if_icmp .ge 16, 3) := by decide +kernel
theorem dX5_sides_18 : decode cX5_sides 18 = .ok (.aload_n 0, 1) := by decide +kernel
theorem dX5_sides_19 : decode cX5_sides 19 = .ok (.getfield 7, 3) := by decide +kernel
theorem dX5_sides_22 : decode cX5_sides 22 = .ok (.iload_n 3, 1) := by decide +kernel
theorem dX5_sides_23 : decode cX5_sides 23 = .ok (.iconst 3, 1) := by decide +kernel
theorem dX5_sides_24 : decode cX5_sides 24 = .ok (.iastore, 1) := by decide +kernel
theorem dX5_sides_25 : decode cX5_sides 25 = .ok (.iinc 3 1, 3) := by decide +kernel
theorem dX5_sides_28 : decode cX5_sides 28 = .ok (.goto (-16), 3) := by decide +kernel
theorem dX5_sides_31 : decode cX5_sides 31 = .ok (.iload_n 2, 1) := by decide +kernel
theorem dX5_sides_32 : decode cX5_sides 32 = .ok (.ireturn, 1) := by decide +kernel
theorem dX5_side_0 : decode cX5_side 0 = .ok (.iload_n 1, 1) := by decide +kernel
theorem dX5_side_1 : decode cX5_side 1 = .ok (.iconst 2, 1) := by decide +kernel
theorem dX5_side_2 : decode cX5_side 2 = .ok (.bipush 6, 2) := by decide +kernel
theorem dX5_side_4 : decode cX5_side 4 = .ok (.invokestatic 70, 3) := by decide +kernel
theorem dX5_side_7 : decode cX5_side 7 = .ok (.ifCond .eq 11, 3) := by decide +kernel
theorem dX5_side_10 : decode cX5_side 10 = .ok (.aload_n 0, 1) := by decide +kernel
theorem dX5_side_11 : decode cX5_side 11 = .ok (.iload_n 1, 1) := by decide +kernel
theorem dX5_side_12 : decode cX5_side 12 = .ok (.invokevirtual 115, 3) := by decide +kernel
theorem dX5_side_15 : decode cX5_side 15 = .ok (.goto 9, 3) := by decide +kernel
theorem dX5_side_18 : decode cX5_side 18 = .ok (.aload_n 0, 1) := by decide +kernel
theorem dX5_side_19 : decode cX5_side 19 = .ok (.bipush (-2), 2) := by decide +kernel
theorem dX5_side_21 : decode cX5_side 21 = .ok (.invokevirtual 78, 3) := by decide +kernel
theorem dX5_side_24 : decode cX5_side 24 = .ok (.ireturn, 1) := by decide +kernel
theorem dX5_gravel_0 : decode cX5_gravel 0 = .ok (.aload_n 0, 1) := by decide +kernel
theorem dX5_gravel_1 : decode cX5_gravel 1 = .ok (.iload_n 1, 1) := by decide +kernel
theorem dX5_gravel_2 : decode cX5_gravel 2 = .ok (.invokevirtual 118, 3) := by decide +kernel
theorem dX5_gravel_5 : decode cX5_gravel 5 = .ok (.ifCond .eq 13, 3) := by decide +kernel
theorem dX5_gravel_8 : decode cX5_gravel 8 = .ok (.iload_n 2, 1) := by decide +kernel
theorem dX5_gravel_9 : decode cX5_gravel 9 = .ok (.iconst 0, 1) := by decide +kernel
theorem dX5_gravel_10 : decode cX5_gravel 10 = .ok (.bipush 9, 2) := by decide +kernel
theorem dX5_gravel_12 : decode cX5_gravel 12 = .ok (.invokestatic 70, 3) := by decide +kernel
theorem dX5_gravel_15 : decode cX5_gravel 15 = .ok (.ifCond .ne 10, 3) := by decide +kernel
theorem dX5_gravel_18 : decode cX5_gravel 18 = .ok (.aload_n 0, 1) := by decide +kernel
theorem dX5_gravel_19 : decode cX5_gravel 19 = .ok (.bipush (-2), 2) := by decide +kernel
theorem dX5_gravel_21 : decode cX5_gravel 21 = .ok (.invokevirtual 78, 3) := by decide +kernel
theorem dX5_gravel_24 : decode cX5_gravel 24 = .ok (.ireturn, 1) := by decide +kernel
theorem dX5_gravel_25 : decode cX5_gravel 25 = .ok (.aload_n 0, 1) := by decide +kernel
theorem dX5_gravel_26 : decode cX5_gravel 26 = .ok (.getfield 7, 3) := by decide +kernel
theorem dX5_gravel_29 : decode cX5_gravel 29 = .ok (.iload_n 1, 1) := by decide +kernel
theorem dX5_gravel_30 : decode cX5_gravel 30 = .ok (.iaload, 1) := by decide +kernel
theorem dX5_gravel_31 : decode cX5_gravel 31 = .ok (.istore_n 3, 1) := by decide +kernel
theorem dX5_gravel_32 : decode cX5_gravel 32 = .ok (.aload_n 0, 1) := by decide +kernel
theorem dX5_gravel_33 : decode cX5_gravel 33 = .ok (.getfield 7, 3) := by decide +kernel
theorem dX5_gravel_36 : decode cX5_gravel 36 = .ok (.iload_n 1, 1) := by decide +kernel
theorem dX5_gravel_37 : decode cX5_gravel 37 = .ok (.iload_n 2, 1) := by decide +kernel
theorem dX5_gravel_38 : decode cX5_gravel 38 = .ok (.iastore, 1) := by decide +kernel
theorem dX5_gravel_39 : decode cX5_gravel 39 = .ok (.iload_n 3, 1) := by decide +kernel
theorem dX5_gravel_40 : decode cX5_gravel 40 = .ok (.ireturn, 1) := by decide +kernel
theorem dX5_ask_0 : decode cX5_ask 0 = .ok (.iload_n 1, 1) := by decide +kernel
theorem dX5_ask_1 : decode cX5_ask 1 = .ok (.iconst 0, 1) := by decide +kernel
theorem dX5_ask_2 : decode cX5_ask 2 = .ok (.iconst 1, 1) := by decide +kernel
theorem dX5_ask_3 : decode cX5_ask 3 = .ok (.invokestatic 70, 3) := by decide +kernel
theorem dX5_ask_6 : decode cX5_ask 6 = .ok (.ifCond .eq 22, 3) := by decide +kernel
theorem dX5_ask_9 : decode cX5_ask 9 = .ok (.iload_n 2, 1) := by decide +kernel
theorem dX5_ask_10 : decode cX5_ask 10 = .ok (.iload_n 1, 1) := by decide +kernel
theorem dX5_ask_11 : decode cX5_ask 11 = .ok (.iload_n 1, 1) := by decide +kernel
theorem dX5_ask_12 : decode cX5_ask 12 = .ok (.ifCond .ne 8, 3) := by decide +kernel
theorem dX5_ask_15 : decode cX5_ask 15 = .ok (.bipush 9, 2) := by decide +kernel
theorem dX5_ask_17 : decode cX5_ask 17 = .ok (.goto 5, 3) := by decide +kernel
theorem dX5_ask_20 : decode cX5_ask 20 = .ok (.bipush 99, 2) := by decide +kernel
theorem dX5_ask_22 : decode cX5_ask 22 = .ok (.invokestatic 70, 3) := by decide +kernel
theorem dX5_ask_25 : decode cX5_ask 25 = .ok (.ifCond .ne 10, 3) := by decide +kernel
theorem dX5_ask_28 : decode cX5_ask 28 = .ok (.aload_n 0, 1) := by decide +kernel
theorem dX5_ask_29 : decode cX5_ask 29 = .ok (.bipush (-2), 2) := by decide +kernel
theorem dX5_ask_31 : decode cX5_ask 31 = .ok (.invokevirtual 78, 3) := by decide +kernel
theorem dX5_ask_34 : decode cX5_ask 34 = .ok (.ireturn, 1) := by decide +kernel
theorem dX5_ask_35 : decode cX5_ask 35 = .ok (.iload_n 1, 1) := by decide +kernel
theorem dX5_ask_36 : decode cX5_ask 36 = .ok (.ifCond .ne 10, 3) := by decide +kernel
theorem dX5_ask_39 : decode cX5_ask 39 = .ok (.aload_n 0, 1) := by decide +kernel
theorem dX5_ask_40 : decode cX5_ask 40 = .ok (.getfield 103, 3) := by decide +kernel
theorem dX5_ask_43 : decode cX5_ask 43 = .ok (.goto 7, 3) := by decide +kernel
theorem dX5_ask_46 : decode cX5_ask 46 = .ok (.aload_n 0, 1) := by decide +kernel
theorem dX5_ask_47 : decode cX5_ask 47 = .ok (.getfield 61, 3) := by decide +kernel
theorem dX5_ask_50 : decode cX5_ask 50 = .ok (.istore_n 3, 1) := by decide +kernel
theorem dX5_ask_51 : decode cX5_ask 51 = .ok (.iload_n 1, 1) := by decide +kernel
theorem dX5_ask_52 : decode cX5_ask 52 = .ok (.ifCond .ne 11, 3) := by decide +kernel
theorem dX5_ask_55 : decode cX5_ask 55 = .ok (.aload_n 0, 1) := by decide +kernel
theorem dX5_ask_56 : decode cX5_ask 56 = .ok (.iload_n 2, 1) := by decide +kernel
theorem dX5_ask_57 : decode cX5_ask 57 = .ok (.putfield 103, 3) := by decide +kernel
theorem dX5_ask_60 : decode cX5_ask 60 = .ok (.goto 8, 3) := by decide +kernel
theorem dX5_ask_63 : decode cX5_ask 63 = .ok (.aload_n 0, 1) := by decide +kernel
theorem dX5_ask_64 : decode cX5_ask 64 = .ok (.iload_n 2, 1) := by decide +kernel
theorem dX5_ask_65 : decode cX5_ask 65 = .ok (.putfield 61, 3) := by decide +kernel
theorem dX5_ask_68 : decode cX5_ask 68 = .ok (.iload_n 3, 1) := by decide +kernel
theorem dX5_ask_69 : decode cX5_ask 69 = .ok (.ireturn, 1) := by decide +kernel
theorem dX5_newFeet_0 : decode cX5_newFeet 0 = .ok (.aload_n 0, 1) := by decide +kernel
theorem dX5_newFeet_1 : decode cX5_newFeet 1 = .ok (.getfield 13, 3) := by decide +kernel
theorem dX5_newFeet_4 : decode cX5_newFeet 4 = .ok (.aload_n 0, 1) := by decide +kernel
theorem dX5_newFeet_5 : decode cX5_newFeet 5 = .ok (.getfield 67, 3) := by decide +kernel
theorem dX5_newFeet_8 : decode cX5_newFeet 8 = .ok (.iload_n 1, 1) := by decide +kernel
theorem dX5_newFeet_9 : decode cX5_newFeet 9 = .ok (.iastore, 1) := by decide +kernel
theorem dX5_newFeet_10 : decode cX5_newFeet 10 = .ok (.aload_n 0, 1) := by decide +kernel
theorem dX5_newFeet_11 : decode cX5_newFeet 11 = .ok (.getfield 16, 3) := by decide +kernel
theorem dX5_newFeet_14 : decode cX5_newFeet 14 = .ok (.aload_n 0, 1) := by decide +kernel
theorem dX5_newFeet_15 : decode cX5_newFeet 15 = .ok (.getfield 67, 3) := by decide +kernel
theorem dX5_newFeet_18 : decode cX5_newFeet 18 = .ok (.iload_n 2, 1) := by decide +kernel
theorem dX5_newFeet_19 : decode cX5_newFeet 19 = .ok (.iastore, 1) := by decide +kernel
theorem dX5_newFeet_20 : decode cX5_newFeet 20 = .ok (.aload_n 0, 1) := by decide +kernel
theorem dX5_newFeet_21 : decode cX5_newFeet 21 = .ok (.getfield 19, 3) := by decide +kernel
theorem dX5_newFeet_24 : decode cX5_newFeet 24 = .ok (.aload_n 0, 1) := by decide +kernel
theorem dX5_newFeet_25 : decode cX5_newFeet 25 = .ok (.getfield 67, 3) := by decide +kernel
theorem dX5_newFeet_28 : decode cX5_newFeet 28 = .ok (.iload_n 3, 1) := by decide +kernel
theorem dX5_newFeet_29 : decode cX5_newFeet 29 = .ok (.iastore, 1) := by decide +kernel
theorem dX5_newFeet_30 : decode cX5_newFeet 30 = .ok (.aload_n 0, 1) := by decide +kernel
theorem dX5_newFeet_31 : decode cX5_newFeet 31 = .ok (.dup, 1) := by decide +kernel
theorem dX5_newFeet_32 : decode cX5_newFeet 32 = .ok (.getfield 67, 3) := by decide +kernel
theorem dX5_newFeet_35 : decode cX5_newFeet 35 = .ok (.dup_x1, 1) := by decide +kernel
theorem dX5_newFeet_36 : decode cX5_newFeet 36 = .ok (.iconst 1, 1) := by decide +kernel
theorem dX5_newFeet_37 : decode cX5_newFeet 37 = .ok (.iadd, 1) := by decide +kernel
theorem dX5_newFeet_38 : decode cX5_newFeet 38 = .ok (.putfield 67, 3) := by decide +kernel
theorem dX5_newFeet_41 : decode cX5_newFeet 41 = .ok (.ireturn, 1) := by decide +kernel
theorem dX5_feet_0 : decode cX5_feet 0 = .ok (.iload_n 1, 1) := by decide +kernel
theorem dX5_feet_1 : decode cX5_feet 1 = .ok (.iconst 0, 1) := by decide +kernel
theorem dX5_feet_2 : decode cX5_feet 2 = .ok (.iconst 5, 1) := by decide +kernel
theorem dX5_feet_3 : decode cX5_feet 3 = .ok (.invokestatic 70, 3) := by decide +kernel
theorem dX5_feet_6 : decode cX5_feet 6 = .ok (.ifCond .eq 23, 3) := by decide +kernel
theorem dX5_feet_9 : decode cX5_feet 9 = .ok (.iload_n 2, 1) := by decide +kernel
theorem dX5_feet_10 : decode cX5_feet 10 = .ok (.iconst 0, 1) := by decide +kernel
theorem dX5_feet_11 : decode cX5_feet 11 = .ok (.bipush 9, 2) := by decide +kernel
theorem dX5_feet_13 : decode cX5_feet 13 = .ok (.invokestatic 70, 3) := by decide +kernel
theorem dX5_feet_16 : decode cX5_feet 16 = .ok (.ifCond .eq 13, 3) := by decide +kernel
theorem dX5_feet_19 : decode cX5_feet 19 = .ok (.iload_n 3, 1) := by decide +kernel
theorem dX5_feet_20 : decode cX5_feet 20 = .ok (.iconst 1, 1) := by decide +kernel
theorem dX5_feet_21 : decode cX5_feet 21 = .ok (.bipush 99, 2) := by decide +kernel
theorem dX5_feet_23 : decode cX5_feet 23 = .ok (.invokestatic 70, 3) := by decide +kernel
theorem dX5_feet_26 : decode cX5_feet 26 = .ok (.ifCond .ne 10, 3) := by decide +kernel
theorem dX5_feet_29 : decode cX5_feet 29 = .ok (.aload_n 0, 1) := by decide +kernel
theorem dX5_feet_30 : decode cX5_feet 30 = .ok (.bipush (-2), 2) := by decide +kernel
theorem dX5_feet_32 : decode cX5_feet 32 = .ok (.invokevirtual 78, 3) := by decide +kernel
theorem dX5_feet_35 : decode cX5_feet 35 = .ok (.ireturn, 1) := by decide +kernel
theorem dX5_feet_36 : decode cX5_feet 36 = .ok (.aload_n 0, 1) := by decide +kernel
theorem dX5_feet_37 : decode cX5_feet 37 = .ok (.getfield 67, 3) := by decide +kernel
theorem dX5_feet_40 : decode cX5_feet 40 = .ok (.bipush 8, 2) := by decide +kernel
theorem dX5_feet_42 : decode cX5_feet 42 = .ok (.if_icmp .ne 12, 3) := by decide +kernel
theorem dX5_feet_45 : decode cX5_feet 45 = .ok (.aload_n 0, 1) := by decide +kernel
theorem dX5_feet_46 : decode cX5_feet 46 = .ok (.bipush (-6), 2) := by decide +kernel
theorem dX5_feet_48 : decode cX5_feet 48 = .ok (.invokevirtual 78, 3) := by decide +kernel
theorem dX5_feet_51 : decode cX5_feet 51 = .ok (.goto 10, 3) := by decide +kernel
theorem dX5_feet_54 : decode cX5_feet 54 = .ok (.aload_n 0, 1) := by decide +kernel
theorem dX5_feet_55 : decode cX5_feet 55 = .ok (.iload_n 1, 1) := by decide +kernel
theorem dX5_feet_56 : decode cX5_feet 56 = .ok (.iload_n 2, 1) := by decide +kernel
theorem dX5_feet_57 : decode cX5_feet 57 = .ok (.iload_n 3, 1) := by decide +kernel
theorem dX5_feet_58 : decode cX5_feet 58 = .ok (.invokevirtual 121, 3) := by decide +kernel
theorem dX5_feet_61 : decode cX5_feet 61 = .ok (.ireturn, 1) := by decide +kernel
theorem dX5_rakes_0 : decode cX5_rakes 0 = .ok (.iconst 0, 1) := by decide +kernel
theorem dX5_rakes_1 : decode cX5_rakes 1 = .ok (.istore_n 1, 1) := by decide +kernel
theorem dX5_rakes_2 : decode cX5_rakes 2 = .ok (.iload_n 1, 1) := by decide +kernel
theorem dX5_rakes_3 : decode cX5_rakes 3 = .ok (.aload_n 0, 1) := by decide +kernel
theorem dX5_rakes_4 : decode cX5_rakes 4 = .ok (.getfield 57, 3) := by decide +kernel
theorem dX5_rakes_7 : decode cX5_rakes 7 = .ok (.aload_n 0, 1) := by decide +kernel
theorem dX5_rakes_8 : decode cX5_rakes 8 = .ok (.getfield 57, 3) := by decide +kernel
theorem dX5_rakes_11 : decode cX5_rakes 11 = .ok (.imul, 1) := by decide +kernel
theorem dX5_rakes_12 : decode cX5_rakes 12 = .ok (.if_icmp .ge 39, 3) := by decide +kernel
theorem dX5_rakes_15 : decode cX5_rakes 15 = .ok (.aload_n 0, 1) := by decide +kernel
theorem dX5_rakes_16 : decode cX5_rakes 16 = .ok (.getfield 7, 3) := by decide +kernel
theorem dX5_rakes_19 : decode cX5_rakes 19 = .ok (.iload_n 1, 1) := by decide +kernel
theorem dX5_rakes_20 : decode cX5_rakes 20 = .ok (.iaload, 1) := by decide +kernel
theorem dX5_rakes_21 : decode cX5_rakes 21 = .ok (.ifCond .le 24, 3) := by decide +kernel
theorem dX5_rakes_24 : decode cX5_rakes 24 = .ok (.aload_n 0, 1) := by decide +kernel
theorem dX5_rakes_25 : decode cX5_rakes 25 = .ok (.getfield 7, 3) := by decide +kernel
theorem dX5_rakes_28 : decode cX5_rakes 28 = .ok (.iload_n 1, 1) := by decide +kernel
theorem dX5_rakes_29 : decode cX5_rakes 29 = .ok (.iaload, 1) := by decide +kernel
theorem dX5_rakes_30 : decode cX5_rakes 30 = .ok (.bipush 9, 2) := by decide +kernel
theorem dX5_rakes_32 : decode cX5_rakes 32 = .ok (.if_icmp .ge 13, 3) := by decide +kernel
theorem dX5_rakes_35 : decode cX5_rakes 35 = .ok (.aload_n 0, 1) := by decide +kernel
theorem dX5_rakes_36 : decode cX5_rakes 36 = .ok (.getfield 7, 3) := by decide +kernel
theorem dX5_rakes_39 : decode cX5_rakes 39 = .ok (.iload_n 1, 1) := by decide +kernel
theorem dX5_rakes_40 : decode cX5_rakes 40 = .ok (.dup2, 1) := by decide +kernel
theorem dX5_rakes_41 : decode cX5_rakes 41 = .ok (.iaload, 1) := by decide +kernel
theorem dX5_rakes_42 : decode cX5_rakes 42 = .ok (.iconst 1, 1) := by decide +kernel
theorem dX5_rakes_43 : decode cX5_rakes 43 = .ok (.iadd, 1) := by decide +kernel
theorem dX5_rakes_44 : decode cX5_rakes 44 = .ok (.iastore, 1) := by decide +kernel
theorem dX5_rakes_45 : decode cX5_rakes 45 = .ok (.iinc 1 1, 3) := by decide +kernel
theorem dX5_rakes_48 : decode cX5_rakes 48 = .ok (.goto (-46), 3) := by decide +kernel
theorem dX5_rakes_51 : decode cX5_rakes 51 = .ok (.return_, 1) := by decide +kernel
theorem dX5_feed_0 : decode cX5_feed 0 = .ok (.iload_n 1, 1) := by decide +kernel
theorem dX5_feed_1 : decode cX5_feed 1 = .ok (.iconst 0, 1) := by decide +kernel
theorem dX5_feed_2 : decode cX5_feed 2 = .ok (.sipush 255, 3) := by decide +kernel
theorem dX5_feed_5 : decode cX5_feed 5 = .ok (.invokestatic 70, 3) := by decide +kernel
theorem dX5_feed_8 : decode cX5_feed 8 = .ok (.ifCond .ne 10, 3) := by decide +kernel
theorem dX5_feed_11 : decode cX5_feed 11 = .ok (.aload_n 0, 1) := by decide +kernel
theorem dX5_feed_12 : decode cX5_feed 12 = .ok (.bipush (-2), 2) := by decide +kernel
theorem dX5_feed_14 : decode cX5_feed 14 = .ok (.invokevirtual 78, 3) := by decide +kernel
theorem dX5_feed_17 : decode cX5_feed 17 = .ok (.ireturn, 1) := by decide +kernel
theorem dX5_feed_18 : decode cX5_feed 18 = .ok (.aload_n 0, 1) := by decide +kernel
theorem dX5_feed_19 : decode cX5_feed 19 = .ok (.getfield 124, 3) := by decide +kernel
theorem dX5_feed_22 : decode cX5_feed 22 = .ok (.sipush 250, 3) := by decide +kernel
theorem dX5_feed_25 : decode cX5_feed 25 = .ok (.if_icmp .ne 10, 3) := by decide +kernel
theorem dX5_feed_28 : decode cX5_feed 28 = .ok (.aload_n 0, 1) := by decide +kernel
theorem dX5_feed_29 : decode cX5_feed 29 = .ok (.bipush (-6), 2) := by decide +kernel
theorem dX5_feed_31 : decode cX5_feed 31 = .ok (.invokevirtual 78, 3) := by decide +kernel
theorem dX5_feed_34 : decode cX5_feed 34 = .ok (.ireturn, 1) := by decide +kernel
theorem dX5_feed_35 : decode cX5_feed 35 = .ok (.aload_n 0, 1) := by decide +kernel
theorem dX5_feed_36 : decode cX5_feed 36 = .ok (.getfield 22, 3) := by decide +kernel
theorem dX5_feed_39 : decode cX5_feed 39 = .ok (.aload_n 0, 1) := by decide +kernel
theorem dX5_feed_40 : decode cX5_feed 40 = .ok (.dup, 1) := by decide +kernel
theorem dX5_feed_41 : decode cX5_feed 41 = .ok (.getfield 124, 3) := by decide +kernel
theorem dX5_feed_44 : decode cX5_feed 44 = .ok (.dup_x1, 1) := by decide +kernel
theorem dX5_feed_45 : decode cX5_feed 45 = .ok (.iconst 1, 1) := by decide +kernel
theorem dX5_feed_46 : decode cX5_feed 46 = .ok (.iadd, 1) := by decide +kernel
theorem dX5_feed_47 : decode cX5_feed 47 = .ok (.putfield 124, 3) := by decide +kernel
theorem dX5_feed_50 : decode cX5_feed 50 = .ok (.iload_n 1, 1) := by decide +kernel
theorem dX5_feed_51 : decode cX5_feed 51 = .ok (.iastore, 1) := by decide +kernel
theorem dX5_feed_52 : decode cX5_feed 52 = .ok (.aload_n 0, 1) := by decide +kernel
theorem dX5_feed_53 : decode cX5_feed 53 = .ok (.getfield 124, 3) := by decide +kernel
theorem dX5_feed_56 : decode cX5_feed 56 = .ok (.ireturn, 1) := by decide +kernel
theorem dX5_wipe_0 : decode cX5_wipe 0 = .ok (.aload_n 0, 1) := by decide +kernel
theorem dX5_wipe_1 : decode cX5_wipe 1 = .ok (.getfield 124, 3) := by decide +kernel
theorem dX5_wipe_4 : decode cX5_wipe 4 = .ok (.istore_n 1, 1) := by decide +kernel
theorem dX5_wipe_5 : decode cX5_wipe 5 = .ok (.aload_n 0, 1) := by decide +kernel
theorem dX5_wipe_6 : decode cX5_wipe 6 = .ok (.iconst 0, 1) := by decide +kernel
theorem dX5_wipe_7 : decode cX5_wipe 7 = .ok (.putfield 124, 3) := by decide +kernel
theorem dX5_wipe_10 : decode cX5_wipe 10 = .ok (.iload_n 1, 1) := by decide +kernel
theorem dX5_wipe_11 : decode cX5_wipe 11 = .ok (.ireturn, 1) := by decide +kernel
theorem dX5_isLetter_0 : decode cX5_isLetter 0 = .ok (.iload_n 0, 1) := by decide +kernel
theorem dX5_isLetter_1 : decode cX5_isLetter 1 = .ok (.bipush 97, 2) := by decide +kernel
theorem dX5_isLetter_3 : decode cX5_isLetter 3 = .ok (.if_icmp .lt 13, 3) := by decide +kernel
theorem dX5_isLetter_6 : decode cX5_isLetter 6 = .ok (.iload_n 0, 1) := by decide +kernel
theorem dX5_isLetter_7 : decode cX5_isLetter 7 = .ok (.bipush 122, 2) := by decide +kernel
theorem dX5_isLetter_9 : decode cX5_isLetter 9 = .ok (.if_icmp .gt 7, 3) := by decide +kernel
theorem dX5_isLetter_12 : decode cX5_isLetter 12 = .ok (.iconst 1, 1) := by decide +kernel
theorem dX5_isLetter_13 : decode cX5_isLetter 13 = .ok (.goto 4, 3) := by decide +kernel
theorem dX5_isLetter_16 : decode cX5_isLetter 16 = .ok (.iconst 0, 1) := by decide +kernel
theorem dX5_isLetter_17 : decode cX5_isLetter 17 = .ok (.ireturn, 1) := by decide +kernel
theorem dX5_isDigit_0 : decode cX5_isDigit 0 = .ok (.iload_n 0, 1) := by decide +kernel
theorem dX5_isDigit_1 : decode cX5_isDigit 1 = .ok (.bipush 48, 2) := by decide +kernel
theorem dX5_isDigit_3 : decode cX5_isDigit 3 = .ok (.if_icmp .lt 13, 3) := by decide +kernel
theorem dX5_isDigit_6 : decode cX5_isDigit 6 = .ok (.iload_n 0, 1) := by decide +kernel
theorem dX5_isDigit_7 : decode cX5_isDigit 7 = .ok (.bipush 57, 2) := by decide +kernel
theorem dX5_isDigit_9 : decode cX5_isDigit 9 = .ok (.if_icmp .gt 7, 3) := by decide +kernel
theorem dX5_isDigit_12 : decode cX5_isDigit 12 = .ok (.iconst 1, 1) := by decide +kernel
theorem dX5_isDigit_13 : decode cX5_isDigit 13 = .ok (.goto 4, 3) := by decide +kernel
theorem dX5_isDigit_16 : decode cX5_isDigit 16 = .ok (.iconst 0, 1) := by decide +kernel
theorem dX5_isDigit_17 : decode cX5_isDigit 17 = .ok (.ireturn, 1) := by decide +kernel
theorem dX5_next_0 : decode cX5_next 0 = .ok (.aload_n 0, 1) := by decide +kernel
theorem dX5_next_1 : decode cX5_next 1 = .ok (.aload_n 0, 1) := by decide +kernel
theorem dX5_next_2 : decode cX5_next 2 = .ok (.getfield 127, 3) := by decide +kernel
theorem dX5_next_5 : decode cX5_next 5 = .ok (.putfield 130, 3) := by decide +kernel
theorem dX5_next_8 : decode cX5_next 8 = .ok (.aload_n 0, 1) := by decide +kernel
theorem dX5_next_9 : decode cX5_next 9 = .ok (.getfield 130, 3) := by decide +kernel
theorem dX5_next_12 : decode cX5_next 12 = .ok (.aload_n 0, 1) := by decide +kernel
theorem dX5_next_13 : decode cX5_next 13 = .ok (.getfield 124, 3) := by decide +kernel
theorem dX5_next_16 : decode cX5_next 16 = .ok (.if_icmp .ge 30, 3) := by decide +kernel
theorem dX5_next_19 : decode cX5_next 19 = .ok (.aload_n 0, 1) := by decide +kernel
theorem dX5_next_20 : decode cX5_next 20 = .ok (.getfield 22, 3) := by decide +kernel
theorem dX5_next_23 : decode cX5_next 23 = .ok (.aload_n 0, 1) := by decide +kernel
theorem dX5_next_24 : decode cX5_next 24 = .ok (.getfield 130, 3) := by decide +kernel
theorem dX5_next_27 : decode cX5_next 27 = .ok (.iaload, 1) := by decide +kernel
theorem dX5_next_28 : decode cX5_next 28 = .ok (.bipush 32, 2) := by decide +kernel
theorem dX5_next_30 : decode cX5_next 30 = .ok (.if_icmp .ne 16, 3) := by decide +kernel
theorem dX5_next_33 : decode cX5_next 33 = .ok (.aload_n 0, 1) := by decide +kernel
theorem dX5_next_34 : decode cX5_next 34 = .ok (.dup, 1) := by decide +kernel
theorem dX5_next_35 : decode cX5_next 35 = .ok (.getfield 130, 3) := by decide +kernel
theorem dX5_next_38 : decode cX5_next 38 = .ok (.iconst 1, 1) := by decide +kernel
theorem dX5_next_39 : decode cX5_next 39 = .ok (.iadd, 1) := by decide +kernel
theorem dX5_next_40 : decode cX5_next 40 = .ok (.putfield 130, 3) := by decide +kernel
theorem dX5_next_43 : decode cX5_next 43 = .ok (.goto (-35), 3) := by decide +kernel
theorem dX5_next_46 : decode cX5_next 46 = .ok (.aload_n 0, 1) := by decide +kernel
theorem dX5_next_47 : decode cX5_next 47 = .ok (.aload_n 0, 1) := by decide +kernel
theorem dX5_next_48 : decode cX5_next 48 = .ok (.getfield 130, 3) := by decide +kernel
theorem dX5_next_51 : decode cX5_next 51 = .ok (.putfield 127, 3) := by decide +kernel
theorem dX5_next_54 : decode cX5_next 54 = .ok (.aload_n 0, 1) := by decide +kernel
theorem dX5_next_55 : decode cX5_next 55 = .ok (.getfield 130, 3) := by decide +kernel
theorem dX5_next_58 : decode cX5_next 58 = .ok (.aload_n 0, 1) := by decide +kernel
theorem dX5_next_59 : decode cX5_next 59 = .ok (.getfield 124, 3) := by decide +kernel
theorem dX5_next_62 : decode cX5_next 62 = .ok (.if_icmp .ne 10, 3) := by decide +kernel
theorem dX5_next_65 : decode cX5_next 65 = .ok (.aload_n 0, 1) := by decide +kernel
theorem dX5_next_66 : decode cX5_next 66 = .ok (.bipush 101, 2) := by decide +kernel
theorem dX5_next_68 : decode cX5_next 68 = .ok (.putfield 133, 3) := by decide +kernel
theorem dX5_next_71 : decode cX5_next 71 = .ok (.return_, 1) := by decide +kernel
theorem dX5_next_72 : decode cX5_next 72 = .ok (.aload_n 0, 1) := by decide +kernel
theorem dX5_next_73 : decode cX5_next 73 = .ok (.getfield 22, 3) := by decide +kernel
theorem dX5_next_76 : decode cX5_next 76 = .ok (.aload_n 0, 1) := by decide +kernel
theorem dX5_next_77 : decode cX5_next 77 = .ok (.dup, 1) := by decide +kernel
theorem dX5_next_78 : decode cX5_next 78 = .ok (.getfield 127, 3) := by decide +kernel
theorem dX5_next_81 : decode cX5_next 81 = .ok (.dup_x1, 1) := by decide +kernel
theorem dX5_next_82 : decode cX5_next 82 = .ok (.iconst 1, 1) := by decide +kernel
theorem dX5_next_83 : decode cX5_next 83 = .ok (.iadd, 1) := by decide +kernel
theorem dX5_next_84 : decode cX5_next 84 = .ok (.putfield 127, 3) := by decide +kernel
theorem dX5_next_87 : decode cX5_next 87 = .ok (.iaload, 1) := by decide +kernel
theorem dX5_next_88 : decode cX5_next 88 = .ok (.istore_n 1, 1) := by decide +kernel
theorem dX5_next_89 : decode cX5_next 89 = .ok (.iload_n 1, 1) := by decide +kernel
theorem dX5_next_90 : decode cX5_next 90 = .ok (.invokestatic 136, 3) := by decide +kernel
theorem dX5_next_93 : decode cX5_next 93 = .ok (.ifCond .eq 51, 3) := by decide +kernel
theorem dX5_next_96 : decode cX5_next 96 = .ok (.aload_n 0, 1) := by decide +kernel
theorem dX5_next_97 : decode cX5_next 97 = .ok (.getfield 127, 3) := by decide +kernel
theorem dX5_next_100 : decode cX5_next 100 = .ok (.aload_n 0, 1) := by decide +kernel
theorem dX5_next_101 : decode cX5_next 101 = .ok (.getfield 124, 3) := by decide +kernel
theorem dX5_next_104 : decode cX5_next 104 = .ok (.if_icmp .ge 31, 3) := by decide +kernel
theorem dX5_next_107 : decode cX5_next 107 = .ok (.aload_n 0, 1) := by decide +kernel
theorem dX5_next_108 : decode cX5_next 108 = .ok (.getfield 22, 3) := by decide +kernel
theorem dX5_next_111 : decode cX5_next 111 = .ok (.aload_n 0, 1) := by decide +kernel
theorem dX5_next_112 : decode cX5_next 112 = .ok (.getfield 127, 3) := by decide +kernel
theorem dX5_next_115 : decode cX5_next 115 = .ok (.iaload, 1) := by decide +kernel
theorem dX5_next_116 : decode cX5_next 116 = .ok (.invokestatic 136, 3) := by decide +kernel
theorem dX5_next_119 : decode cX5_next 119 = .ok (.ifCond .eq 16, 3) := by decide +kernel
theorem dX5_next_122 : decode cX5_next 122 = .ok (.aload_n 0, 1) := by decide +kernel
theorem dX5_next_123 : decode cX5_next 123 = .ok (.dup, 1) := by decide +kernel
theorem dX5_next_124 : decode cX5_next 124 = .ok (.getfield 127, 3) := by decide +kernel
theorem dX5_next_127 : decode cX5_next 127 = .ok (.iconst 1, 1) := by decide +kernel
theorem dX5_next_128 : decode cX5_next 128 = .ok (.iadd, 1) := by decide +kernel
theorem dX5_next_129 : decode cX5_next 129 = .ok (.putfield 127, 3) := by decide +kernel
theorem dX5_next_132 : decode cX5_next 132 = .ok (.goto (-36), 3) := by decide +kernel
theorem dX5_next_135 : decode cX5_next 135 = .ok (.aload_n 0, 1) := by decide +kernel
theorem dX5_next_136 : decode cX5_next 136 = .ok (.bipush 119, 2) := by decide +kernel
theorem dX5_next_138 : decode cX5_next 138 = .ok (.putfield 133, 3) := by decide +kernel
theorem dX5_next_141 : decode cX5_next 141 = .ok (.goto 138, 3) := by decide +kernel
theorem dX5_next_144 : decode cX5_next 144 = .ok (.iload_n 1, 1) := by decide +kernel
theorem dX5_next_145 : decode cX5_next 145 = .ok (.invokestatic 139, 3) := by decide +kernel
theorem dX5_next_148 : decode cX5_next 148 = .ok (.ifCond .eq 114, 3) := by decide +kernel
theorem dX5_next_151 : decode cX5_next 151 = .ok (.aload_n 0, 1) := by decide +kernel
theorem dX5_next_152 : decode cX5_next 152 = .ok (.iload_n 1, 1) := by decide +kernel
theorem dX5_next_153 : decode cX5_next 153 = .ok (.bipush 48, 2) := by decide +kernel
theorem dX5_next_155 : decode cX5_next 155 = .ok (.isub, 1) := by decide +kernel
theorem dX5_next_156 : decode cX5_next 156 = .ok (.putfield 142, 3) := by decide +kernel
theorem dX5_next_159 : decode cX5_next 159 = .ok (.aload_n 0, 1) := by decide +kernel
theorem dX5_next_160 : decode cX5_next 160 = .ok (.getfield 127, 3) := by decide +kernel
theorem dX5_next_163 : decode cX5_next 163 = .ok (.aload_n 0, 1) := by decide +kernel
theorem dX5_next_164 : decode cX5_next 164 = .ok (.getfield 124, 3) := by decide +kernel
theorem dX5_next_167 : decode cX5_next 167 = .ok (.if_icmp .ge 68, 3) := by decide +kernel
theorem dX5_next_170 : decode cX5_next 170 = .ok (.aload_n 0, 1) := by decide +kernel
theorem dX5_next_171 : decode cX5_next 171 = .ok (.getfield 22, 3) := by decide +kernel
theorem dX5_next_174 : decode cX5_next 174 = .ok (.aload_n 0, 1) := by decide +kernel
theorem dX5_next_175 : decode cX5_next 175 = .ok (.getfield 127, 3) := by decide +kernel
theorem dX5_next_178 : decode cX5_next 178 = .ok (.iaload, 1) := by decide +kernel
theorem dX5_next_179 : decode cX5_next 179 = .ok (.invokestatic 139, 3) := by decide +kernel
theorem dX5_next_182 : decode cX5_next 182 = .ok (.ifCond .eq 53, 3) := by decide +kernel
theorem dX5_next_185 : decode cX5_next 185 = .ok (.aload_n 0, 1) := by decide +kernel
theorem dX5_next_186 : decode cX5_next 186 = .ok (.getfield 127, 3) := by decide +kernel
theorem dX5_next_189 : decode cX5_next 189 = .ok (.aload_n 0, 1) := by decide +kernel
theorem dX5_next_190 : decode cX5_next 190 = .ok (.getfield 130, 3) := by decide +kernel
theorem dX5_next_193 : decode cX5_next 193 = .ok (.isub, 1) := by decide +kernel
theorem dX5_next_194 : decode cX5_next 194 = .ok (.iconst 2, 1) := by decide +kernel
theorem dX5_next_195 : decode cX5_next 195 = .ok (.if_icmp .ge 27, 3) := by decide +kernel
theorem dX5_next_198 : decode cX5_next 198 = .ok (.aload_n 0, 1) := by decide +kernel
theorem dX5_next_199 : decode cX5_next 199 = .ok (.bipush 10, 2) := by decide +kernel
theorem dX5_next_201 : decode cX5_next 201 = .ok (.aload_n 0, 1) := by decide +kernel
theorem dX5_next_202 : decode cX5_next 202 = .ok (.getfield 142, 3) := by decide +kernel
theorem dX5_next_205 : decode cX5_next 205 = .ok (.imul, 1) := by decide +kernel
theorem dX5_next_206 : decode cX5_next 206 = .ok (.aload_n 0, 1) := by decide +kernel
theorem dX5_next_207 : decode cX5_next 207 = .ok (.getfield 22, 3) := by decide +kernel
theorem dX5_next_210 : decode cX5_next 210 = .ok (.aload_n 0, 1) := by decide +kernel
theorem dX5_next_211 : decode cX5_next 211 = .ok (.getfield 127, 3) := by decide +kernel
theorem dX5_next_214 : decode cX5_next 214 = .ok (.iaload, 1) := by decide +kernel
theorem dX5_next_215 : decode cX5_next 215 = .ok (.iadd, 1) := by decide +kernel
theorem dX5_next_216 : decode cX5_next 216 = .ok (.bipush 48, 2) := by decide +kernel
theorem dX5_next_218 : decode cX5_next 218 = .ok (.isub, 1) := by decide +kernel
theorem dX5_next_219 : decode cX5_next 219 = .ok (.putfield 142, 3) := by decide +kernel
theorem dX5_next_222 : decode cX5_next 222 = .ok (.aload_n 0, 1) := by decide +kernel
theorem dX5_next_223 : decode cX5_next 223 = .ok (.dup, 1) := by decide +kernel
theorem dX5_next_224 : decode cX5_next 224 = .ok (.getfield 127, 3) := by decide +kernel
theorem dX5_next_227 : decode cX5_next 227 = .ok (.iconst 1, 1) := by decide +kernel
theorem dX5_next_228 : decode cX5_next 228 = .ok (.iadd, 1) := by decide +kernel
theorem dX5_next_229 : decode cX5_next 229 = .ok (.putfield 127, 3) := by decide +kernel
theorem dX5_next_232 : decode cX5_next 232 = .ok (.goto (-73), 3) := by decide +kernel
theorem dX5_next_235 : decode cX5_next 235 = .ok (.aload_n 0, 1) := by decide +kernel
theorem dX5_next_236 : decode cX5_next 236 = .ok (.aload_n 0, 1) := by decide +kernel
theorem dX5_next_237 : decode cX5_next 237 = .ok (.getfield 127, 3) := by decide +kernel
theorem dX5_next_240 : decode cX5_next 240 = .ok (.aload_n 0, 1) := by decide +kernel
theorem dX5_next_241 : decode cX5_next 241 = .ok (.getfield 130, 3) := by decide +kernel
theorem dX5_next_244 : decode cX5_next 244 = .ok (.isub, 1) := by decide +kernel
theorem dX5_next_245 : decode cX5_next 245 = .ok (.iconst 2, 1) := by decide +kernel
theorem dX5_next_246 : decode cX5_next 246 = .ok (.if_icmp .le 8, 3) := by decide +kernel
theorem dX5_next_249 : decode cX5_next 249 = .ok (.bipush 120, 2) := by decide +kernel
theorem dX5_next_251 : decode cX5_next 251 = .ok (.goto 5, 3) := by decide +kernel
theorem dX5_next_254 : decode cX5_next 254 = .ok (.bipush 48, 2) := by decide +kernel
theorem dX5_next_256 : decode cX5_next 256 = .ok (.putfield 133, 3) := by decide +kernel
theorem dX5_next_259 : decode cX5_next 259 = .ok (.goto 20, 3) := by decide +kernel
theorem dX5_next_262 : decode cX5_next 262 = .ok (.aload_n 0, 1) := by decide +kernel
theorem dX5_next_263 : decode cX5_next 263 = .ok (.iload_n 1, 1) := by decide +kernel
theorem dX5_next_264 : decode cX5_next 264 = .ok (.bipush 59, 2) := by decide +kernel
theorem dX5_next_266 : decode cX5_next 266 = .ok (.if_icmp .ne 8, 3) := by decide +kernel
theorem dX5_next_269 : decode cX5_next 269 = .ok (.bipush 59, 2) := by decide +kernel
theorem dX5_next_271 : decode cX5_next 271 = .ok (.goto 5, 3) := by decide +kernel
theorem dX5_next_274 : decode cX5_next 274 = .ok (.bipush 120, 2) := by decide +kernel
theorem dX5_next_276 : decode cX5_next 276 = .ok (.putfield 133, 3) := by decide +kernel
theorem dX5_next_279 : decode cX5_next 279 = .ok (.return_, 1) := by decide +kernel
theorem dX5_isWord_0 : decode cX5_isWord 0 = .ok (.aload_n 0, 1) := by decide +kernel
theorem dX5_isWord_1 : decode cX5_isWord 1 = .ok (.getfield 133, 3) := by decide +kernel
theorem dX5_isWord_4 : decode cX5_isWord 4 = .ok (.bipush 119, 2) := by decide +kernel
theorem dX5_isWord_6 : decode cX5_isWord 6 = .ok (.if_icmp .ne 19, 3) := by decide +kernel
theorem dX5_isWord_9 : decode cX5_isWord 9 = .ok (.aload_n 0, 1) := by decide +kernel
theorem dX5_isWord_10 : decode cX5_isWord 10 = .ok (.getfield 127, 3) := by decide +kernel
theorem dX5_isWord_13 : decode cX5_isWord 13 = .ok (.aload_n 0, 1) := by decide +kernel
theorem dX5_isWord_14 : decode cX5_isWord 14 = .ok (.getfield 130, 3) := by decide +kernel
theorem dX5_isWord_17 : decode cX5_isWord 17 = .ok (.isub, 1) := by decide +kernel
theorem dX5_isWord_18 : decode cX5_isWord 18 = .ok (.aload_n 1, 1) := by decide +kernel
theorem dX5_isWord_19 : decode cX5_isWord 19 = .ok (.invokevirtual 145, 3) := by decide +kernel
theorem dX5_isWord_22 : decode cX5_isWord 22 = .ok (.if_icmp .eq 5, 3) := by decide +kernel
theorem dX5_isWord_25 : decode cX5_isWord 25 = .ok (.iconst 0, 1) := by decide +kernel
theorem dX5_isWord_26 : decode cX5_isWord 26 = .ok (.ireturn, 1) := by decide +kernel
theorem dX5_isWord_27 : decode cX5_isWord 27 = .ok (.iconst 0, 1) := by decide +kernel
theorem dX5_isWord_28 : decode cX5_isWord 28 = .ok (.istore_n 2, 1) := by decide +kernel
theorem dX5_isWord_29 : decode cX5_isWord 29 = .ok (.iload_n 2, 1) := by decide +kernel
theorem dX5_isWord_30 : decode cX5_isWord 30 = .ok (.aload_n 1, 1) := by decide +kernel
theorem dX5_isWord_31 : decode cX5_isWord 31 = .ok (.invokevirtual 145, 3) := by decide +kernel
theorem dX5_isWord_34 : decode cX5_isWord 34 = .ok (.if_icmp .ge 30, 3) := by decide +kernel
theorem dX5_isWord_37 : decode cX5_isWord 37 = .ok (.aload_n 0, 1) := by decide +kernel
theorem dX5_isWord_38 : decode cX5_isWord 38 = .ok (.getfield 22, 3) := by decide +kernel
theorem dX5_isWord_41 : decode cX5_isWord 41 = .ok (.aload_n 0, 1) := by decide +kernel
theorem dX5_isWord_42 : decode cX5_isWord 42 = .ok (.getfield 130, 3) := by decide +kernel
theorem dX5_isWord_45 : decode cX5_isWord 45 = .ok (.iload_n 2, 1) := by decide +kernel
theorem dX5_isWord_46 : decode cX5_isWord 46 = .ok (.iadd, 1) := by decide +kernel
theorem dX5_isWord_47 : decode cX5_isWord 47 = .ok (.iaload, 1) := by decide +kernel
theorem dX5_isWord_48 : decode cX5_isWord 48 = .ok (.aload_n 1, 1) := by decide +kernel
theorem dX5_isWord_49 : decode cX5_isWord 49 = .ok (.iload_n 2, 1) := by decide +kernel
theorem dX5_isWord_50 : decode cX5_isWord 50 = .ok (.invokevirtual 151, 3) := by decide +kernel
theorem dX5_isWord_53 : decode cX5_isWord 53 = .ok (.if_icmp .eq 5, 3) := by decide +kernel
theorem dX5_isWord_56 : decode cX5_isWord 56 = .ok (.iconst 0, 1) := by decide +kernel
theorem dX5_isWord_57 : decode cX5_isWord 57 = .ok (.ireturn, 1) := by decide +kernel
theorem dX5_isWord_58 : decode cX5_isWord 58 = .ok (.iinc 2 1, 3) := by decide +kernel
theorem dX5_isWord_61 : decode cX5_isWord 61 = .ok (.goto (-32), 3) := by decide +kernel
theorem dX5_isWord_64 : decode cX5_isWord 64 = .ok (.iconst 1, 1) := by decide +kernel
theorem dX5_isWord_65 : decode cX5_isWord 65 = .ok (.ireturn, 1) := by decide +kernel
theorem dX5_number_0 : decode cX5_number 0 = .ok (.aload_n 0, 1) := by decide +kernel
theorem dX5_number_1 : decode cX5_number 1 = .ok (.invokevirtual 155, 3) := by decide +kernel
theorem dX5_number_4 : decode cX5_number 4 = .ok (.aload_n 0, 1) := by decide +kernel
theorem dX5_number_5 : decode cX5_number 5 = .ok (.getfield 133, 3) := by decide +kernel
theorem dX5_number_8 : decode cX5_number 8 = .ok (.bipush 48, 2) := by decide +kernel
theorem dX5_number_10 : decode cX5_number 10 = .ok (.if_icmp .ne 22, 3) := by decide +kernel
theorem dX5_number_13 : decode cX5_number 13 = .ok (.aload_n 0, 1) := by decide +kernel
theorem dX5_number_14 : decode cX5_number 14 = .ok (.getfield 142, 3) := by decide +kernel
theorem dX5_number_17 : decode cX5_number 17 = .ok (.iload_n 1, 1) := by decide +kernel
theorem dX5_number_18 : decode cX5_number 18 = .ok (.iload_n 2, 1) := by decide +kernel
theorem dX5_number_19 : decode cX5_number 19 = .ok (.invokestatic 70, 3) := by decide +kernel
theorem dX5_number_22 : decode cX5_number 22 = .ok (.ifCond .eq 10, 3) := by decide +kernel
theorem dX5_number_25 : decode cX5_number 25 = .ok (.aload_n 0, 1) := by decide +kernel
theorem dX5_number_26 : decode cX5_number 26 = .ok (.getfield 142, 3) := by decide +kernel
theorem dX5_number_29 : decode cX5_number 29 = .ok (.goto 4, 3) := by decide +kernel
theorem dX5_number_32 : decode cX5_number 32 = .ok (.iconst (-1), 1) := by decide +kernel
theorem dX5_number_33 : decode cX5_number 33 = .ok (.ireturn, 1) := by decide +kernel
theorem dX5_statement_0 : decode cX5_statement 0 = .ok (.aload_n 0, 1) := by decide +kernel
theorem dX5_statement_1 : decode cX5_statement 1 = .ok (.ldc 158, 2) := by decide +kernel
theorem dX5_statement_3 : decode cX5_statement 3 = .ok (.invokevirtual 160, 3) := by decide +kernel
theorem dX5_statement_6 : decode cX5_statement 6 = .ok (.ifCond .eq 26, 3) := by decide +kernel
theorem dX5_statement_9 : decode cX5_statement 9 = .ok (.aload_n 0, 1) := by decide +kernel
theorem dX5_statement_10 : decode cX5_statement 10 = .ok (.iconst 2, 1) := by decide +kernel
theorem dX5_statement_11 : decode cX5_statement 11 = .ok (.bipush 6, 2) := by decide +kernel
theorem dX5_statement_13 : decode cX5_statement 13 = .ok (.invokevirtual 164, 3) := by decide +kernel
theorem dX5_statement_16 : decode cX5_statement 16 = .ok (.istore_n 1, 1) := by decide +kernel
theorem dX5_statement_17 : decode cX5_statement 17 = .ok (.iload_n 1, 1) := by decide +kernel
theorem dX5_statement_18 : decode cX5_statement 18 = .ok (.iconst (-1), 1) := by decide +kernel
theorem dX5_statement_19 : decode cX5_statement 19 = .ok (.if_icmp .ne 5, 3) := by decide +kernel
theorem dX5_statement_22 : decode cX5_statement 22 = .ok (.iconst 0, 1) := by decide +kernel
theorem dX5_statement_23 : decode cX5_statement 23 = .ok (.ireturn, 1) := by decide +kernel
theorem dX5_statement_24 : decode cX5_statement 24 = .ok (.aload_n 0, 1) := by decide +kernel
theorem dX5_statement_25 : decode cX5_statement 25 = .ok (.iload_n 1, 1) := by decide +kernel
theorem dX5_statement_26 : decode cX5_statement 26 = .ok (.invokevirtual 115, 3) := by decide +kernel
theorem dX5_statement_29 : decode cX5_statement 29 = .ok (.pop, 1) := by decide +kernel
theorem dX5_statement_30 : decode cX5_statement 30 = .ok (.iconst 1, 1) := by decide +kernel
theorem dX5_statement_31 : decode cX5_statement 31 = .ok (.ireturn, 1) := by decide +kernel
theorem dX5_statement_32 : decode cX5_statement 32 = .ok (.aload_n 0, 1) := by decide +kernel
theorem dX5_statement_33 : decode cX5_statement 33 = .ok (.ldc 167, 2) := by decide +kernel
theorem dX5_statement_35 : decode cX5_statement 35 = .ok (.invokevirtual 160, 3) := by decide +kernel
theorem dX5_statement_38 : decode cX5_statement 38 = .ok (.ifCond .eq 53, 3) := by decide +kernel
theorem dX5_statement_41 : decode cX5_statement 41 = .ok (.aload_n 0, 1) := by decide +kernel
theorem dX5_statement_42 : decode cX5_statement 42 = .ok (.iconst 0, 1) := by decide +kernel
theorem dX5_statement_43 : decode cX5_statement 43 = .ok (.aload_n 0, 1) := by decide +kernel
theorem dX5_statement_44 : decode cX5_statement 44 = .ok (.getfield 57, 3) := by decide +kernel
theorem dX5_statement_47 : decode cX5_statement 47 = .ok (.aload_n 0, 1) := by decide +kernel
theorem dX5_statement_48 : decode cX5_statement 48 = .ok (.getfield 57, 3) := by decide +kernel
theorem dX5_statement_51 : decode cX5_statement 51 = .ok (.imul, 1) := by decide +kernel
theorem dX5_statement_52 : decode cX5_statement 52 = .ok (.iconst 1, 1) := by decide +kernel
theorem dX5_statement_53 : decode cX5_statement 53 = .ok (.isub, 1) := by decide +kernel
theorem dX5_statement_54 : decode cX5_statement 54 = .ok (.invokevirtual 164, 3) := by decide +kernel
theorem dX5_statement_57 : decode cX5_statement 57 = .ok (.istore_n 1, 1) := by decide +kernel
theorem dX5_statement_58 : decode cX5_statement 58 = .ok (.iload_n 1, 1) := by decide +kernel
theorem dX5_statement_59 : decode cX5_statement 59 = .ok (.iconst (-1), 1) := by decide +kernel
theorem dX5_statement_60 : decode cX5_statement 60 = .ok (.if_icmp .ne 7, 3) := by decide +kernel
theorem dX5_statement_63 : decode cX5_statement 63 = .ok (.iconst (-1), 1) := by decide +kernel
theorem dX5_statement_64 : decode cX5_statement 64 = .ok (.goto 10, 3) := by decide +kernel
theorem dX5_statement_67 : decode cX5_statement 67 = .ok (.aload_n 0, 1) := by decide +kernel
theorem dX5_statement_68 : decode cX5_statement 68 = .ok (.iconst 0, 1) := by decide +kernel
theorem dX5_statement_69 : decode cX5_statement 69 = .ok (.bipush 9, 2) := by decide +kernel
theorem dX5_statement_71 : decode cX5_statement 71 = .ok (.invokevirtual 164, 3) := by decide +kernel
theorem dX5_statement_74 : decode cX5_statement 74 = .ok (.istore_n 2, 1) := by decide +kernel
theorem dX5_statement_75 : decode cX5_statement 75 = .ok (.iload_n 2, 1) := by decide +kernel
theorem dX5_statement_76 : decode cX5_statement 76 = .ok (.iconst (-1), 1) := by decide +kernel
theorem dX5_statement_77 : decode cX5_statement 77 = .ok (.if_icmp .ne 5, 3) := by decide +kernel
theorem dX5_statement_80 : decode cX5_statement 80 = .ok (.iconst 0, 1) := by decide +kernel
theorem dX5_statement_81 : decode cX5_statement 81 = .ok (.ireturn, 1) := by decide +kernel
theorem dX5_statement_82 : decode cX5_statement 82 = .ok (.aload_n 0, 1) := by decide +kernel
theorem dX5_statement_83 : decode cX5_statement 83 = .ok (.getfield 7, 3) := by decide +kernel
theorem dX5_statement_86 : decode cX5_statement 86 = .ok (.iload_n 1, 1) := by decide +kernel
theorem dX5_statement_87 : decode cX5_statement 87 = .ok (.iload_n 2, 1) := by decide +kernel
theorem dX5_statement_88 : decode cX5_statement 88 = .ok (.iastore, 1) := by decide +kernel
theorem dX5_statement_89 : decode cX5_statement 89 = .ok (.iconst 1, 1) := by decide +kernel
theorem dX5_statement_90 : decode cX5_statement 90 = .ok (.ireturn, 1) := by decide +kernel
theorem dX5_statement_91 : decode cX5_statement 91 = .ok (.aload_n 0, 1) := by decide +kernel
theorem dX5_statement_92 : decode cX5_statement 92 = .ok (.ldc 168, 2) := by decide +kernel
theorem dX5_statement_94 : decode cX5_statement 94 = .ok (.invokevirtual 160, 3) := by decide +kernel
theorem dX5_statement_97 : decode cX5_statement 97 = .ok (.ifCond .eq 36, 3) := by decide +kernel
theorem dX5_statement_100 : decode cX5_statement 100 = .ok (.aload_n 0, 1) := by decide +kernel
theorem dX5_statement_101 : decode cX5_statement 101 = .ok (.iconst 0, 1) := by decide +kernel
theorem dX5_statement_102 : decode cX5_statement 102 = .ok (.aload_n 0, 1) := by decide +kernel
theorem dX5_statement_103 : decode cX5_statement 103 = .ok (.getfield 57, 3) := by decide +kernel
theorem dX5_statement_106 : decode cX5_statement 106 = .ok (.aload_n 0, 1) := by decide +kernel
theorem dX5_statement_107 : decode cX5_statement 107 = .ok (.getfield 57, 3) := by decide +kernel
theorem dX5_statement_110 : decode cX5_statement 110 = .ok (.imul, 1) := by decide +kernel
theorem dX5_statement_111 : decode cX5_statement 111 = .ok (.iconst 1, 1) := by decide +kernel
theorem dX5_statement_112 : decode cX5_statement 112 = .ok (.isub, 1) := by decide +kernel
theorem dX5_statement_113 : decode cX5_statement 113 = .ok (.invokevirtual 164, 3) := by decide +kernel
theorem dX5_statement_116 : decode cX5_statement 116 = .ok (.istore_n 1, 1) := by decide +kernel
theorem dX5_statement_117 : decode cX5_statement 117 = .ok (.iload_n 1, 1) := by decide +kernel
theorem dX5_statement_118 : decode cX5_statement 118 = .ok (.iconst (-1), 1) := by decide +kernel
theorem dX5_statement_119 : decode cX5_statement 119 = .ok (.if_icmp .ne 5, 3) := by decide +kernel
theorem dX5_statement_122 : decode cX5_statement 122 = .ok (.iconst 0, 1) := by decide +kernel
theorem dX5_statement_123 : decode cX5_statement 123 = .ok (.ireturn, 1) := by decide +kernel
theorem dX5_statement_124 : decode cX5_statement 124 = .ok (.aload_n 0, 1) := by decide +kernel
theorem dX5_statement_125 : decode cX5_statement 125 = .ok (.getfield 7, 3) := by decide +kernel
theorem dX5_statement_128 : decode cX5_statement 128 = .ok (.iload_n 1, 1) := by decide +kernel
theorem dX5_statement_129 : decode cX5_statement 129 = .ok (.iconst 0, 1) := by decide +kernel
theorem dX5_statement_130 : decode cX5_statement 130 = .ok (.iastore, 1) := by decide +kernel
theorem dX5_statement_131 : decode cX5_statement 131 = .ok (.iconst 1, 1) := by decide +kernel
theorem dX5_statement_132 : decode cX5_statement 132 = .ok (.ireturn, 1) := by decide +kernel
theorem dX5_statement_133 : decode cX5_statement 133 = .ok (.aload_n 0, 1) := by decide +kernel
theorem dX5_statement_134 : decode cX5_statement 134 = .ok (.ldc 170, 2) := by decide +kernel
theorem dX5_statement_136 : decode cX5_statement 136 = .ok (.invokevirtual 160, 3) := by decide +kernel
theorem dX5_statement_139 : decode cX5_statement 139 = .ok (.ifCond .eq 9, 3) := by decide +kernel
theorem dX5_statement_142 : decode cX5_statement 142 = .ok (.aload_n 0, 1) := by decide +kernel
theorem dX5_statement_143 : decode cX5_statement 143 = .ok (.invokevirtual 172, 3) := by decide +kernel
theorem dX5_statement_146 : decode cX5_statement 146 = .ok (.iconst 1, 1) := by decide +kernel
theorem dX5_statement_147 : decode cX5_statement 147 = .ok (.ireturn, 1) := by decide +kernel
theorem dX5_statement_148 : decode cX5_statement 148 = .ok (.aload_n 0, 1) := by decide +kernel
theorem dX5_statement_149 : decode cX5_statement 149 = .ok (.ldc 175, 2) := by decide +kernel
theorem dX5_statement_151 : decode cX5_statement 151 = .ok (.invokevirtual 160, 3) := by decide +kernel
theorem dX5_statement_154 : decode cX5_statement 154 = .ok (.ifCond .eq 72, 3) := by decide +kernel
theorem dX5_statement_157 : decode cX5_statement 157 = .ok (.aload_n 0, 1) := by decide +kernel
theorem dX5_statement_158 : decode cX5_statement 158 = .ok (.getfield 67, 3) := by decide +kernel
theorem dX5_statement_161 : decode cX5_statement 161 = .ok (.bipush 8, 2) := by decide +kernel
theorem dX5_statement_163 : decode cX5_statement 163 = .ok (.if_icmp .ne 5, 3) := by decide +kernel
theorem dX5_statement_166 : decode cX5_statement 166 = .ok (.iconst 0, 1) := by decide +kernel
theorem dX5_statement_167 : decode cX5_statement 167 = .ok (.ireturn, 1) := by decide +kernel
theorem dX5_statement_168 : decode cX5_statement 168 = .ok (.aload_n 0, 1) := by decide +kernel
theorem dX5_statement_169 : decode cX5_statement 169 = .ok (.iconst 0, 1) := by decide +kernel
theorem dX5_statement_170 : decode cX5_statement 170 = .ok (.iconst 5, 1) := by decide +kernel
theorem dX5_statement_171 : decode cX5_statement 171 = .ok (.invokevirtual 164, 3) := by decide +kernel
theorem dX5_statement_174 : decode cX5_statement 174 = .ok (.istore_n 1, 1) := by decide +kernel
theorem dX5_statement_175 : decode cX5_statement 175 = .ok (.iload_n 1, 1) := by decide +kernel
theorem dX5_statement_176 : decode cX5_statement 176 = .ok (.iconst (-1), 1) := by decide +kernel
theorem dX5_statement_177 : decode cX5_statement 177 = .ok (.if_icmp .ne 7, 3) := by decide +kernel
theorem dX5_statement_180 : decode cX5_statement 180 = .ok (.iconst (-1), 1) := by decide +kernel
theorem dX5_statement_181 : decode cX5_statement 181 = .ok (.goto 10, 3) := by decide +kernel
theorem dX5_statement_184 : decode cX5_statement 184 = .ok (.aload_n 0, 1) := by decide +kernel
theorem dX5_statement_185 : decode cX5_statement 185 = .ok (.iconst 0, 1) := by decide +kernel
theorem dX5_statement_186 : decode cX5_statement 186 = .ok (.bipush 9, 2) := by decide +kernel
theorem dX5_statement_188 : decode cX5_statement 188 = .ok (.invokevirtual 164, 3) := by decide +kernel
theorem dX5_statement_191 : decode cX5_statement 191 = .ok (.istore_n 2, 1) := by decide +kernel
theorem dX5_statement_192 : decode cX5_statement 192 = .ok (.iload_n 2, 1) := by decide +kernel
theorem dX5_statement_193 : decode cX5_statement 193 = .ok (.iconst (-1), 1) := by decide +kernel
theorem dX5_statement_194 : decode cX5_statement 194 = .ok (.if_icmp .ne 7, 3) := by decide +kernel
theorem dX5_statement_197 : decode cX5_statement 197 = .ok (.iconst (-1), 1) := by decide +kernel
theorem dX5_statement_198 : decode cX5_statement 198 = .ok (.goto 10, 3) := by decide +kernel
theorem dX5_statement_201 : decode cX5_statement 201 = .ok (.aload_n 0, 1) := by decide +kernel
theorem dX5_statement_202 : decode cX5_statement 202 = .ok (.iconst 1, 1) := by decide +kernel
theorem dX5_statement_203 : decode cX5_statement 203 = .ok (.bipush 99, 2) := by decide +kernel
theorem dX5_statement_205 : decode cX5_statement 205 = .ok (.invokevirtual 164, 3) := by decide +kernel
theorem dX5_statement_208 : decode cX5_statement 208 = .ok (.istore_n 3, 1) := by decide +kernel
theorem dX5_statement_209 : decode cX5_statement 209 = .ok (.iload_n 3, 1) := by decide +kernel
theorem dX5_statement_210 : decode cX5_statement 210 = .ok (.iconst (-1), 1) := by decide +kernel
theorem dX5_statement_211 : decode cX5_statement 211 = .ok (.if_icmp .ne 5, 3) := by decide +kernel
theorem dX5_statement_214 : decode cX5_statement 214 = .ok (.iconst 0, 1) := by decide +kernel
theorem dX5_statement_215 : decode cX5_statement 215 = .ok (.ireturn, 1) := by decide +kernel
theorem dX5_statement_216 : decode cX5_statement 216 = .ok (.aload_n 0, 1) := by decide +kernel
theorem dX5_statement_217 : decode cX5_statement 217 = .ok (.iload_n 1, 1) := by decide +kernel
theorem dX5_statement_218 : decode cX5_statement 218 = .ok (.iload_n 2, 1) := by decide +kernel
theorem dX5_statement_219 : decode cX5_statement 219 = .ok (.iload_n 3, 1) := by decide +kernel
theorem dX5_statement_220 : decode cX5_statement 220 = .ok (.invokevirtual 121, 3) := by decide +kernel
theorem dX5_statement_223 : decode cX5_statement 223 = .ok (.pop, 1) := by decide +kernel
theorem dX5_statement_224 : decode cX5_statement 224 = .ok (.iconst 1, 1) := by decide +kernel
theorem dX5_statement_225 : decode cX5_statement 225 = .ok (.ireturn, 1) := by decide +kernel
theorem dX5_statement_226 : decode cX5_statement 226 = .ok (.aload_n 0, 1) := by decide +kernel
theorem dX5_statement_227 : decode cX5_statement 227 = .ok (.ldc 177, 2) := by decide +kernel
theorem dX5_statement_229 : decode cX5_statement 229 = .ok (.invokevirtual 160, 3) := by decide +kernel
theorem dX5_statement_232 : decode cX5_statement 232 = .ok (.ifCond .eq 25, 3) := by decide +kernel
theorem dX5_statement_235 : decode cX5_statement 235 = .ok (.aload_n 0, 1) := by decide +kernel
theorem dX5_statement_236 : decode cX5_statement 236 = .ok (.iconst 0, 1) := by decide +kernel
theorem dX5_statement_237 : decode cX5_statement 237 = .ok (.bipush 9, 2) := by decide +kernel
theorem dX5_statement_239 : decode cX5_statement 239 = .ok (.invokevirtual 164, 3) := by decide +kernel
theorem dX5_statement_242 : decode cX5_statement 242 = .ok (.istore_n 1, 1) := by decide +kernel
theorem dX5_statement_243 : decode cX5_statement 243 = .ok (.iload_n 1, 1) := by decide +kernel
theorem dX5_statement_244 : decode cX5_statement 244 = .ok (.iconst (-1), 1) := by decide +kernel
theorem dX5_statement_245 : decode cX5_statement 245 = .ok (.if_icmp .ne 5, 3) := by decide +kernel
theorem dX5_statement_248 : decode cX5_statement 248 = .ok (.iconst 0, 1) := by decide +kernel
theorem dX5_statement_249 : decode cX5_statement 249 = .ok (.ireturn, 1) := by decide +kernel
theorem dX5_statement_250 : decode cX5_statement 250 = .ok (.aload_n 0, 1) := by decide +kernel
theorem dX5_statement_251 : decode cX5_statement 251 = .ok (.iload_n 1, 1) := by decide +kernel
theorem dX5_statement_252 : decode cX5_statement 252 = .ok (.putfield 103, 3) := by decide +kernel
theorem dX5_statement_255 : decode cX5_statement 255 = .ok (.iconst 1, 1) := by decide +kernel
theorem dX5_statement_256 : decode cX5_statement 256 = .ok (.ireturn, 1) := by decide +kernel
theorem dX5_statement_257 : decode cX5_statement 257 = .ok (.aload_n 0, 1) := by decide +kernel
theorem dX5_statement_258 : decode cX5_statement 258 = .ok (.ldc 178, 2) := by decide +kernel
theorem dX5_statement_260 : decode cX5_statement 260 = .ok (.invokevirtual 160, 3) := by decide +kernel
theorem dX5_statement_263 : decode cX5_statement 263 = .ok (.ifCond .ne 5, 3) := by decide +kernel
theorem dX5_statement_266 : decode cX5_statement 266 = .ok (.iconst 0, 1) := by decide +kernel
theorem dX5_statement_267 : decode cX5_statement 267 = .ok (.ireturn, 1) := by decide +kernel
theorem dX5_statement_268 : decode cX5_statement 268 = .ok (.aload_n 0, 1) := by decide +kernel
theorem dX5_statement_269 : decode cX5_statement 269 = .ok (.iconst 1, 1) := by decide +kernel
theorem dX5_statement_270 : decode cX5_statement 270 = .ok (.bipush 99, 2) := by decide +kernel
theorem dX5_statement_272 : decode cX5_statement 272 = .ok (.invokevirtual 164, 3) := by decide +kernel
theorem dX5_statement_275 : decode cX5_statement 275 = .ok (.istore_n 1, 1) := by decide +kernel
theorem dX5_statement_276 : decode cX5_statement 276 = .ok (.iload_n 1, 1) := by decide +kernel
theorem dX5_statement_277 : decode cX5_statement 277 = .ok (.iconst (-1), 1) := by decide +kernel
theorem dX5_statement_278 : decode cX5_statement 278 = .ok (.if_icmp .ne 5, 3) := by decide +kernel
theorem dX5_statement_281 : decode cX5_statement 281 = .ok (.iconst 0, 1) := by decide +kernel
theorem dX5_statement_282 : decode cX5_statement 282 = .ok (.ireturn, 1) := by decide +kernel
theorem dX5_statement_283 : decode cX5_statement 283 = .ok (.aload_n 0, 1) := by decide +kernel
theorem dX5_statement_284 : decode cX5_statement 284 = .ok (.iload_n 1, 1) := by decide +kernel
theorem dX5_statement_285 : decode cX5_statement 285 = .ok (.putfield 61, 3) := by decide +kernel
theorem dX5_statement_288 : decode cX5_statement 288 = .ok (.iconst 1, 1) := by decide +kernel
theorem dX5_statement_289 : decode cX5_statement 289 = .ok (.ireturn, 1) := by decide +kernel
theorem dX5_drive_0 : decode cX5_drive 0 = .ok (.aload_n 0, 1) := by decide +kernel
theorem dX5_drive_1 : decode cX5_drive 1 = .ok (.aload_n 0, 1) := by decide +kernel
theorem dX5_drive_2 : decode cX5_drive 2 = .ok (.getfield 41, 3) := by decide +kernel
theorem dX5_drive_5 : decode cX5_drive 5 = .ok (.invokevirtual 179, 3) := by decide +kernel
theorem dX5_drive_8 : decode cX5_drive 8 = .ok (.aload_n 0, 1) := by decide +kernel
theorem dX5_drive_9 : decode cX5_drive 9 = .ok (.iconst 0, 1) := by decide +kernel
theorem dX5_drive_10 : decode cX5_drive 10 = .ok (.putfield 127, 3) := by decide +kernel
theorem dX5_drive_13 : decode cX5_drive 13 = .ok (.iconst 0, 1) := by decide +kernel
theorem dX5_drive_14 : decode cX5_drive 14 = .ok (.istore_n 1, 1) := by decide +kernel
theorem dX5_drive_15 : decode cX5_drive 15 = .ok (.iconst 1, 1) := by decide +kernel
theorem dX5_drive_16 : decode cX5_drive 16 = .ok (.istore_n 2, 1) := by decide +kernel
theorem dX5_drive_17 : decode cX5_drive 17 = .ok (.iload_n 2, 1) := by decide +kernel
theorem dX5_drive_18 : decode cX5_drive 18 = .ok (.ifCond .eq 60, 3) := by decide +kernel
theorem dX5_drive_21 : decode cX5_drive 21 = .ok (.aload_n 0, 1) := by decide +kernel
theorem dX5_drive_22 : decode cX5_drive 22 = .ok (.invokevirtual 155, 3) := by decide +kernel
theorem dX5_drive_25 : decode cX5_drive 25 = .ok (.aload_n 0, 1) := by decide +kernel
theorem dX5_drive_26 : decode cX5_drive 26 = .ok (.invokevirtual 183, 3) := by decide +kernel
theorem dX5_drive_29 : decode cX5_drive 29 = .ok (.istore_n 2, 1) := by decide +kernel
theorem dX5_drive_30 : decode cX5_drive 30 = .ok (.iload_n 2, 1) := by decide +kernel
theorem dX5_drive_31 : decode cX5_drive 31 = .ok (.ifCond .ne 6, 3) := by decide +kernel
theorem dX5_drive_34 : decode cX5_drive 34 = .ok (.goto (-17), 3) := by decide +kernel
theorem dX5_drive_37 : decode cX5_drive 37 = .ok (.iinc 1 1, 3) := by decide +kernel
theorem dX5_drive_40 : decode cX5_drive 40 = .ok (.aload_n 0, 1) := by decide +kernel
theorem dX5_drive_41 : decode cX5_drive 41 = .ok (.invokevirtual 155, 3) := by decide +kernel
theorem dX5_drive_44 : decode cX5_drive 44 = .ok (.aload_n 0, 1) := by decide +kernel
theorem dX5_drive_45 : decode cX5_drive 45 = .ok (.getfield 133, 3) := by decide +kernel
theorem dX5_drive_48 : decode cX5_drive 48 = .ok (.bipush 101, 2) := by decide +kernel
theorem dX5_drive_50 : decode cX5_drive 50 = .ok (.if_icmp .ne 10, 3) := by decide +kernel
theorem dX5_drive_53 : decode cX5_drive 53 = .ok (.aload_n 0, 1) := by decide +kernel
theorem dX5_drive_54 : decode cX5_drive 54 = .ok (.iconst 0, 1) := by decide +kernel
theorem dX5_drive_55 : decode cX5_drive 55 = .ok (.putfield 124, 3) := by decide +kernel
theorem dX5_drive_58 : decode cX5_drive 58 = .ok (.iload_n 1, 1) := by decide +kernel
theorem dX5_drive_59 : decode cX5_drive 59 = .ok (.ireturn, 1) := by decide +kernel
theorem dX5_drive_60 : decode cX5_drive 60 = .ok (.aload_n 0, 1) := by decide +kernel
theorem dX5_drive_61 : decode cX5_drive 61 = .ok (.getfield 133, 3) := by decide +kernel
theorem dX5_drive_64 : decode cX5_drive 64 = .ok (.bipush 59, 2) := by decide +kernel
theorem dX5_drive_66 : decode cX5_drive 66 = .ok (.if_icmp .ne 7, 3) := by decide +kernel
theorem dX5_drive_69 : decode cX5_drive 69 = .ok (.iconst 1, 1) := by decide +kernel
theorem dX5_drive_70 : decode cX5_drive 70 = .ok (.goto 4, 3) := by decide +kernel
theorem dX5_drive_73 : decode cX5_drive 73 = .ok (.iconst 0, 1) := by decide +kernel
theorem dX5_drive_74 : decode cX5_drive 74 = .ok (.istore_n 2, 1) := by decide +kernel
theorem dX5_drive_75 : decode cX5_drive 75 = .ok (.goto (-58), 3) := by decide +kernel
theorem dX5_drive_78 : decode cX5_drive 78 = .ok (.aload_n 0, 1) := by decide +kernel
theorem dX5_drive_79 : decode cX5_drive 79 = .ok (.aload_n 0, 1) := by decide +kernel
theorem dX5_drive_80 : decode cX5_drive 80 = .ok (.getfield 41, 3) := by decide +kernel
theorem dX5_drive_83 : decode cX5_drive 83 = .ok (.invokevirtual 187, 3) := by decide +kernel
theorem dX5_drive_86 : decode cX5_drive 86 = .ok (.aload_n 0, 1) := by decide +kernel
theorem dX5_drive_87 : decode cX5_drive 87 = .ok (.iconst 0, 1) := by decide +kernel
theorem dX5_drive_88 : decode cX5_drive 88 = .ok (.putfield 124, 3) := by decide +kernel
theorem dX5_drive_91 : decode cX5_drive 91 = .ok (.aload_n 0, 1) := by decide +kernel
theorem dX5_drive_92 : decode cX5_drive 92 = .ok (.bipush (-2), 2) := by decide +kernel
theorem dX5_drive_94 : decode cX5_drive 94 = .ok (.invokevirtual 78, 3) := by decide +kernel
theorem dX5_drive_97 : decode cX5_drive 97 = .ok (.pop, 1) := by decide +kernel
theorem dX5_drive_98 : decode cX5_drive 98 = .ok (.bipush (-20), 2) := by decide +kernel
theorem dX5_drive_100 : decode cX5_drive 100 = .ok (.aload_n 0, 1) := by decide +kernel
theorem dX5_drive_101 : decode cX5_drive 101 = .ok (.getfield 130, 3) := by decide +kernel
theorem dX5_drive_104 : decode cX5_drive 104 = .ok (.isub, 1) := by decide +kernel
theorem dX5_drive_105 : decode cX5_drive 105 = .ok (.ireturn, 1) := by decide +kernel
theorem dX5_feetOf_0 : decode cX5_feetOf 0 = .ok (.aload_n 0, 1) := by decide +kernel
theorem dX5_feetOf_1 : decode cX5_feetOf 1 = .ok (.iload_n 1, 1) := by decide +kernel
theorem dX5_feetOf_2 : decode cX5_feetOf 2 = .ok (.invokevirtual 92, 3) := by decide +kernel
theorem dX5_feetOf_5 : decode cX5_feetOf 5 = .ok (.ifCond .eq 12, 3) := by decide +kernel
theorem dX5_feetOf_8 : decode cX5_feetOf 8 = .ok (.iload_n 2, 1) := by decide +kernel
theorem dX5_feetOf_9 : decode cX5_feetOf 9 = .ok (.iconst 0, 1) := by decide +kernel
theorem dX5_feetOf_10 : decode cX5_feetOf 10 = .ok (.iconst 2, 1) := by decide +kernel
theorem dX5_feetOf_11 : decode cX5_feetOf 11 = .ok (.invokestatic 70, 3) := by decide +kernel
theorem dX5_feetOf_14 : decode cX5_feetOf 14 = .ok (.ifCond .ne 10, 3) := by decide +kernel
theorem dX5_feetOf_17 : decode cX5_feetOf 17 = .ok (.aload_n 0, 1) := by decide +kernel
theorem dX5_feetOf_18 : decode cX5_feetOf 18 = .ok (.bipush (-2), 2) := by decide +kernel
theorem dX5_feetOf_20 : decode cX5_feetOf 20 = .ok (.invokevirtual 78, 3) := by decide +kernel
theorem dX5_feetOf_23 : decode cX5_feetOf 23 = .ok (.ireturn, 1) := by decide +kernel
theorem dX5_feetOf_24 : decode cX5_feetOf 24 = .ok (.iload_n 2, 1) := by decide +kernel
theorem dX5_feetOf_25 : decode cX5_feetOf 25 = .ok (.ifCond .ne 12, 3) := by decide +kernel
theorem dX5_feetOf_28 : decode cX5_feetOf 28 = .ok (.aload_n 0, 1) := by decide +kernel
theorem dX5_feetOf_29 : decode cX5_feetOf 29 = .ok (.getfield 13, 3) := by decide +kernel
theorem dX5_feetOf_32 : decode cX5_feetOf 32 = .ok (.iload_n 1, 1) := by decide +kernel
theorem dX5_feetOf_33 : decode cX5_feetOf 33 = .ok (.iaload, 1) := by decide +kernel
theorem dX5_feetOf_34 : decode cX5_feetOf 34 = .ok (.goto 23, 3) := by decide +kernel
theorem dX5_feetOf_37 : decode cX5_feetOf 37 = .ok (.iload_n 2, 1) := by decide +kernel
theorem dX5_feetOf_38 : decode cX5_feetOf 38 = .ok (.iconst 1, 1) := by decide +kernel
theorem dX5_feetOf_39 : decode cX5_feetOf 39 = .ok (.if_icmp .ne 12, 3) := by decide +kernel
theorem dX5_feetOf_42 : decode cX5_feetOf 42 = .ok (.aload_n 0, 1) := by decide +kernel
theorem dX5_feetOf_43 : decode cX5_feetOf 43 = .ok (.getfield 16, 3) := by decide +kernel
theorem dX5_feetOf_46 : decode cX5_feetOf 46 = .ok (.iload_n 1, 1) := by decide +kernel
theorem dX5_feetOf_47 : decode cX5_feetOf 47 = .ok (.iaload, 1) := by decide +kernel
theorem dX5_feetOf_48 : decode cX5_feetOf 48 = .ok (.goto 9, 3) := by decide +kernel
theorem dX5_feetOf_51 : decode cX5_feetOf 51 = .ok (.aload_n 0, 1) := by decide +kernel
theorem dX5_feetOf_52 : decode cX5_feetOf 52 = .ok (.getfield 19, 3) := by decide +kernel
theorem dX5_feetOf_55 : decode cX5_feetOf 55 = .ok (.iload_n 1, 1) := by decide +kernel
theorem dX5_feetOf_56 : decode cX5_feetOf 56 = .ok (.iaload, 1) := by decide +kernel
theorem dX5_feetOf_57 : decode cX5_feetOf 57 = .ok (.ireturn, 1) := by decide +kernel
theorem dX5_cellOf_0 : decode cX5_cellOf 0 = .ok (.aload_n 0, 1) := by decide +kernel
theorem dX5_cellOf_1 : decode cX5_cellOf 1 = .ok (.iload_n 1, 1) := by decide +kernel
theorem dX5_cellOf_2 : decode cX5_cellOf 2 = .ok (.invokevirtual 118, 3) := by decide +kernel
theorem dX5_cellOf_5 : decode cX5_cellOf 5 = .ok (.ifCond .eq 12, 3) := by decide +kernel
theorem dX5_cellOf_8 : decode cX5_cellOf 8 = .ok (.iload_n 2, 1) := by decide +kernel
theorem dX5_cellOf_9 : decode cX5_cellOf 9 = .ok (.iconst 0, 1) := by decide +kernel
theorem dX5_cellOf_10 : decode cX5_cellOf 10 = .ok (.iconst 1, 1) := by decide +kernel
theorem dX5_cellOf_11 : decode cX5_cellOf 11 = .ok (.invokestatic 70, 3) := by decide +kernel
theorem dX5_cellOf_14 : decode cX5_cellOf 14 = .ok (.ifCond .ne 10, 3) := by decide +kernel
theorem dX5_cellOf_17 : decode cX5_cellOf 17 = .ok (.aload_n 0, 1) := by decide +kernel
theorem dX5_cellOf_18 : decode cX5_cellOf 18 = .ok (.bipush (-2), 2) := by decide +kernel
theorem dX5_cellOf_20 : decode cX5_cellOf 20 = .ok (.invokevirtual 78, 3) := by decide +kernel
theorem dX5_cellOf_23 : decode cX5_cellOf 23 = .ok (.ireturn, 1) := by decide +kernel
theorem dX5_cellOf_24 : decode cX5_cellOf 24 = .ok (.iload_n 2, 1) := by decide +kernel
theorem dX5_cellOf_25 : decode cX5_cellOf 25 = .ok (.ifCond .ne 12, 3) := by decide +kernel
theorem dX5_cellOf_28 : decode cX5_cellOf 28 = .ok (.aload_n 0, 1) := by decide +kernel
theorem dX5_cellOf_29 : decode cX5_cellOf 29 = .ok (.getfield 7, 3) := by decide +kernel
theorem dX5_cellOf_32 : decode cX5_cellOf 32 = .ok (.iload_n 1, 1) := by decide +kernel
theorem dX5_cellOf_33 : decode cX5_cellOf 33 = .ok (.iaload, 1) := by decide +kernel
theorem dX5_cellOf_34 : decode cX5_cellOf 34 = .ok (.goto 8, 3) := by decide +kernel
theorem dX5_cellOf_37 : decode cX5_cellOf 37 = .ok (.aload_n 0, 1) := by decide +kernel
theorem dX5_cellOf_38 : decode cX5_cellOf 38 = .ok (.iload_n 1, 1) := by decide +kernel
theorem dX5_cellOf_39 : decode cX5_cellOf 39 = .ok (.invokevirtual 112, 3) := by decide +kernel
theorem dX5_cellOf_42 : decode cX5_cellOf 42 = .ok (.ireturn, 1) := by decide +kernel
theorem dX5_crunch_0 : decode cX5_crunch 0 = .ok (.aload_n 0, 1) := by decide +kernel
theorem dX5_crunch_1 : decode cX5_crunch 1 = .ok (.iload_n 1, 1) := by decide +kernel
theorem dX5_crunch_2 : decode cX5_crunch 2 = .ok (.invokevirtual 92, 3) := by decide +kernel
theorem dX5_crunch_5 : decode cX5_crunch 5 = .ok (.ifCond .eq 30, 3) := by decide +kernel
theorem dX5_crunch_8 : decode cX5_crunch 8 = .ok (.aload_n 0, 1) := by decide +kernel
theorem dX5_crunch_9 : decode cX5_crunch 9 = .ok (.iload_n 2, 1) := by decide +kernel
theorem dX5_crunch_10 : decode cX5_crunch 10 = .ok (.invokevirtual 118, 3) := by decide +kernel
theorem dX5_crunch_13 : decode cX5_crunch 13 = .ok (.ifCond .eq 22, 3) := by decide +kernel
theorem dX5_crunch_16 : decode cX5_crunch 16 = .ok (.iload_n 3, 1) := by decide +kernel
theorem dX5_crunch_17 : decode cX5_crunch 17 = .ok (.iconst 0, 1) := by decide +kernel
theorem dX5_crunch_18 : decode cX5_crunch 18 = .ok (.iconst 5, 1) := by decide +kernel
theorem dX5_crunch_19 : decode cX5_crunch 19 = .ok (.invokestatic 70, 3) := by decide +kernel
theorem dX5_crunch_22 : decode cX5_crunch 22 = .ok (.ifCond .eq 13, 3) := by decide +kernel
theorem dX5_crunch_25 : decode cX5_crunch 25 = .ok (.aload_n 0, 1) := by decide +kernel
theorem dX5_crunch_26 : decode cX5_crunch 26 = .ok (.iload_n 1, 1) := by decide +kernel
theorem dX5_crunch_27 : decode cX5_crunch 27 = .ok (.iload_n 2, 1) := by decide +kernel
theorem dX5_crunch_28 : decode cX5_crunch 28 = .ok (.iload_n 3, 1) := by decide +kernel
theorem dX5_crunch_29 : decode cX5_crunch 29 = .ok (.invokevirtual 99, 3) := by decide +kernel
theorem dX5_crunch_32 : decode cX5_crunch 32 = .ok (.goto 9, 3) := by decide +kernel
theorem dX5_crunch_35 : decode cX5_crunch 35 = .ok (.aload_n 0, 1) := by decide +kernel
theorem dX5_crunch_36 : decode cX5_crunch 36 = .ok (.bipush (-2), 2) := by decide +kernel
theorem dX5_crunch_38 : decode cX5_crunch 38 = .ok (.invokevirtual 78, 3) := by decide +kernel
theorem dX5_crunch_41 : decode cX5_crunch 41 = .ok (.ireturn, 1) := by decide +kernel
theorem dX5_costs_0 : decode cX5_costs 0 = .ok (.iconst 0, 1) := by decide +kernel
theorem dX5_costs_1 : decode cX5_costs 1 = .ok (.istore_n 2, 1) := by decide +kernel
theorem dX5_costs_2 : decode cX5_costs 2 = .ok (.iload_n 2, 1) := by decide +kernel
theorem dX5_costs_3 : decode cX5_costs 3 = .ok (.aload_n 0, 1) := by decide +kernel
theorem dX5_costs_4 : decode cX5_costs 4 = .ok (.getfield 57, 3) := by decide +kernel
theorem dX5_costs_7 : decode cX5_costs 7 = .ok (.aload_n 0, 1) := by decide +kernel
theorem dX5_costs_8 : decode cX5_costs 8 = .ok (.getfield 57, 3) := by decide +kernel
theorem dX5_costs_11 : decode cX5_costs 11 = .ok (.imul, 1) := by decide +kernel
theorem dX5_costs_12 : decode cX5_costs 12 = .ok (.if_icmp .ge 28, 3) := by decide +kernel
theorem dX5_costs_15 : decode cX5_costs 15 = .ok (.aload_n 0, 1) := by decide +kernel
theorem dX5_costs_16 : decode cX5_costs 16 = .ok (.getfield 44, 3) := by decide +kernel
theorem dX5_costs_19 : decode cX5_costs 19 = .ok (.iload_n 2, 1) := by decide +kernel
theorem dX5_costs_20 : decode cX5_costs 20 = .ok (.aload_n 0, 1) := by decide +kernel
theorem dX5_costs_21 : decode cX5_costs 21 = .ok (.iload_n 1, 1) := by decide +kernel
theorem dX5_costs_22 : decode cX5_costs 22 = .ok (.iload_n 2, 1) := by decide +kernel
theorem dX5_costs_23 : decode cX5_costs 23 = .ok (.invokevirtual 190, 3) := by decide +kernel
theorem dX5_costs_26 : decode cX5_costs 26 = .ok (.iastore, 1) := by decide +kernel
theorem dX5_costs_27 : decode cX5_costs 27 = .ok (.aload_n 0, 1) := by decide +kernel
theorem dX5_costs_28 : decode cX5_costs 28 = .ok (.getfield 47, 3) := by decide +kernel
theorem dX5_costs_31 : decode cX5_costs 31 = .ok (.iload_n 2, 1) := by decide +kernel
theorem dX5_costs_32 : decode cX5_costs 32 = .ok (.iconst 1, 1) := by decide +kernel
theorem dX5_costs_33 : decode cX5_costs 33 = .ok (.bastore, 1) := by decide +kernel
theorem dX5_costs_34 : decode cX5_costs 34 = .ok (.iinc 2 1, 3) := by decide +kernel
theorem dX5_costs_37 : decode cX5_costs 37 = .ok (.goto (-35), 3) := by decide +kernel
theorem dX5_costs_40 : decode cX5_costs 40 = .ok (.return_, 1) := by decide +kernel
theorem dX5_isNext_0 : decode cX5_isNext 0 = .ok (.iload_n 2, 1) := by decide +kernel
theorem dX5_isNext_1 : decode cX5_isNext 1 = .ok (.aload_n 0, 1) := by decide +kernel
theorem dX5_isNext_2 : decode cX5_isNext 2 = .ok (.getfield 57, 3) := by decide +kernel
theorem dX5_isNext_5 : decode cX5_isNext 5 = .ok (.idiv, 1) := by decide +kernel
theorem dX5_isNext_6 : decode cX5_isNext 6 = .ok (.iload_n 1, 1) := by decide +kernel
theorem dX5_isNext_7 : decode cX5_isNext 7 = .ok (.aload_n 0, 1) := by decide +kernel
theorem dX5_isNext_8 : decode cX5_isNext 8 = .ok (.getfield 57, 3) := by decide +kernel
theorem dX5_isNext_11 : decode cX5_isNext 11 = .ok (.idiv, 1) := by decide +kernel
theorem dX5_isNext_12 : decode cX5_isNext 12 = .ok (.iconst 1, 1) := by decide +kernel
theorem dX5_isNext_13 : decode cX5_isNext 13 = .ok (.iadd, 1) := by decide +kernel
theorem dX5_isNext_14 : decode cX5_isNext 14 = .ok (.if_icmp .ne 27, 3) := by decide +kernel
theorem dX5_isNext_17 : decode cX5_isNext 17 = .ok (.iload_n 2, 1) := by decide +kernel
theorem dX5_isNext_18 : decode cX5_isNext 18 = .ok (.aload_n 0, 1) := by decide +kernel
theorem dX5_isNext_19 : decode cX5_isNext 19 = .ok (.getfield 57, 3) := by decide +kernel
theorem dX5_isNext_22 : decode cX5_isNext 22 = .ok (.irem, 1) := by decide +kernel
theorem dX5_isNext_23 : decode cX5_isNext 23 = .ok (.iload_n 1, 1) := by decide +kernel
theorem dX5_isNext_24 : decode cX5_isNext 24 = .ok (.aload_n 0, 1) := by decide +kernel
theorem dX5_isNext_25 : decode cX5_isNext 25 = .ok (.getfield 57, 3) := by decide +kernel
theorem dX5_isNext_28 : decode cX5_isNext 28 = .ok (.irem, 1) := by decide +kernel
theorem dX5_isNext_29 : decode cX5_isNext 29 = .ok (.isub, 1) := by decide +kernel
theorem dX5_isNext_30 : decode cX5_isNext 30 = .ok (.invokestatic 193, 3) := by decide +kernel
theorem dX5_isNext_33 : decode cX5_isNext 33 = .ok (.iconst 2, 1) := by decide +kernel
theorem dX5_isNext_34 : decode cX5_isNext 34 = .ok (.if_icmp .ge 7, 3) := by decide +kernel
theorem dX5_isNext_37 : decode cX5_isNext 37 = .ok (.iconst 1, 1) := by decide +kernel
theorem dX5_isNext_38 : decode cX5_isNext 38 = .ok (.goto 4, 3) := by decide +kernel
theorem dX5_isNext_41 : decode cX5_isNext 41 = .ok (.iconst 0, 1) := by decide +kernel
theorem dX5_isNext_42 : decode cX5_isNext 42 = .ok (.ireturn, 1) := by decide +kernel
theorem dX5_count_0 : decode cX5_count 0 = .ok (.iconst 0, 1) := by decide +kernel
theorem dX5_count_1 : decode cX5_count 1 = .ok (.istore_n 1, 1) := by decide +kernel
theorem dX5_count_2 : decode cX5_count 2 = .ok (.aload_n 0, 1) := by decide +kernel
theorem dX5_count_3 : decode cX5_count 3 = .ok (.getfield 57, 3) := by decide +kernel
theorem dX5_count_6 : decode cX5_count 6 = .ok (.aload_n 0, 1) := by decide +kernel
theorem dX5_count_7 : decode cX5_count 7 = .ok (.getfield 57, 3) := by decide +kernel
theorem dX5_count_10 : decode cX5_count 10 = .ok (.imul, 1) := by decide +kernel
theorem dX5_count_11 : decode cX5_count 11 = .ok (.iconst 1, 1) := by decide +kernel
theorem dX5_count_12 : decode cX5_count 12 = .ok (.isub, 1) := by decide +kernel
theorem dX5_count_13 : decode cX5_count 13 = .ok (.istore_n 2, 1) := by decide +kernel
theorem dX5_count_14 : decode cX5_count 14 = .ok (.iload_n 2, 1) := by decide +kernel
theorem dX5_count_15 : decode cX5_count 15 = .ok (.ifCond .lt 117, 3) := by decide +kernel
theorem dX5_count_18 : decode cX5_count 18 = .ok (.aload_n 0, 1) := by decide +kernel
theorem dX5_count_19 : decode cX5_count 19 = .ok (.getfield 51, 3) := by decide +kernel
theorem dX5_count_22 : decode cX5_count 22 = .ok (.iload_n 2, 1) := by decide +kernel
theorem dX5_count_23 : decode cX5_count 23 = .ok (.aload_n 0, 1) := by decide +kernel
theorem dX5_count_24 : decode cX5_count 24 = .ok (.getfield 47, 3) := by decide +kernel
theorem dX5_count_27 : decode cX5_count 27 = .ok (.iload_n 2, 1) := by decide +kernel
theorem dX5_count_28 : decode cX5_count 28 = .ok (.baload, 1) := by decide +kernel
theorem dX5_count_29 : decode cX5_count 29 = .ok (.ifCond .eq 22, 3) := by decide +kernel
theorem dX5_count_32 : decode cX5_count 32 = .ok (.iload_n 2, 1) := by decide +kernel
theorem dX5_count_33 : decode cX5_count 33 = .ok (.aload_n 0, 1) := by decide +kernel
theorem dX5_count_34 : decode cX5_count 34 = .ok (.getfield 57, 3) := by decide +kernel
theorem dX5_count_37 : decode cX5_count 37 = .ok (.idiv, 1) := by decide +kernel
theorem dX5_count_38 : decode cX5_count 38 = .ok (.aload_n 0, 1) := by decide +kernel
theorem dX5_count_39 : decode cX5_count 39 = .ok (.getfield 57, 3) := by decide +kernel
theorem dX5_count_42 : decode cX5_count 42 = .ok (.iconst 1, 1) := by decide +kernel
theorem dX5_count_43 : decode cX5_count 43 = .ok (.isub, 1) := by decide +kernel
theorem dX5_count_44 : decode cX5_count 44 = .ok (.if_icmp .ne 7, 3) := by decide +kernel
theorem dX5_count_47 : decode cX5_count 47 = .ok (.iconst 1, 1) := by decide +kernel
theorem dX5_count_48 : decode cX5_count 48 = .ok (.goto 4, 3) := by decide +kernel
theorem dX5_count_51 : decode cX5_count 51 = .ok (.iconst 0, 1) := by decide +kernel
theorem dX5_count_52 : decode cX5_count 52 = .ok (.iastore, 1) := by decide +kernel
theorem dX5_count_53 : decode cX5_count 53 = .ok (.iload_n 2, 1) := by decide +kernel
theorem dX5_count_54 : decode cX5_count 54 = .ok (.iconst 1, 1) := by decide +kernel
theorem dX5_count_55 : decode cX5_count 55 = .ok (.iadd, 1) := by decide +kernel
theorem dX5_count_56 : decode cX5_count 56 = .ok (.istore_n 3, 1) := by decide +kernel
theorem dX5_count_57 : decode cX5_count 57 = .ok (.iload_n 3, 1) := by decide +kernel
theorem dX5_count_58 : decode cX5_count 58 = .ok (.aload_n 0, 1) := by decide +kernel
theorem dX5_count_59 : decode cX5_count 59 = .ok (.getfield 57, 3) := by decide +kernel
theorem dX5_count_62 : decode cX5_count 62 = .ok (.aload_n 0, 1) := by decide +kernel
theorem dX5_count_63 : decode cX5_count 63 = .ok (.getfield 57, 3) := by decide +kernel
theorem dX5_count_66 : decode cX5_count 66 = .ok (.imul, 1) := by decide +kernel
theorem dX5_count_67 : decode cX5_count 67 = .ok (.if_icmp .ge 42, 3) := by decide +kernel
theorem dX5_count_70 : decode cX5_count 70 = .ok (.aload_n 0, 1) := by decide +kernel
theorem dX5_count_71 : decode cX5_count 71 = .ok (.getfield 47, 3) := by decide +kernel
theorem dX5_count_74 : decode cX5_count 74 = .ok (.iload_n 2, 1) := by decide +kernel
theorem dX5_count_75 : decode cX5_count 75 = .ok (.baload, 1) := by decide +kernel
theorem dX5_count_76 : decode cX5_count 76 = .ok (.ifCond .eq 33, 3) := by decide +kernel
theorem dX5_count_79 : decode cX5_count 79 = .ok (.aload_n 0, 1) := by decide +kernel
theorem dX5_count_80 : decode cX5_count 80 = .ok (.iload_n 2, 1) := by decide +kernel
theorem dX5_count_81 : decode cX5_count 81 = .ok (.iload_n 3, 1) := by decide +kernel
theorem dX5_count_82 : decode cX5_count 82 = .ok (.invokevirtual 196, 3) := by decide +kernel
theorem dX5_count_85 : decode cX5_count 85 = .ok (.ifCond .eq 18, 3) := by decide +kernel
theorem dX5_count_88 : decode cX5_count 88 = .ok (.aload_n 0, 1) := by decide +kernel
theorem dX5_count_89 : decode cX5_count 89 = .ok (.getfield 51, 3) := by decide +kernel
theorem dX5_count_92 : decode cX5_count 92 = .ok (.iload_n 2, 1) := by decide +kernel
theorem dX5_count_93 : decode cX5_count 93 = .ok (.dup2, 1) := by decide +kernel
theorem dX5_count_94 : decode cX5_count 94 = .ok (.iaload, 1) := by decide +kernel
theorem dX5_count_95 : decode cX5_count 95 = .ok (.aload_n 0, 1) := by decide +kernel
theorem dX5_count_96 : decode cX5_count 96 = .ok (.getfield 51, 3) := by decide +kernel
theorem dX5_count_99 : decode cX5_count 99 = .ok (.iload_n 3, 1) := by decide +kernel
theorem dX5_count_100 : decode cX5_count 100 = .ok (.iaload, 1) := by decide +kernel
theorem dX5_count_101 : decode cX5_count 101 = .ok (.iadd, 1) := by decide +kernel
theorem dX5_count_102 : decode cX5_count 102 = .ok (.iastore, 1) := by decide +kernel
theorem dX5_count_103 : decode cX5_count 103 = .ok (.iinc 3 1, 3) := by decide +kernel
theorem dX5_count_106 : decode cX5_count 106 = .ok (.goto (-49), 3) := by decide +kernel
theorem dX5_count_109 : decode cX5_count 109 = .ok (.iload_n 2, 1) := by decide +kernel
theorem dX5_count_110 : decode cX5_count 110 = .ok (.aload_n 0, 1) := by decide +kernel
theorem dX5_count_111 : decode cX5_count 111 = .ok (.getfield 57, 3) := by decide +kernel
theorem dX5_count_114 : decode cX5_count 114 = .ok (.if_icmp .ge 12, 3) := by decide +kernel
theorem dX5_count_117 : decode cX5_count 117 = .ok (.iload_n 1, 1) := by decide +kernel
theorem dX5_count_118 : decode cX5_count 118 = .ok (.aload_n 0, 1) := by decide +kernel
theorem dX5_count_119 : decode cX5_count 119 = .ok (.getfield 51, 3) := by decide +kernel
theorem dX5_count_122 : decode cX5_count 122 = .ok (.iload_n 2, 1) := by decide +kernel
theorem dX5_count_123 : decode cX5_count 123 = .ok (.iaload, 1) := by decide +kernel
theorem dX5_count_124 : decode cX5_count 124 = .ok (.iadd, 1) := by decide +kernel
theorem dX5_count_125 : decode cX5_count 125 = .ok (.istore_n 1, 1) := by decide +kernel
theorem dX5_count_126 : decode cX5_count 126 = .ok (.iinc 2 (-1), 3) := by decide +kernel
theorem dX5_count_129 : decode cX5_count 129 = .ok (.goto (-115), 3) := by decide +kernel
theorem dX5_count_132 : decode cX5_count 132 = .ok (.iload_n 1, 1) := by decide +kernel
theorem dX5_count_133 : decode cX5_count 133 = .ok (.ireturn, 1) := by decide +kernel
theorem dX5_first_0 : decode cX5_first 0 = .ok (.aload_n 0, 1) := by decide +kernel
theorem dX5_first_1 : decode cX5_first 1 = .ok (.invokevirtual 199, 3) := by decide +kernel
theorem dX5_first_4 : decode cX5_first 4 = .ok (.pop, 1) := by decide +kernel
theorem dX5_first_5 : decode cX5_first 5 = .ok (.iconst 0, 1) := by decide +kernel
theorem dX5_first_6 : decode cX5_first 6 = .ok (.istore_n 1, 1) := by decide +kernel
theorem dX5_first_7 : decode cX5_first 7 = .ok (.iload_n 1, 1) := by decide +kernel
theorem dX5_first_8 : decode cX5_first 8 = .ok (.aload_n 0, 1) := by decide +kernel
theorem dX5_first_9 : decode cX5_first 9 = .ok (.getfield 57, 3) := by decide +kernel
theorem dX5_first_12 : decode cX5_first 12 = .ok (.if_icmp .ge 58, 3) := by decide +kernel
theorem dX5_first_15 : decode cX5_first 15 = .ok (.iload_n 1, 1) := by decide +kernel
theorem dX5_first_16 : decode cX5_first 16 = .ok (.aload_n 0, 1) := by decide +kernel
theorem dX5_first_17 : decode cX5_first 17 = .ok (.getfield 57, 3) := by decide +kernel
theorem dX5_first_20 : decode cX5_first 20 = .ok (.imul, 1) := by decide +kernel
theorem dX5_first_21 : decode cX5_first 21 = .ok (.istore_n 2, 1) := by decide +kernel
theorem dX5_first_22 : decode cX5_first 22 = .ok (.aload_n 0, 1) := by decide +kernel
theorem dX5_first_23 : decode cX5_first 23 = .ok (.getfield 51, 3) := by decide +kernel
theorem dX5_first_26 : decode cX5_first 26 = .ok (.iload_n 2, 1) := by decide +kernel
theorem dX5_first_27 : decode cX5_first 27 = .ok (.iaload, 1) := by decide +kernel
theorem dX5_first_28 : decode cX5_first 28 = .ok (.ifCond .eq 23, 3) := by decide +kernel
theorem dX5_first_31 : decode cX5_first 31 = .ok (.iload_n 1, 1) := by decide +kernel
theorem dX5_first_32 : decode cX5_first 32 = .ok (.ifCond .le 25, 3) := by decide +kernel
theorem dX5_first_35 : decode cX5_first 35 = .ok (.aload_n 0, 1) := by decide +kernel
theorem dX5_first_36 : decode cX5_first 36 = .ok (.aload_n 0, 1) := by decide +kernel
theorem dX5_first_37 : decode cX5_first 37 = .ok (.getfield 54, 3) := by decide +kernel
theorem dX5_first_40 : decode cX5_first 40 = .ok (.iload_n 1, 1) := by decide +kernel
theorem dX5_first_41 : decode cX5_first 41 = .ok (.iconst 1, 1) := by decide +kernel
theorem dX5_first_42 : decode cX5_first 42 = .ok (.isub, 1) := by decide +kernel
theorem dX5_first_43 : decode cX5_first 43 = .ok (.iaload, 1) := by decide +kernel
theorem dX5_first_44 : decode cX5_first 44 = .ok (.iload_n 2, 1) := by decide +kernel
theorem dX5_first_45 : decode cX5_first 45 = .ok (.invokevirtual 196, 3) := by decide +kernel
theorem dX5_first_48 : decode cX5_first 48 = .ok (.ifCond .ne 9, 3) := by decide +kernel
theorem dX5_first_51 : decode cX5_first 51 = .ok (.iinc 2 1, 3) := by decide +kernel
theorem dX5_first_54 : decode cX5_first 54 = .ok (.goto (-32), 3) := by decide +kernel
theorem dX5_first_57 : decode cX5_first 57 = .ok (.aload_n 0, 1) := by decide +kernel
theorem dX5_first_58 : decode cX5_first 58 = .ok (.getfield 54, 3) := by decide +kernel
theorem dX5_first_61 : decode cX5_first 61 = .ok (.iload_n 1, 1) := by decide +kernel
theorem dX5_first_62 : decode cX5_first 62 = .ok (.iload_n 2, 1) := by decide +kernel
theorem dX5_first_63 : decode cX5_first 63 = .ok (.iastore, 1) := by decide +kernel
theorem dX5_first_64 : decode cX5_first 64 = .ok (.iinc 1 1, 3) := by decide +kernel
theorem dX5_first_67 : decode cX5_first 67 = .ok (.goto (-60), 3) := by decide +kernel
theorem dX5_first_70 : decode cX5_first 70 = .ok (.return_, 1) := by decide +kernel
theorem dX5_sums_0 : decode cX5_sums 0 = .ok (.aload_n 0, 1) := by decide +kernel
theorem dX5_sums_1 : decode cX5_sums 1 = .ok (.getfield 57, 3) := by decide +kernel
theorem dX5_sums_4 : decode cX5_sums 4 = .ok (.aload_n 0, 1) := by decide +kernel
theorem dX5_sums_5 : decode cX5_sums 5 = .ok (.getfield 57, 3) := by decide +kernel
theorem dX5_sums_8 : decode cX5_sums 8 = .ok (.imul, 1) := by decide +kernel
theorem dX5_sums_9 : decode cX5_sums 9 = .ok (.iconst 1, 1) := by decide +kernel
theorem dX5_sums_10 : decode cX5_sums 10 = .ok (.isub, 1) := by decide +kernel
theorem dX5_sums_11 : decode cX5_sums 11 = .ok (.istore_n 2, 1) := by decide +kernel
theorem dX5_sums_12 : decode cX5_sums 12 = .ok (.iload_n 2, 1) := by decide +kernel
theorem dX5_sums_13 : decode cX5_sums 13 = .ok (.ifCond .lt 110, 3) := by decide +kernel
theorem dX5_sums_16 : decode cX5_sums 16 = .ok (.aload_n 0, 1) := by decide +kernel
theorem dX5_sums_17 : decode cX5_sums 17 = .ok (.getfield 51, 3) := by decide +kernel
theorem dX5_sums_20 : decode cX5_sums 20 = .ok (.iload_n 2, 1) := by decide +kernel
theorem dX5_sums_21 : decode cX5_sums 21 = .ok (.iconst 0, 1) := by decide +kernel
theorem dX5_sums_22 : decode cX5_sums 22 = .ok (.iastore, 1) := by decide +kernel
theorem dX5_sums_23 : decode cX5_sums 23 = .ok (.iconst 0, 1) := by decide +kernel
theorem dX5_sums_24 : decode cX5_sums 24 = .ok (.istore_n 3, 1) := by decide +kernel
theorem dX5_sums_25 : decode cX5_sums 25 = .ok (.iload_n 2, 1) := by decide +kernel
theorem dX5_sums_26 : decode cX5_sums 26 = .ok (.iconst 1, 1) := by decide +kernel
theorem dX5_sums_27 : decode cX5_sums 27 = .ok (.iadd, 1) := by decide +kernel
theorem dX5_sums_28 : decode cX5_sums 28 = .ok (.istore 4, 2) := by decide +kernel
theorem dX5_sums_30 : decode cX5_sums 30 = .ok (.iload 4, 2) := by decide +kernel
theorem dX5_sums_32 : decode cX5_sums 32 = .ok (.aload_n 0, 1) := by decide +kernel
theorem dX5_sums_33 : decode cX5_sums 33 = .ok (.getfield 57, 3) := by decide +kernel
theorem dX5_sums_36 : decode cX5_sums 36 = .ok (.aload_n 0, 1) := by decide +kernel
theorem dX5_sums_37 : decode cX5_sums 37 = .ok (.getfield 57, 3) := by decide +kernel
theorem dX5_sums_40 : decode cX5_sums 40 = .ok (.imul, 1) := by decide +kernel
theorem dX5_sums_41 : decode cX5_sums 41 = .ok (.if_icmp .ge 61, 3) := by decide +kernel
theorem dX5_sums_44 : decode cX5_sums 44 = .ok (.aload_n 0, 1) := by decide +kernel
theorem dX5_sums_45 : decode cX5_sums 45 = .ok (.iload_n 2, 1) := by decide +kernel
theorem dX5_sums_46 : decode cX5_sums 46 = .ok (.iload 4, 2) := by decide +kernel
theorem dX5_sums_48 : decode cX5_sums 48 = .ok (.invokevirtual 196, 3) := by decide +kernel
theorem dX5_sums_51 : decode cX5_sums 51 = .ok (.ifCond .eq 45, 3) := by decide +kernel
theorem dX5_sums_54 : decode cX5_sums 54 = .ok (.iload_n 3, 1) := by decide +kernel
theorem dX5_sums_55 : decode cX5_sums 55 = .ok (.ifCond .eq 26, 3) := by decide +kernel
theorem dX5_sums_58 : decode cX5_sums 58 = .ok (.iload_n 1, 1) := by decide +kernel
theorem dX5_sums_59 : decode cX5_sums 59 = .ok (.aload_n 0, 1) := by decide +kernel
theorem dX5_sums_60 : decode cX5_sums 60 = .ok (.getfield 51, 3) := by decide +kernel
theorem dX5_sums_63 : decode cX5_sums 63 = .ok (.iload 4, 2) := by decide +kernel
theorem dX5_sums_65 : decode cX5_sums 65 = .ok (.iaload, 1) := by decide +kernel
theorem dX5_sums_66 : decode cX5_sums 66 = .ok (.imul, 1) := by decide +kernel
theorem dX5_sums_67 : decode cX5_sums 67 = .ok (.iload_n 1, 1) := by decide +kernel
theorem dX5_sums_68 : decode cX5_sums 68 = .ok (.aload_n 0, 1) := by decide +kernel
theorem dX5_sums_69 : decode cX5_sums 69 = .ok (.getfield 51, 3) := by decide +kernel
theorem dX5_sums_72 : decode cX5_sums 72 = .ok (.iload_n 2, 1) := by decide +kernel
theorem dX5_sums_73 : decode cX5_sums 73 = .ok (.iaload, 1) := by decide +kernel
theorem dX5_sums_74 : decode cX5_sums 74 = .ok (.imul, 1) := by decide +kernel
theorem dX5_sums_75 : decode cX5_sums 75 = .ok (.if_icmp .lt 6, 3) := by decide +kernel
theorem dX5_sums_78 : decode cX5_sums 78 = .ok (.goto 18, 3) := by decide +kernel
theorem dX5_sums_81 : decode cX5_sums 81 = .ok (.aload_n 0, 1) := by decide +kernel
theorem dX5_sums_82 : decode cX5_sums 82 = .ok (.getfield 51, 3) := by decide +kernel
theorem dX5_sums_85 : decode cX5_sums 85 = .ok (.iload_n 2, 1) := by decide +kernel
theorem dX5_sums_86 : decode cX5_sums 86 = .ok (.aload_n 0, 1) := by decide +kernel
theorem dX5_sums_87 : decode cX5_sums 87 = .ok (.getfield 51, 3) := by decide +kernel
theorem dX5_sums_90 : decode cX5_sums 90 = .ok (.iload 4, 2) := by decide +kernel
theorem dX5_sums_92 : decode cX5_sums 92 = .ok (.iaload, 1) := by decide +kernel
theorem dX5_sums_93 : decode cX5_sums 93 = .ok (.iastore, 1) := by decide +kernel
theorem dX5_sums_94 : decode cX5_sums 94 = .ok (.iconst 1, 1) := by decide +kernel
theorem dX5_sums_95 : decode cX5_sums 95 = .ok (.istore_n 3, 1) := by decide +kernel
theorem dX5_sums_96 : decode cX5_sums 96 = .ok (.iinc 4 1, 3) := by decide +kernel
theorem dX5_sums_99 : decode cX5_sums 99 = .ok (.goto (-69), 3) := by decide +kernel
theorem dX5_sums_102 : decode cX5_sums 102 = .ok (.aload_n 0, 1) := by decide +kernel
theorem dX5_sums_103 : decode cX5_sums 103 = .ok (.getfield 51, 3) := by decide +kernel
theorem dX5_sums_106 : decode cX5_sums 106 = .ok (.iload_n 2, 1) := by decide +kernel
theorem dX5_sums_107 : decode cX5_sums 107 = .ok (.dup2, 1) := by decide +kernel
theorem dX5_sums_108 : decode cX5_sums 108 = .ok (.iaload, 1) := by decide +kernel
theorem dX5_sums_109 : decode cX5_sums 109 = .ok (.aload_n 0, 1) := by decide +kernel
theorem dX5_sums_110 : decode cX5_sums 110 = .ok (.getfield 44, 3) := by decide +kernel
theorem dX5_sums_113 : decode cX5_sums 113 = .ok (.iload_n 2, 1) := by decide +kernel
theorem dX5_sums_114 : decode cX5_sums 114 = .ok (.iaload, 1) := by decide +kernel
theorem dX5_sums_115 : decode cX5_sums 115 = .ok (.iadd, 1) := by decide +kernel
theorem dX5_sums_116 : decode cX5_sums 116 = .ok (.iastore, 1) := by decide +kernel
theorem dX5_sums_117 : decode cX5_sums 117 = .ok (.iinc 2 (-1), 3) := by decide +kernel
theorem dX5_sums_120 : decode cX5_sums 120 = .ok (.goto (-108), 3) := by decide +kernel
theorem dX5_sums_123 : decode cX5_sums 123 = .ok (.iconst 0, 1) := by decide +kernel
theorem dX5_sums_124 : decode cX5_sums 124 = .ok (.istore_n 2, 1) := by decide +kernel
theorem dX5_sums_125 : decode cX5_sums 125 = .ok (.iload_n 2, 1) := by decide +kernel
theorem dX5_sums_126 : decode cX5_sums 126 = .ok (.aload_n 0, 1) := by decide +kernel
theorem dX5_sums_127 : decode cX5_sums 127 = .ok (.getfield 57, 3) := by decide +kernel
theorem dX5_sums_130 : decode cX5_sums 130 = .ok (.if_icmp .ge 100, 3) := by decide +kernel
theorem dX5_sums_133 : decode cX5_sums 133 = .ok (.iconst (-1), 1) := by decide +kernel
theorem dX5_sums_134 : decode cX5_sums 134 = .ok (.istore_n 3, 1) := by decide +kernel
theorem dX5_sums_135 : decode cX5_sums 135 = .ok (.iload_n 2, 1) := by decide +kernel
theorem dX5_sums_136 : decode cX5_sums 136 = .ok (.aload_n 0, 1) := by decide +kernel
theorem dX5_sums_137 : decode cX5_sums 137 = .ok (.getfield 57, 3) := by decide +kernel
theorem dX5_sums_140 : decode cX5_sums 140 = .ok (.imul, 1) := by decide +kernel
theorem dX5_sums_141 : decode cX5_sums 141 = .ok (.istore 4, 2) := by decide +kernel
theorem dX5_sums_143 : decode cX5_sums 143 = .ok (.iload 4, 2) := by decide +kernel
theorem dX5_sums_145 : decode cX5_sums 145 = .ok (.iload_n 2, 1) := by decide +kernel
theorem dX5_sums_146 : decode cX5_sums 146 = .ok (.aload_n 0, 1) := by decide +kernel
theorem dX5_sums_147 : decode cX5_sums 147 = .ok (.getfield 57, 3) := by decide +kernel
theorem dX5_sums_150 : decode cX5_sums 150 = .ok (.imul, 1) := by decide +kernel
theorem dX5_sums_151 : decode cX5_sums 151 = .ok (.aload_n 0, 1) := by decide +kernel
theorem dX5_sums_152 : decode cX5_sums 152 = .ok (.getfield 57, 3) := by decide +kernel
theorem dX5_sums_155 : decode cX5_sums 155 = .ok (.iadd, 1) := by decide +kernel
theorem dX5_sums_156 : decode cX5_sums 156 = .ok (.if_icmp .ge 61, 3) := by decide +kernel
theorem dX5_sums_159 : decode cX5_sums 159 = .ok (.iload_n 2, 1) := by decide +kernel
theorem dX5_sums_160 : decode cX5_sums 160 = .ok (.ifCond .le 23, 3) := by decide +kernel
theorem dX5_sums_163 : decode cX5_sums 163 = .ok (.aload_n 0, 1) := by decide +kernel
theorem dX5_sums_164 : decode cX5_sums 164 = .ok (.aload_n 0, 1) := by decide +kernel
theorem dX5_sums_165 : decode cX5_sums 165 = .ok (.getfield 54, 3) := by decide +kernel
theorem dX5_sums_168 : decode cX5_sums 168 = .ok (.iload_n 2, 1) := by decide +kernel
theorem dX5_sums_169 : decode cX5_sums 169 = .ok (.iconst 1, 1) := by decide +kernel
theorem dX5_sums_170 : decode cX5_sums 170 = .ok (.isub, 1) := by decide +kernel
theorem dX5_sums_171 : decode cX5_sums 171 = .ok (.iaload, 1) := by decide +kernel
theorem dX5_sums_172 : decode cX5_sums 172 = .ok (.iload 4, 2) := by decide +kernel
theorem dX5_sums_174 : decode cX5_sums 174 = .ok (.invokevirtual 196, 3) := by decide +kernel
theorem dX5_sums_177 : decode cX5_sums 177 = .ok (.ifCond .ne 6, 3) := by decide +kernel
theorem dX5_sums_180 : decode cX5_sums 180 = .ok (.goto 31, 3) := by decide +kernel
theorem dX5_sums_183 : decode cX5_sums 183 = .ok (.iload_n 3, 1) := by decide +kernel
theorem dX5_sums_184 : decode cX5_sums 184 = .ok (.iconst (-1), 1) := by decide +kernel
theorem dX5_sums_185 : decode cX5_sums 185 = .ok (.if_icmp .eq 23, 3) := by decide +kernel
theorem dX5_sums_188 : decode cX5_sums 188 = .ok (.iload_n 1, 1) := by decide +kernel
theorem dX5_sums_189 : decode cX5_sums 189 = .ok (.aload_n 0, 1) := by decide +kernel
theorem dX5_sums_190 : decode cX5_sums 190 = .ok (.getfield 51, 3) := by decide +kernel
theorem dX5_sums_193 : decode cX5_sums 193 = .ok (.iload 4, 2) := by decide +kernel
theorem dX5_sums_195 : decode cX5_sums 195 = .ok (.iaload, 1) := by decide +kernel
theorem dX5_sums_196 : decode cX5_sums 196 = .ok (.imul, 1) := by decide +kernel
theorem dX5_sums_197 : decode cX5_sums 197 = .ok (.iload_n 1, 1) := by decide +kernel
theorem dX5_sums_198 : decode cX5_sums 198 = .ok (.aload_n 0, 1) := by decide +kernel
theorem dX5_sums_199 : decode cX5_sums 199 = .ok (.getfield 51, 3) := by decide +kernel
theorem dX5_sums_202 : decode cX5_sums 202 = .ok (.iload_n 3, 1) := by decide +kernel
theorem dX5_sums_203 : decode cX5_sums 203 = .ok (.iaload, 1) := by decide +kernel
theorem dX5_sums_204 : decode cX5_sums 204 = .ok (.imul, 1) := by decide +kernel
theorem dX5_sums_205 : decode cX5_sums 205 = .ok (.if_icmp .ge 6, 3) := by decide +kernel
theorem dX5_sums_208 : decode cX5_sums 208 = .ok (.iload 4, 2) := by decide +kernel
theorem dX5_sums_210 : decode cX5_sums 210 = .ok (.istore_n 3, 1) := by decide +kernel
theorem dX5_sums_211 : decode cX5_sums 211 = .ok (.iinc 4 1, 3) := by decide +kernel
theorem dX5_sums_214 : decode cX5_sums 214 = .ok (.goto (-71), 3) := by decide +kernel
theorem dX5_sums_217 : decode cX5_sums 217 = .ok (.aload_n 0, 1) := by decide +kernel
theorem dX5_sums_218 : decode cX5_sums 218 = .ok (.getfield 54, 3) := by decide +kernel
theorem dX5_sums_221 : decode cX5_sums 221 = .ok (.iload_n 2, 1) := by decide +kernel
theorem dX5_sums_222 : decode cX5_sums 222 = .ok (.iload_n 3, 1) := by decide +kernel
theorem dX5_sums_223 : decode cX5_sums 223 = .ok (.iastore, 1) := by decide +kernel
theorem dX5_sums_224 : decode cX5_sums 224 = .ok (.iinc 2 1, 3) := by decide +kernel
theorem dX5_sums_227 : decode cX5_sums 227 = .ok (.goto (-102), 3) := by decide +kernel
theorem dX5_sums_230 : decode cX5_sums 230 = .ok (.aload_n 0, 1) := by decide +kernel
theorem dX5_sums_231 : decode cX5_sums 231 = .ok (.getfield 51, 3) := by decide +kernel
theorem dX5_sums_234 : decode cX5_sums 234 = .ok (.aload_n 0, 1) := by decide +kernel
theorem dX5_sums_235 : decode cX5_sums 235 = .ok (.getfield 54, 3) := by decide +kernel
theorem dX5_sums_238 : decode cX5_sums 238 = .ok (.iconst 0, 1) := by decide +kernel
theorem dX5_sums_239 : decode cX5_sums 239 = .ok (.iaload, 1) := by decide +kernel
theorem dX5_sums_240 : decode cX5_sums 240 = .ok (.iaload, 1) := by decide +kernel
theorem dX5_sums_241 : decode cX5_sums 241 = .ok (.ireturn, 1) := by decide +kernel
theorem dX5_quiet_0 : decode cX5_quiet 0 = .ok (.aload_n 0, 1) := by decide +kernel
theorem dX5_quiet_1 : decode cX5_quiet 1 = .ok (.iload_n 1, 1) := by decide +kernel
theorem dX5_quiet_2 : decode cX5_quiet 2 = .ok (.invokevirtual 202, 3) := by decide +kernel
theorem dX5_quiet_5 : decode cX5_quiet 5 = .ok (.aload_n 0, 1) := by decide +kernel
theorem dX5_quiet_6 : decode cX5_quiet 6 = .ok (.iconst 1, 1) := by decide +kernel
theorem dX5_quiet_7 : decode cX5_quiet 7 = .ok (.invokevirtual 206, 3) := by decide +kernel
theorem dX5_quiet_10 : decode cX5_quiet 10 = .ok (.ireturn, 1) := by decide +kernel
theorem dX5_quietest_0 : decode cX5_quietest 0 = .ok (.aload_n 0, 1) := by decide +kernel
theorem dX5_quietest_1 : decode cX5_quietest 1 = .ok (.iload_n 1, 1) := by decide +kernel
theorem dX5_quietest_2 : decode cX5_quietest 2 = .ok (.invokevirtual 92, 3) := by decide +kernel
theorem dX5_quietest_5 : decode cX5_quietest 5 = .ok (.ifCond .eq 11, 3) := by decide +kernel
theorem dX5_quietest_8 : decode cX5_quietest 8 = .ok (.aload_n 0, 1) := by decide +kernel
theorem dX5_quietest_9 : decode cX5_quietest 9 = .ok (.iload_n 2, 1) := by decide +kernel
theorem dX5_quietest_10 : decode cX5_quietest 10 = .ok (.invokevirtual 209, 3) := by decide +kernel
theorem dX5_quietest_13 : decode cX5_quietest 13 = .ok (.ifCond .ne 10, 3) := by decide +kernel
theorem dX5_quietest_16 : decode cX5_quietest 16 = .ok (.aload_n 0, 1) := by decide +kernel
theorem dX5_quietest_17 : decode cX5_quietest 17 = .ok (.bipush (-2), 2) := by decide +kernel
theorem dX5_quietest_19 : decode cX5_quietest 19 = .ok (.invokevirtual 78, 3) := by decide +kernel
theorem dX5_quietest_22 : decode cX5_quietest 22 = .ok (.ireturn, 1) := by decide +kernel
theorem dX5_quietest_23 : decode cX5_quietest 23 = .ok (.aload_n 0, 1) := by decide +kernel
theorem dX5_quietest_24 : decode cX5_quietest 24 = .ok (.iload_n 1, 1) := by decide +kernel
theorem dX5_quietest_25 : decode cX5_quietest 25 = .ok (.invokevirtual 212, 3) := by decide +kernel
theorem dX5_quietest_28 : decode cX5_quietest 28 = .ok (.istore_n 3, 1) := by decide +kernel
theorem dX5_quietest_29 : decode cX5_quietest 29 = .ok (.iload_n 2, 1) := by decide +kernel
theorem dX5_quietest_30 : decode cX5_quietest 30 = .ok (.iconst (-1), 1) := by decide +kernel
theorem dX5_quietest_31 : decode cX5_quietest 31 = .ok (.if_icmp .ne 7, 3) := by decide +kernel
theorem dX5_quietest_34 : decode cX5_quietest 34 = .ok (.iload_n 3, 1) := by decide +kernel
theorem dX5_quietest_35 : decode cX5_quietest 35 = .ok (.goto 9, 3) := by decide +kernel
theorem dX5_quietest_38 : decode cX5_quietest 38 = .ok (.aload_n 0, 1) := by decide +kernel
theorem dX5_quietest_39 : decode cX5_quietest 39 = .ok (.getfield 54, 3) := by decide +kernel
theorem dX5_quietest_42 : decode cX5_quietest 42 = .ok (.iload_n 2, 1) := by decide +kernel
theorem dX5_quietest_43 : decode cX5_quietest 43 = .ok (.iaload, 1) := by decide +kernel
theorem dX5_quietest_44 : decode cX5_quietest 44 = .ok (.ireturn, 1) := by decide +kernel
theorem dX5_loudest_0 : decode cX5_loudest 0 = .ok (.aload_n 0, 1) := by decide +kernel
theorem dX5_loudest_1 : decode cX5_loudest 1 = .ok (.iload_n 1, 1) := by decide +kernel
theorem dX5_loudest_2 : decode cX5_loudest 2 = .ok (.invokevirtual 92, 3) := by decide +kernel
theorem dX5_loudest_5 : decode cX5_loudest 5 = .ok (.ifCond .eq 11, 3) := by decide +kernel
theorem dX5_loudest_8 : decode cX5_loudest 8 = .ok (.aload_n 0, 1) := by decide +kernel
theorem dX5_loudest_9 : decode cX5_loudest 9 = .ok (.iload_n 2, 1) := by decide +kernel
theorem dX5_loudest_10 : decode cX5_loudest 10 = .ok (.invokevirtual 209, 3) := by decide +kernel
theorem dX5_loudest_13 : decode cX5_loudest 13 = .ok (.ifCond .ne 10, 3) := by decide +kernel
theorem dX5_loudest_16 : decode cX5_loudest 16 = .ok (.aload_n 0, 1) := by decide +kernel
theorem dX5_loudest_17 : decode cX5_loudest 17 = .ok (.bipush (-2), 2) := by decide +kernel
theorem dX5_loudest_19 : decode cX5_loudest 19 = .ok (.invokevirtual 78, 3) := by decide +kernel
theorem dX5_loudest_22 : decode cX5_loudest 22 = .ok (.ireturn, 1) := by decide +kernel
theorem dX5_loudest_23 : decode cX5_loudest 23 = .ok (.aload_n 0, 1) := by decide +kernel
theorem dX5_loudest_24 : decode cX5_loudest 24 = .ok (.iload_n 1, 1) := by decide +kernel
theorem dX5_loudest_25 : decode cX5_loudest 25 = .ok (.invokevirtual 202, 3) := by decide +kernel
theorem dX5_loudest_28 : decode cX5_loudest 28 = .ok (.aload_n 0, 1) := by decide +kernel
theorem dX5_loudest_29 : decode cX5_loudest 29 = .ok (.iconst (-1), 1) := by decide +kernel
theorem dX5_loudest_30 : decode cX5_loudest 30 = .ok (.invokevirtual 206, 3) := by decide +kernel
theorem dX5_loudest_33 : decode cX5_loudest 33 = .ok (.istore_n 3, 1) := by decide +kernel
theorem dX5_loudest_34 : decode cX5_loudest 34 = .ok (.iload_n 2, 1) := by decide +kernel
theorem dX5_loudest_35 : decode cX5_loudest 35 = .ok (.iconst (-1), 1) := by decide +kernel
theorem dX5_loudest_36 : decode cX5_loudest 36 = .ok (.if_icmp .ne 7, 3) := by decide +kernel
theorem dX5_loudest_39 : decode cX5_loudest 39 = .ok (.iload_n 3, 1) := by decide +kernel
theorem dX5_loudest_40 : decode cX5_loudest 40 = .ok (.goto 9, 3) := by decide +kernel
theorem dX5_loudest_43 : decode cX5_loudest 43 = .ok (.aload_n 0, 1) := by decide +kernel
theorem dX5_loudest_44 : decode cX5_loudest 44 = .ok (.getfield 54, 3) := by decide +kernel
theorem dX5_loudest_47 : decode cX5_loudest 47 = .ok (.iload_n 2, 1) := by decide +kernel
theorem dX5_loudest_48 : decode cX5_loudest 48 = .ok (.iaload, 1) := by decide +kernel
theorem dX5_loudest_49 : decode cX5_loudest 49 = .ok (.ireturn, 1) := by decide +kernel
theorem dX5_upTo_0 : decode cX5_upTo 0 = .ok (.iconst 0, 1) := by decide +kernel
theorem dX5_upTo_1 : decode cX5_upTo 1 = .ok (.istore_n 2, 1) := by decide +kernel
theorem dX5_upTo_2 : decode cX5_upTo 2 = .ok (.iload_n 2, 1) := by decide +kernel
theorem dX5_upTo_3 : decode cX5_upTo 3 = .ok (.aload_n 0, 1) := by decide +kernel
theorem dX5_upTo_4 : decode cX5_upTo 4 = .ok (.getfield 57, 3) := by decide +kernel
theorem dX5_upTo_7 : decode cX5_upTo 7 = .ok (.aload_n 0, 1) := by decide +kernel
theorem dX5_upTo_8 : decode cX5_upTo 8 = .ok (.getfield 57, 3) := by decide +kernel
theorem dX5_upTo_11 : decode cX5_upTo 11 = .ok (.imul, 1) := by decide +kernel
theorem dX5_upTo_12 : decode cX5_upTo 12 = .ok (.if_icmp .ge 30, 3) := by decide +kernel
theorem dX5_upTo_15 : decode cX5_upTo 15 = .ok (.aload_n 0, 1) := by decide +kernel
theorem dX5_upTo_16 : decode cX5_upTo 16 = .ok (.getfield 47, 3) := by decide +kernel
theorem dX5_upTo_19 : decode cX5_upTo 19 = .ok (.iload_n 2, 1) := by decide +kernel
theorem dX5_upTo_20 : decode cX5_upTo 20 = .ok (.aload_n 0, 1) := by decide +kernel
theorem dX5_upTo_21 : decode cX5_upTo 21 = .ok (.getfield 44, 3) := by decide +kernel
theorem dX5_upTo_24 : decode cX5_upTo 24 = .ok (.iload_n 2, 1) := by decide +kernel
theorem dX5_upTo_25 : decode cX5_upTo 25 = .ok (.iaload, 1) := by decide +kernel
theorem dX5_upTo_26 : decode cX5_upTo 26 = .ok (.iload_n 1, 1) := by decide +kernel
theorem dX5_upTo_27 : decode cX5_upTo 27 = .ok (.if_icmp .gt 7, 3) := by decide +kernel
theorem dX5_upTo_30 : decode cX5_upTo 30 = .ok (.iconst 1, 1) := by decide +kernel
theorem dX5_upTo_31 : decode cX5_upTo 31 = .ok (.goto 4, 3) := by decide +kernel
theorem dX5_upTo_34 : decode cX5_upTo 34 = .ok (.iconst 0, 1) := by decide +kernel
theorem dX5_upTo_35 : decode cX5_upTo 35 = .ok (.bastore, 1) := by decide +kernel
theorem dX5_upTo_36 : decode cX5_upTo 36 = .ok (.iinc 2 1, 3) := by decide +kernel
theorem dX5_upTo_39 : decode cX5_upTo 39 = .ok (.goto (-37), 3) := by decide +kernel
theorem dX5_upTo_42 : decode cX5_upTo 42 = .ok (.aload_n 0, 1) := by decide +kernel
theorem dX5_upTo_43 : decode cX5_upTo 43 = .ok (.invokevirtual 199, 3) := by decide +kernel
theorem dX5_upTo_46 : decode cX5_upTo 46 = .ok (.ireturn, 1) := by decide +kernel
theorem dX5_softest_0 : decode cX5_softest 0 = .ok (.aload_n 0, 1) := by decide +kernel
theorem dX5_softest_1 : decode cX5_softest 1 = .ok (.iload_n 1, 1) := by decide +kernel
theorem dX5_softest_2 : decode cX5_softest 2 = .ok (.invokevirtual 92, 3) := by decide +kernel
theorem dX5_softest_5 : decode cX5_softest 5 = .ok (.ifCond .eq 11, 3) := by decide +kernel
theorem dX5_softest_8 : decode cX5_softest 8 = .ok (.aload_n 0, 1) := by decide +kernel
theorem dX5_softest_9 : decode cX5_softest 9 = .ok (.iload_n 2, 1) := by decide +kernel
theorem dX5_softest_10 : decode cX5_softest 10 = .ok (.invokevirtual 209, 3) := by decide +kernel

theorem dX5_arrivals_25 : decode cX5_arrivals 25 = .ok (.bipush (-5), 2) := by decide +kernel
theorem dX5_arrivals_27 : decode cX5_arrivals 27 = .ok (.invokevirtual 78, 3) := by decide +kernel
theorem dX5_arrivals_30 : decode cX5_arrivals 30 = .ok (.ireturn, 1) := by decide +kernel
theorem dX5_arrivals_31 : decode cX5_arrivals 31 = .ok (.iconst 0, 1) := by decide +kernel
theorem dX5_arrivals_32 : decode cX5_arrivals 32 = .ok (.istore_n 2, 1) := by decide +kernel
theorem dX5_arrivals_33 : decode cX5_arrivals 33 = .ok (.iconst 0, 1) := by decide +kernel
theorem dX5_arrivals_34 : decode cX5_arrivals 34 = .ok (.istore_n 3, 1) := by decide +kernel
theorem dX5_arrivals_35 : decode cX5_arrivals 35 = .ok (.iload_n 3, 1) := by decide +kernel
theorem dX5_arrivals_36 : decode cX5_arrivals 36 = .ok (.iload_n 1, 1) := by decide +kernel
theorem dX5_arrivals_37 : decode cX5_arrivals 37 = .ok (.if_icmp .ge 120, 3) := by decide +kernel
theorem dX5_arrivals_40 : decode cX5_arrivals 40 = .ok (.aload_n 0, 1) := by decide +kernel
theorem dX5_arrivals_41 : decode cX5_arrivals 41 = .ok (.aload_n 0, 1) := by decide +kernel
theorem dX5_arrivals_42 : decode cX5_arrivals 42 = .ok (.invokevirtual 256, 3) := by decide +kernel
theorem dX5_arrivals_45 : decode cX5_arrivals 45 = .ok (.invokevirtual 297, 3) := by decide +kernel
theorem dX5_arrivals_48 : decode cX5_arrivals 48 = .ok (.istore 4, 2) := by decide +kernel
theorem dX5_arrivals_50 : decode cX5_arrivals 50 = .ok (.iconst 0, 1) := by decide +kernel
theorem dX5_arrivals_51 : decode cX5_arrivals 51 = .ok (.istore 5, 2) := by decide +kernel
theorem dX5_arrivals_53 : decode cX5_arrivals 53 = .ok (.iload 4, 2) := by decide +kernel
theorem dX5_arrivals_55 : decode cX5_arrivals 55 = .ok (.aload_n 0, 1) := by decide +kernel
theorem dX5_arrivals_56 : decode cX5_arrivals 56 = .ok (.getfield 19, 3) := by decide +kernel
theorem dX5_arrivals_59 : decode cX5_arrivals 59 = .ok (.iload 5, 2) := by decide +kernel
theorem dX5_arrivals_61 : decode cX5_arrivals 61 = .ok (.iaload, 1) := by decide +kernel
theorem dX5_arrivals_62 : decode cX5_arrivals 62 = .ok (.if_icmp .lt 21, 3) := by decide +kernel
theorem dX5_arrivals_65 : decode cX5_arrivals 65 = .ok (.iload 4, 2) := by decide +kernel
theorem dX5_arrivals_67 : decode cX5_arrivals 67 = .ok (.aload_n 0, 1) := by decide +kernel
theorem dX5_arrivals_68 : decode cX5_arrivals 68 = .ok (.getfield 19, 3) := by decide +kernel
theorem dX5_arrivals_71 : decode cX5_arrivals 71 = .ok (.iload 5, 2) := by decide +kernel
theorem dX5_arrivals_73 : decode cX5_arrivals 73 = .ok (.iaload, 1) := by decide +kernel
theorem dX5_arrivals_74 : decode cX5_arrivals 74 = .ok (.isub, 1) := by decide +kernel
theorem dX5_arrivals_75 : decode cX5_arrivals 75 = .ok (.istore 4, 2) := by decide +kernel
theorem dX5_arrivals_77 : decode cX5_arrivals 77 = .ok (.iinc 5 1, 3) := by decide +kernel
theorem dX5_arrivals_80 : decode cX5_arrivals 80 = .ok (.goto (-27), 3) := by decide +kernel
theorem dX5_arrivals_83 : decode cX5_arrivals 83 = .ok (.aload_n 0, 1) := by decide +kernel
theorem dX5_arrivals_84 : decode cX5_arrivals 84 = .ok (.aload_n 0, 1) := by decide +kernel
theorem dX5_arrivals_85 : decode cX5_arrivals 85 = .ok (.getfield 57, 3) := by decide +kernel
theorem dX5_arrivals_88 : decode cX5_arrivals 88 = .ok (.invokevirtual 297, 3) := by decide +kernel
theorem dX5_arrivals_91 : decode cX5_arrivals 91 = .ok (.istore 6, 2) := by decide +kernel
theorem dX5_arrivals_93 : decode cX5_arrivals 93 = .ok (.iconst 0, 1) := by decide +kernel
theorem dX5_arrivals_94 : decode cX5_arrivals 94 = .ok (.istore 7, 2) := by decide +kernel
theorem dX5_arrivals_96 : decode cX5_arrivals 96 = .ok (.iconst 0, 1) := by decide +kernel
theorem dX5_arrivals_97 : decode cX5_arrivals 97 = .ok (.istore 8, 2) := by decide +kernel
theorem dX5_arrivals_99 : decode cX5_arrivals 99 = .ok (.iload 8, 2) := by decide +kernel
theorem dX5_arrivals_101 : decode cX5_arrivals 101 = .ok (.aload_n 0, 1) := by decide +kernel
theorem dX5_arrivals_102 : decode cX5_arrivals 102 = .ok (.getfield 67, 3) := by decide +kernel
theorem dX5_arrivals_105 : decode cX5_arrivals 105 = .ok (.if_icmp .ge 32, 3) := by decide +kernel
theorem dX5_arrivals_108 : decode cX5_arrivals 108 = .ok (.aload_n 0, 1) := by decide +kernel
theorem dX5_arrivals_109 : decode cX5_arrivals 109 = .ok (.iload 5, 2) := by decide +kernel
theorem dX5_arrivals_111 : decode cX5_arrivals 111 = .ok (.iload 8, 2) := by decide +kernel
theorem dX5_arrivals_113 : decode cX5_arrivals 113 = .ok (.iload 6, 2) := by decide +kernel
theorem dX5_arrivals_115 : decode cX5_arrivals 115 = .ok (.invokevirtual 250, 3) := by decide +kernel
theorem dX5_arrivals_118 : decode cX5_arrivals 118 = .ok (.iconst (-1), 1) := by decide +kernel
theorem dX5_arrivals_119 : decode cX5_arrivals 119 = .ok (.if_icmp .ne 12, 3) := by decide +kernel
theorem dX5_arrivals_122 : decode cX5_arrivals 122 = .ok (.iload 7, 2) := by decide +kernel
theorem dX5_arrivals_124 : decode cX5_arrivals 124 = .ok (.iconst 1, 1) := by decide +kernel
theorem dX5_arrivals_125 : decode cX5_arrivals 125 = .ok (.iload 8, 2) := by decide +kernel
theorem dX5_arrivals_127 : decode cX5_arrivals 127 = .ok (.ishl, 1) := by decide +kernel
theorem dX5_arrivals_128 : decode cX5_arrivals 128 = .ok (.ior, 1) := by decide +kernel
theorem dX5_arrivals_129 : decode cX5_arrivals 129 = .ok (.istore 7, 2) := by decide +kernel
theorem dX5_arrivals_131 : decode cX5_arrivals 131 = .ok (.iinc 8 1, 3) := by decide +kernel
theorem dX5_arrivals_134 : decode cX5_arrivals 134 = .ok (.goto (-35), 3) := by decide +kernel
theorem dX5_arrivals_137 : decode cX5_arrivals 137 = .ok (.aload_n 0, 1) := by decide +kernel
theorem dX5_arrivals_138 : decode cX5_arrivals 138 = .ok (.iload 7, 2) := by decide +kernel
theorem dX5_arrivals_140 : decode cX5_arrivals 140 = .ok (.invokevirtual 272, 3) := by decide +kernel
theorem dX5_arrivals_143 : decode cX5_arrivals 143 = .ok (.iload 5, 2) := by decide +kernel
theorem dX5_arrivals_145 : decode cX5_arrivals 145 = .ok (.if_icmp .ne 6, 3) := by decide +kernel
theorem dX5_arrivals_148 : decode cX5_arrivals 148 = .ok (.iinc 2 1, 3) := by decide +kernel
theorem dX5_arrivals_151 : decode cX5_arrivals 151 = .ok (.iinc 3 1, 3) := by decide +kernel
theorem dX5_arrivals_154 : decode cX5_arrivals 154 = .ok (.goto (-119), 3) := by decide +kernel
theorem dX5_arrivals_157 : decode cX5_arrivals 157 = .ok (.iload_n 2, 1) := by decide +kernel
theorem dX5_arrivals_158 : decode cX5_arrivals 158 = .ok (.ireturn, 1) := by decide +kernel
theorem dX5_seed_0 : decode cX5_seed 0 = .ok (.aload_n 0, 1) := by decide +kernel
theorem dX5_seed_1 : decode cX5_seed 1 = .ok (.getfield 64, 3) := by decide +kernel
theorem dX5_seed_4 : decode cX5_seed 4 = .ok (.istore_n 2, 1) := by decide +kernel
theorem dX5_seed_5 : decode cX5_seed 5 = .ok (.aload_n 0, 1) := by decide +kernel
theorem dX5_seed_6 : decode cX5_seed 6 = .ok (.iload_n 1, 1) := by decide +kernel
theorem dX5_seed_7 : decode cX5_seed 7 = .ok (.putfield 64, 3) := by decide +kernel
theorem dX5_seed_10 : decode cX5_seed 10 = .ok (.iload_n 2, 1) := by decide +kernel
theorem dX5_seed_11 : decode cX5_seed 11 = .ok (.ireturn, 1) := by decide +kernel
theorem dX5_keep_0 : decode cX5_keep 0 = .ok (.iconst 0, 1) := by decide +kernel
theorem dX5_keep_1 : decode cX5_keep 1 = .ok (.istore_n 2, 1) := by decide +kernel
theorem dX5_keep_2 : decode cX5_keep 2 = .ok (.iload_n 2, 1) := by decide +kernel
theorem dX5_keep_3 : decode cX5_keep 3 = .ok (.bipush 36, 2) := by decide +kernel
theorem dX5_keep_5 : decode cX5_keep 5 = .ok (.if_icmp .ge 18, 3) := by decide +kernel
theorem dX5_keep_8 : decode cX5_keep 8 = .ok (.aload_n 1, 1) := by decide +kernel
theorem dX5_keep_9 : decode cX5_keep 9 = .ok (.iload_n 2, 1) := by decide +kernel
theorem dX5_keep_10 : decode cX5_keep 10 = .ok (.aload_n 0, 1) := by decide +kernel
theorem dX5_keep_11 : decode cX5_keep 11 = .ok (.getfield 7, 3) := by decide +kernel
theorem dX5_keep_14 : decode cX5_keep 14 = .ok (.iload_n 2, 1) := by decide +kernel
theorem dX5_keep_15 : decode cX5_keep 15 = .ok (.iaload, 1) := by decide +kernel
theorem dX5_keep_16 : decode cX5_keep 16 = .ok (.iastore, 1) := by decide +kernel
theorem dX5_keep_17 : decode cX5_keep 17 = .ok (.iinc 2 1, 3) := by decide +kernel
theorem dX5_keep_20 : decode cX5_keep 20 = .ok (.goto (-18), 3) := by decide +kernel
theorem dX5_keep_23 : decode cX5_keep 23 = .ok (.iconst 0, 1) := by decide +kernel
theorem dX5_keep_24 : decode cX5_keep 24 = .ok (.istore_n 2, 1) := by decide +kernel
theorem dX5_keep_25 : decode cX5_keep 25 = .ok (.iload_n 2, 1) := by decide +kernel
theorem dX5_keep_26 : decode cX5_keep 26 = .ok (.bipush 8, 2) := by decide +kernel
theorem dX5_keep_28 : decode cX5_keep 28 = .ok (.if_icmp .ge 45, 3) := by decide +kernel
theorem dX5_keep_31 : decode cX5_keep 31 = .ok (.aload_n 1, 1) := by decide +kernel
theorem dX5_keep_32 : decode cX5_keep 32 = .ok (.bipush 36, 2) := by decide +kernel
theorem dX5_keep_34 : decode cX5_keep 34 = .ok (.iload_n 2, 1) := by decide +kernel
theorem dX5_keep_35 : decode cX5_keep 35 = .ok (.iadd, 1) := by decide +kernel
theorem dX5_keep_36 : decode cX5_keep 36 = .ok (.aload_n 0, 1) := by decide +kernel
theorem dX5_keep_37 : decode cX5_keep 37 = .ok (.getfield 13, 3) := by decide +kernel
theorem dX5_keep_40 : decode cX5_keep 40 = .ok (.iload_n 2, 1) := by decide +kernel
theorem dX5_keep_41 : decode cX5_keep 41 = .ok (.iaload, 1) := by decide +kernel
theorem dX5_keep_42 : decode cX5_keep 42 = .ok (.iastore, 1) := by decide +kernel
theorem dX5_keep_43 : decode cX5_keep 43 = .ok (.aload_n 1, 1) := by decide +kernel
theorem dX5_keep_44 : decode cX5_keep 44 = .ok (.bipush 44, 2) := by decide +kernel
theorem dX5_keep_46 : decode cX5_keep 46 = .ok (.iload_n 2, 1) := by decide +kernel
theorem dX5_keep_47 : decode cX5_keep 47 = .ok (.iadd, 1) := by decide +kernel
theorem dX5_keep_48 : decode cX5_keep 48 = .ok (.aload_n 0, 1) := by decide +kernel
theorem dX5_keep_49 : decode cX5_keep 49 = .ok (.getfield 16, 3) := by decide +kernel
theorem dX5_keep_52 : decode cX5_keep 52 = .ok (.iload_n 2, 1) := by decide +kernel
theorem dX5_keep_53 : decode cX5_keep 53 = .ok (.iaload, 1) := by decide +kernel
theorem dX5_keep_54 : decode cX5_keep 54 = .ok (.iastore, 1) := by decide +kernel
theorem dX5_keep_55 : decode cX5_keep 55 = .ok (.aload_n 1, 1) := by decide +kernel
theorem dX5_keep_56 : decode cX5_keep 56 = .ok (.bipush 52, 2) := by decide +kernel
theorem dX5_keep_58 : decode cX5_keep 58 = .ok (.iload_n 2, 1) := by decide +kernel
theorem dX5_keep_59 : decode cX5_keep 59 = .ok (.iadd, 1) := by decide +kernel
theorem dX5_keep_60 : decode cX5_keep 60 = .ok (.aload_n 0, 1) := by decide +kernel
theorem dX5_keep_61 : decode cX5_keep 61 = .ok (.getfield 19, 3) := by decide +kernel
theorem dX5_keep_64 : decode cX5_keep 64 = .ok (.iload_n 2, 1) := by decide +kernel
theorem dX5_keep_65 : decode cX5_keep 65 = .ok (.iaload, 1) := by decide +kernel
theorem dX5_keep_66 : decode cX5_keep 66 = .ok (.iastore, 1) := by decide +kernel
theorem dX5_keep_67 : decode cX5_keep 67 = .ok (.iinc 2 1, 3) := by decide +kernel
theorem dX5_keep_70 : decode cX5_keep 70 = .ok (.goto (-45), 3) := by decide +kernel
theorem dX5_keep_73 : decode cX5_keep 73 = .ok (.aload_n 1, 1) := by decide +kernel
theorem dX5_keep_74 : decode cX5_keep 74 = .ok (.bipush 60, 2) := by decide +kernel
theorem dX5_keep_76 : decode cX5_keep 76 = .ok (.aload_n 0, 1) := by decide +kernel
theorem dX5_keep_77 : decode cX5_keep 77 = .ok (.getfield 57, 3) := by decide +kernel
theorem dX5_keep_80 : decode cX5_keep 80 = .ok (.iastore, 1) := by decide +kernel
theorem dX5_keep_81 : decode cX5_keep 81 = .ok (.aload_n 1, 1) := by decide +kernel
theorem dX5_keep_82 : decode cX5_keep 82 = .ok (.bipush 61, 2) := by decide +kernel
theorem dX5_keep_84 : decode cX5_keep 84 = .ok (.aload_n 0, 1) := by decide +kernel
theorem dX5_keep_85 : decode cX5_keep 85 = .ok (.getfield 103, 3) := by decide +kernel
theorem dX5_keep_88 : decode cX5_keep 88 = .ok (.iastore, 1) := by decide +kernel
theorem dX5_keep_89 : decode cX5_keep 89 = .ok (.aload_n 1, 1) := by decide +kernel
theorem dX5_keep_90 : decode cX5_keep 90 = .ok (.bipush 62, 2) := by decide +kernel
theorem dX5_keep_92 : decode cX5_keep 92 = .ok (.aload_n 0, 1) := by decide +kernel
theorem dX5_keep_93 : decode cX5_keep 93 = .ok (.getfield 61, 3) := by decide +kernel
theorem dX5_keep_96 : decode cX5_keep 96 = .ok (.iastore, 1) := by decide +kernel
theorem dX5_keep_97 : decode cX5_keep 97 = .ok (.aload_n 1, 1) := by decide +kernel
theorem dX5_keep_98 : decode cX5_keep 98 = .ok (.bipush 63, 2) := by decide +kernel
theorem dX5_keep_100 : decode cX5_keep 100 = .ok (.aload_n 0, 1) := by decide +kernel
theorem dX5_keep_101 : decode cX5_keep 101 = .ok (.getfield 67, 3) := by decide +kernel
theorem dX5_keep_104 : decode cX5_keep 104 = .ok (.iastore, 1) := by decide +kernel
theorem dX5_keep_105 : decode cX5_keep 105 = .ok (.aload_n 1, 1) := by decide +kernel
theorem dX5_keep_106 : decode cX5_keep 106 = .ok (.bipush 64, 2) := by decide +kernel
theorem dX5_keep_108 : decode cX5_keep 108 = .ok (.aload_n 0, 1) := by decide +kernel
theorem dX5_keep_109 : decode cX5_keep 109 = .ok (.getfield 64, 3) := by decide +kernel
theorem dX5_keep_112 : decode cX5_keep 112 = .ok (.iastore, 1) := by decide +kernel
theorem dX5_keep_113 : decode cX5_keep 113 = .ok (.return_, 1) := by decide +kernel
theorem dX5_again_0 : decode cX5_again 0 = .ok (.iconst 0, 1) := by decide +kernel
theorem dX5_again_1 : decode cX5_again 1 = .ok (.istore_n 2, 1) := by decide +kernel
theorem dX5_again_2 : decode cX5_again 2 = .ok (.iload_n 2, 1) := by decide +kernel
theorem dX5_again_3 : decode cX5_again 3 = .ok (.bipush 36, 2) := by decide +kernel
theorem dX5_again_5 : decode cX5_again 5 = .ok (.if_icmp .ge 18, 3) := by decide +kernel
theorem dX5_again_8 : decode cX5_again 8 = .ok (.aload_n 0, 1) := by decide +kernel
theorem dX5_again_9 : decode cX5_again 9 = .ok (.getfield 7, 3) := by decide +kernel
theorem dX5_again_12 : decode cX5_again 12 = .ok (.iload_n 2, 1) := by decide +kernel
theorem dX5_again_13 : decode cX5_again 13 = .ok (.aload_n 1, 1) := by decide +kernel
theorem dX5_again_14 : decode cX5_again 14 = .ok (.iload_n 2, 1) := by decide +kernel
theorem dX5_again_15 : decode cX5_again 15 = .ok (.iaload, 1) := by decide +kernel
theorem dX5_again_16 : decode cX5_again 16 = .ok (.iastore, 1) := by decide +kernel
theorem dX5_again_17 : decode cX5_again 17 = .ok (.iinc 2 1, 3) := by decide +kernel
theorem dX5_again_20 : decode cX5_again 20 = .ok (.goto (-18), 3) := by decide +kernel
theorem dX5_again_23 : decode cX5_again 23 = .ok (.iconst 0, 1) := by decide +kernel
theorem dX5_again_24 : decode cX5_again 24 = .ok (.istore_n 2, 1) := by decide +kernel
theorem dX5_again_25 : decode cX5_again 25 = .ok (.iload_n 2, 1) := by decide +kernel
theorem dX5_again_26 : decode cX5_again 26 = .ok (.bipush 8, 2) := by decide +kernel
theorem dX5_again_28 : decode cX5_again 28 = .ok (.if_icmp .ge 45, 3) := by decide +kernel
theorem dX5_again_31 : decode cX5_again 31 = .ok (.aload_n 0, 1) := by decide +kernel
theorem dX5_again_32 : decode cX5_again 32 = .ok (.getfield 13, 3) := by decide +kernel
theorem dX5_again_35 : decode cX5_again 35 = .ok (.iload_n 2, 1) := by decide +kernel
theorem dX5_again_36 : decode cX5_again 36 = .ok (.aload_n 1, 1) := by decide +kernel
theorem dX5_again_37 : decode cX5_again 37 = .ok (.bipush 36, 2) := by decide +kernel
theorem dX5_again_39 : decode cX5_again 39 = .ok (.iload_n 2, 1) := by decide +kernel
theorem dX5_again_40 : decode cX5_again 40 = .ok (.iadd, 1) := by decide +kernel
theorem dX5_again_41 : decode cX5_again 41 = .ok (.iaload, 1) := by decide +kernel
theorem dX5_again_42 : decode cX5_again 42 = .ok (.iastore, 1) := by decide +kernel
theorem dX5_again_43 : decode cX5_again 43 = .ok (.aload_n 0, 1) := by decide +kernel
theorem dX5_again_44 : decode cX5_again 44 = .ok (.getfield 16, 3) := by decide +kernel
theorem dX5_again_47 : decode cX5_again 47 = .ok (.iload_n 2, 1) := by decide +kernel
theorem dX5_again_48 : decode cX5_again 48 = .ok (.aload_n 1, 1) := by decide +kernel
theorem dX5_again_49 : decode cX5_again 49 = .ok (.bipush 44, 2) := by decide +kernel
theorem dX5_again_51 : decode cX5_again 51 = .ok (.iload_n 2, 1) := by decide +kernel
theorem dX5_again_52 : decode cX5_again 52 = .ok (.iadd, 1) := by decide +kernel
theorem dX5_again_53 : decode cX5_again 53 = .ok (.iaload, 1) := by decide +kernel
theorem dX5_again_54 : decode cX5_again 54 = .ok (.iastore, 1) := by decide +kernel
theorem dX5_again_55 : decode cX5_again 55 = .ok (.aload_n 0, 1) := by decide +kernel
theorem dX5_again_56 : decode cX5_again 56 = .ok (.getfield 19, 3) := by decide +kernel
theorem dX5_again_59 : decode cX5_again 59 = .ok (.iload_n 2, 1) := by decide +kernel
theorem dX5_again_60 : decode cX5_again 60 = .ok (.aload_n 1, 1) := by decide +kernel
theorem dX5_again_61 : decode cX5_again 61 = .ok (.bipush 52, 2) := by decide +kernel
theorem dX5_again_63 : decode cX5_again 63 = .ok (.iload_n 2, 1) := by decide +kernel
theorem dX5_again_64 : decode cX5_again 64 = .ok (.iadd, 1) := by decide +kernel
theorem dX5_again_65 : decode cX5_again 65 = .ok (.iaload, 1) := by decide +kernel
theorem dX5_again_66 : decode cX5_again 66 = .ok (.iastore, 1) := by decide +kernel
theorem dX5_again_67 : decode cX5_again 67 = .ok (.iinc 2 1, 3) := by decide +kernel
theorem dX5_again_70 : decode cX5_again 70 = .ok (.goto (-45), 3) := by decide +kernel
theorem dX5_again_73 : decode cX5_again 73 = .ok (.aload_n 0, 1) := by decide +kernel
theorem dX5_again_74 : decode cX5_again 74 = .ok (.aload_n 1, 1) := by decide +kernel
theorem dX5_again_75 : decode cX5_again 75 = .ok (.bipush 60, 2) := by decide +kernel
theorem dX5_again_77 : decode cX5_again 77 = .ok (.iaload, 1) := by decide +kernel
theorem dX5_again_78 : decode cX5_again 78 = .ok (.putfield 57, 3) := by decide +kernel
theorem dX5_again_81 : decode cX5_again 81 = .ok (.aload_n 0, 1) := by decide +kernel
theorem dX5_again_82 : decode cX5_again 82 = .ok (.aload_n 1, 1) := by decide +kernel
theorem dX5_again_83 : decode cX5_again 83 = .ok (.bipush 61, 2) := by decide +kernel
theorem dX5_again_85 : decode cX5_again 85 = .ok (.iaload, 1) := by decide +kernel
theorem dX5_again_86 : decode cX5_again 86 = .ok (.putfield 103, 3) := by decide +kernel
theorem dX5_again_89 : decode cX5_again 89 = .ok (.aload_n 0, 1) := by decide +kernel
theorem dX5_again_90 : decode cX5_again 90 = .ok (.aload_n 1, 1) := by decide +kernel
theorem dX5_again_91 : decode cX5_again 91 = .ok (.bipush 62, 2) := by decide +kernel
theorem dX5_again_93 : decode cX5_again 93 = .ok (.iaload, 1) := by decide +kernel
theorem dX5_again_94 : decode cX5_again 94 = .ok (.putfield 61, 3) := by decide +kernel
theorem dX5_again_97 : decode cX5_again 97 = .ok (.aload_n 0, 1) := by decide +kernel
theorem dX5_again_98 : decode cX5_again 98 = .ok (.aload_n 1, 1) := by decide +kernel
theorem dX5_again_99 : decode cX5_again 99 = .ok (.bipush 63, 2) := by decide +kernel
theorem dX5_again_101 : decode cX5_again 101 = .ok (.iaload, 1) := by decide +kernel
theorem dX5_again_102 : decode cX5_again 102 = .ok (.putfield 67, 3) := by decide +kernel
theorem dX5_again_105 : decode cX5_again 105 = .ok (.aload_n 0, 1) := by decide +kernel
theorem dX5_again_106 : decode cX5_again 106 = .ok (.aload_n 1, 1) := by decide +kernel
theorem dX5_again_107 : decode cX5_again 107 = .ok (.bipush 64, 2) := by decide +kernel
theorem dX5_again_109 : decode cX5_again 109 = .ok (.iaload, 1) := by decide +kernel
theorem dX5_again_110 : decode cX5_again 110 = .ok (.putfield 64, 3) := by decide +kernel
theorem dX5_again_113 : decode cX5_again 113 = .ok (.return_, 1) := by decide +kernel
theorem dX5_image_0 : decode cX5_image 0 = .ok (.aload_n 0, 1) := by decide +kernel
theorem dX5_image_1 : decode cX5_image 1 = .ok (.iconst 1, 1) := by decide +kernel
theorem dX5_image_2 : decode cX5_image 2 = .ok (.putfield 300, 3) := by decide +kernel
theorem dX5_image_5 : decode cX5_image 5 = .ok (.aload_n 0, 1) := by decide +kernel
theorem dX5_image_6 : decode cX5_image 6 = .ok (.aload_n 0, 1) := by decide +kernel
theorem dX5_image_7 : decode cX5_image 7 = .ok (.getfield 38, 3) := by decide +kernel
theorem dX5_image_10 : decode cX5_image 10 = .ok (.invokevirtual 179, 3) := by decide +kernel
theorem dX5_image_13 : decode cX5_image 13 = .ok (.iconst 1, 1) := by decide +kernel
theorem dX5_image_14 : decode cX5_image 14 = .ok (.ireturn, 1) := by decide +kernel
theorem dX5_back_0 : decode cX5_back 0 = .ok (.aload_n 0, 1) := by decide +kernel
theorem dX5_back_1 : decode cX5_back 1 = .ok (.getfield 300, 3) := by decide +kernel
theorem dX5_back_4 : decode cX5_back 4 = .ok (.ifCond .ne 10, 3) := by decide +kernel
theorem dX5_back_7 : decode cX5_back 7 = .ok (.aload_n 0, 1) := by decide +kernel
theorem dX5_back_8 : decode cX5_back 8 = .ok (.bipush (-5), 2) := by decide +kernel
theorem dX5_back_10 : decode cX5_back 10 = .ok (.invokevirtual 78, 3) := by decide +kernel
theorem dX5_back_13 : decode cX5_back 13 = .ok (.ireturn, 1) := by decide +kernel
theorem dX5_back_14 : decode cX5_back 14 = .ok (.aload_n 0, 1) := by decide +kernel
theorem dX5_back_15 : decode cX5_back 15 = .ok (.aload_n 0, 1) := by decide +kernel
theorem dX5_back_16 : decode cX5_back 16 = .ok (.getfield 38, 3) := by decide +kernel
theorem dX5_back_19 : decode cX5_back 19 = .ok (.invokevirtual 187, 3) := by decide +kernel
theorem dX5_back_22 : decode cX5_back 22 = .ok (.iconst 0, 1) := by decide +kernel
theorem dX5_back_23 : decode cX5_back 23 = .ok (.istore_n 1, 1) := by decide +kernel
theorem dX5_back_24 : decode cX5_back 24 = .ok (.iload_n 1, 1) := by decide +kernel
theorem dX5_back_25 : decode cX5_back 25 = .ok (.bipush 8, 2) := by decide +kernel
theorem dX5_back_27 : decode cX5_back 27 = .ok (.if_icmp .ge 32, 3) := by decide +kernel
theorem dX5_back_30 : decode cX5_back 30 = .ok (.aload_n 0, 1) := by decide +kernel
theorem dX5_back_31 : decode cX5_back 31 = .ok (.getfield 25, 3) := by decide +kernel
theorem dX5_back_34 : decode cX5_back 34 = .ok (.iload_n 1, 1) := by decide +kernel
theorem dX5_back_35 : decode cX5_back 35 = .ok (.iaload, 1) := by decide +kernel
theorem dX5_back_36 : decode cX5_back 36 = .ok (.bipush 10, 2) := by decide +kernel
theorem dX5_back_38 : decode cX5_back 38 = .ok (.aload_n 0, 1) := by decide +kernel
theorem dX5_back_39 : decode cX5_back 39 = .ok (.getfield 67, 3) := by decide +kernel
theorem dX5_back_42 : decode cX5_back 42 = .ok (.iadd, 1) := by decide +kernel
theorem dX5_back_43 : decode cX5_back 43 = .ok (.if_icmp .lt 10, 3) := by decide +kernel
theorem dX5_back_46 : decode cX5_back 46 = .ok (.aload_n 0, 1) := by decide +kernel
theorem dX5_back_47 : decode cX5_back 47 = .ok (.getfield 25, 3) := by decide +kernel
theorem dX5_back_50 : decode cX5_back 50 = .ok (.iload_n 1, 1) := by decide +kernel
theorem dX5_back_51 : decode cX5_back 51 = .ok (.iconst (-1), 1) := by decide +kernel
theorem dX5_back_52 : decode cX5_back 52 = .ok (.iastore, 1) := by decide +kernel
theorem dX5_back_53 : decode cX5_back 53 = .ok (.iinc 1 1, 3) := by decide +kernel
theorem dX5_back_56 : decode cX5_back 56 = .ok (.goto (-32), 3) := by decide +kernel
theorem dX5_back_59 : decode cX5_back 59 = .ok (.iconst 1, 1) := by decide +kernel
theorem dX5_back_60 : decode cX5_back 60 = .ok (.ireturn, 1) := by decide +kernel
theorem dX5_status_0 : decode cX5_status 0 = .ok (.iconst 0, 1) := by decide +kernel
theorem dX5_status_1 : decode cX5_status 1 = .ok (.istore_n 2, 1) := by decide +kernel
theorem dX5_status_2 : decode cX5_status 2 = .ok (.iload_n 1, 1) := by decide +kernel
theorem dX5_status_3 : decode cX5_status 3 = .ok (.tableswitch 118 0 8 #[49, 54, 59, 64, 69, 74, 79, 84, 89], 49) := by decide +kernel
theorem dX5_status_52 : decode cX5_status 52 = .ok (.aload_n 0, 1) := by decide +kernel
theorem dX5_status_53 : decode cX5_status 53 = .ok (.getfield 67, 3) := by decide +kernel
theorem dX5_status_56 : decode cX5_status 56 = .ok (.ireturn, 1) := by decide +kernel
theorem dX5_status_57 : decode cX5_status 57 = .ok (.aload_n 0, 1) := by decide +kernel
theorem dX5_status_58 : decode cX5_status 58 = .ok (.getfield 57, 3) := by decide +kernel
theorem dX5_status_61 : decode cX5_status 61 = .ok (.ireturn, 1) := by decide +kernel
theorem dX5_status_62 : decode cX5_status 62 = .ok (.aload_n 0, 1) := by decide +kernel
theorem dX5_status_63 : decode cX5_status 63 = .ok (.getfield 103, 3) := by decide +kernel
theorem dX5_status_66 : decode cX5_status 66 = .ok (.ireturn, 1) := by decide +kernel
theorem dX5_status_67 : decode cX5_status 67 = .ok (.aload_n 0, 1) := by decide +kernel
theorem dX5_status_68 : decode cX5_status 68 = .ok (.getfield 61, 3) := by decide +kernel
theorem dX5_status_71 : decode cX5_status 71 = .ok (.ireturn, 1) := by decide +kernel
theorem dX5_status_72 : decode cX5_status 72 = .ok (.aload_n 0, 1) := by decide +kernel
theorem dX5_status_73 : decode cX5_status 73 = .ok (.invokevirtual 293, 3) := by decide +kernel
theorem dX5_status_76 : decode cX5_status 76 = .ok (.ireturn, 1) := by decide +kernel
theorem dX5_status_77 : decode cX5_status 77 = .ok (.aload_n 0, 1) := by decide +kernel
theorem dX5_status_78 : decode cX5_status 78 = .ok (.invokevirtual 256, 3) := by decide +kernel
theorem dX5_status_81 : decode cX5_status 81 = .ok (.ireturn, 1) := by decide +kernel
theorem dX5_status_82 : decode cX5_status 82 = .ok (.aload_n 0, 1) := by decide +kernel
theorem dX5_status_83 : decode cX5_status 83 = .ok (.getfield 124, 3) := by decide +kernel
theorem dX5_status_86 : decode cX5_status 86 = .ok (.ireturn, 1) := by decide +kernel
theorem dX5_status_87 : decode cX5_status 87 = .ok (.aload_n 0, 1) := by decide +kernel
theorem dX5_status_88 : decode cX5_status 88 = .ok (.getfield 64, 3) := by decide +kernel
theorem dX5_status_91 : decode cX5_status 91 = .ok (.ireturn, 1) := by decide +kernel
theorem dX5_status_92 : decode cX5_status 92 = .ok (.iconst 0, 1) := by decide +kernel
theorem dX5_status_93 : decode cX5_status 93 = .ok (.istore_n 3, 1) := by decide +kernel
theorem dX5_status_94 : decode cX5_status 94 = .ok (.iload_n 3, 1) := by decide +kernel
theorem dX5_status_95 : decode cX5_status 95 = .ok (.bipush 8, 2) := by decide +kernel
theorem dX5_status_97 : decode cX5_status 97 = .ok (.if_icmp .ge 22, 3) := by decide +kernel
theorem dX5_status_100 : decode cX5_status 100 = .ok (.aload_n 0, 1) := by decide +kernel
theorem dX5_status_101 : decode cX5_status 101 = .ok (.getfield 25, 3) := by decide +kernel
theorem dX5_status_104 : decode cX5_status 104 = .ok (.iload_n 3, 1) := by decide +kernel
theorem dX5_status_105 : decode cX5_status 105 = .ok (.iaload, 1) := by decide +kernel
theorem dX5_status_106 : decode cX5_status 106 = .ok (.iconst (-1), 1) := by decide +kernel
theorem dX5_status_107 : decode cX5_status 107 = .ok (.if_icmp .eq 6, 3) := by decide +kernel
theorem dX5_status_110 : decode cX5_status 110 = .ok (.iinc 2 1, 3) := by decide +kernel
theorem dX5_status_113 : decode cX5_status 113 = .ok (.iinc 3 1, 3) := by decide +kernel
theorem dX5_status_116 : decode cX5_status 116 = .ok (.goto (-22), 3) := by decide +kernel
theorem dX5_status_119 : decode cX5_status 119 = .ok (.iload_n 2, 1) := by decide +kernel
theorem dX5_status_120 : decode cX5_status 120 = .ok (.ireturn, 1) := by decide +kernel
theorem dX5_status_121 : decode cX5_status 121 = .ok (.iload_n 1, 1) := by decide +kernel
theorem dX5_status_122 : decode cX5_status 122 = .ok (.bipush 12, 2) := by decide +kernel
theorem dX5_status_124 : decode cX5_status 124 = .ok (.bipush 16, 2) := by decide +kernel
theorem dX5_status_126 : decode cX5_status 126 = .ok (.invokestatic 70, 3) := by decide +kernel
theorem dX5_status_129 : decode cX5_status 129 = .ok (.ifCond .eq 15, 3) := by decide +kernel
theorem dX5_status_132 : decode cX5_status 132 = .ok (.aload_n 0, 1) := by decide +kernel
theorem dX5_status_133 : decode cX5_status 133 = .ok (.getfield 35, 3) := by decide +kernel
theorem dX5_status_136 : decode cX5_status 136 = .ok (.iload_n 1, 1) := by decide +kernel
theorem dX5_status_137 : decode cX5_status 137 = .ok (.bipush 10, 2) := by decide +kernel
theorem dX5_status_139 : decode cX5_status 139 = .ok (.isub, 1) := by decide +kernel
theorem dX5_status_140 : decode cX5_status 140 = .ok (.iaload, 1) := by decide +kernel
theorem dX5_status_141 : decode cX5_status 141 = .ok (.goto 4, 3) := by decide +kernel
theorem dX5_status_144 : decode cX5_status 144 = .ok (.iconst (-1), 1) := by decide +kernel
theorem dX5_status_145 : decode cX5_status 145 = .ok (.ireturn, 1) := by decide +kernel

theorem dX3_init_0 : decode cX3_init 0 = .ok (.aload_n 0, 1) := by decide +kernel
theorem dX3_init_1 : decode cX3_init 1 = .ok (.invokespecial 3, 3) := by decide +kernel
theorem dX3_init_4 : decode cX3_init 4 = .ok (.aload_n 0, 1) := by decide +kernel
theorem dX3_init_5 : decode cX3_init 5 = .ok (.sipush 250, 3) := by decide +kernel
theorem dX3_init_8 : decode cX3_init 8 = .ok (.newarray .int, 2) := by decide +kernel
theorem dX3_init_10 : decode cX3_init 10 = .ok (.putfield 9, 3) := by decide +kernel
theorem dX3_init_13 : decode cX3_init 13 = .ok (.return_, 1) := by decide +kernel
theorem dX3_isFull_0 : decode cX3_isFull 0 = .ok (.aload_n 0, 1) := by decide +kernel
theorem dX3_isFull_1 : decode cX3_isFull 1 = .ok (.getfield 15, 3) := by decide +kernel
theorem dX3_isFull_4 : decode cX3_isFull 4 = .ok (.sipush 250, 3) := by decide +kernel
theorem dX3_isFull_7 : decode cX3_isFull 7 = .ok (.if_icmp .lt 7, 3) := by decide +kernel
theorem dX3_isFull_10 : decode cX3_isFull 10 = .ok (.iconst 1, 1) := by decide +kernel
theorem dX3_isFull_11 : decode cX3_isFull 11 = .ok (.goto 4, 3) := by decide +kernel
theorem dX3_isFull_14 : decode cX3_isFull 14 = .ok (.iconst 0, 1) := by decide +kernel
theorem dX3_isFull_15 : decode cX3_isFull 15 = .ok (.ireturn, 1) := by decide +kernel
theorem dX3_append_0 : decode cX3_append 0 = .ok (.aload_n 0, 1) := by decide +kernel
theorem dX3_append_1 : decode cX3_append 1 = .ok (.getfield 15, 3) := by decide +kernel
theorem dX3_append_4 : decode cX3_append 4 = .ok (.iconst 0, 1) := by decide +kernel
theorem dX3_append_5 : decode cX3_append 5 = .ok (.sipush 249, 3) := by decide +kernel
theorem dX3_append_8 : decode cX3_append 8 = .ok (.invokestatic 19, 3) := by decide +kernel
theorem dX3_append_11 : decode cX3_append 11 = .ok (.ifCond .eq 23, 3) := by decide +kernel
theorem dX3_append_14 : decode cX3_append 14 = .ok (.aload_n 0, 1) := by decide +kernel
theorem dX3_append_15 : decode cX3_append 15 = .ok (.getfield 9, 3) := by decide +kernel
theorem dX3_append_18 : decode cX3_append 18 = .ok (.aload_n 0, 1) := by decide +kernel
theorem dX3_append_19 : decode cX3_append 19 = .ok (.getfield 15, 3) := by decide +kernel
theorem dX3_append_22 : decode cX3_append 22 = .ok (.iload_n 1, 1) := by decide +kernel
theorem dX3_append_23 : decode cX3_append 23 = .ok (.iastore, 1) := by decide +kernel
theorem dX3_append_24 : decode cX3_append 24 = .ok (.aload_n 0, 1) := by decide +kernel
theorem dX3_append_25 : decode cX3_append 25 = .ok (.dup, 1) := by decide +kernel
theorem dX3_append_26 : decode cX3_append 26 = .ok (.getfield 15, 3) := by decide +kernel
theorem dX3_append_29 : decode cX3_append 29 = .ok (.iconst 1, 1) := by decide +kernel
theorem dX3_append_30 : decode cX3_append 30 = .ok (.iadd, 1) := by decide +kernel
theorem dX3_append_31 : decode cX3_append 31 = .ok (.putfield 15, 3) := by decide +kernel
theorem dX3_append_34 : decode cX3_append 34 = .ok (.aload_n 0, 1) := by decide +kernel
theorem dX3_append_35 : decode cX3_append 35 = .ok (.getfield 15, 3) := by decide +kernel
theorem dX3_append_38 : decode cX3_append 38 = .ok (.ireturn, 1) := by decide +kernel
theorem dX3_cut_0 : decode cX3_cut 0 = .ok (.aload_n 0, 1) := by decide +kernel
theorem dX3_cut_1 : decode cX3_cut 1 = .ok (.getfield 15, 3) := by decide +kernel
theorem dX3_cut_4 : decode cX3_cut 4 = .ok (.istore_n 1, 1) := by decide +kernel
theorem dX3_cut_5 : decode cX3_cut 5 = .ok (.aload_n 0, 1) := by decide +kernel
theorem dX3_cut_6 : decode cX3_cut 6 = .ok (.iconst 0, 1) := by decide +kernel
theorem dX3_cut_7 : decode cX3_cut 7 = .ok (.putfield 15, 3) := by decide +kernel
theorem dX3_cut_10 : decode cX3_cut 10 = .ok (.iload_n 1, 1) := by decide +kernel
theorem dX3_cut_11 : decode cX3_cut 11 = .ok (.ireturn, 1) := by decide +kernel
theorem dX3_letterAt_0 : decode cX3_letterAt 0 = .ok (.iload_n 1, 1) := by decide +kernel
theorem dX3_letterAt_1 : decode cX3_letterAt 1 = .ok (.ifCond .lt 27, 3) := by decide +kernel
theorem dX3_letterAt_4 : decode cX3_letterAt 4 = .ok (.iload_n 1, 1) := by decide +kernel
theorem dX3_letterAt_5 : decode cX3_letterAt 5 = .ok (.aload_n 0, 1) := by decide +kernel
theorem dX3_letterAt_6 : decode cX3_letterAt 6 = .ok (.getfield 15, 3) := by decide +kernel
theorem dX3_letterAt_9 : decode cX3_letterAt 9 = .ok (.if_icmp .ge 19, 3) := by decide +kernel
theorem dX3_letterAt_12 : decode cX3_letterAt 12 = .ok (.iload_n 1, 1) := by decide +kernel
theorem dX3_letterAt_13 : decode cX3_letterAt 13 = .ok (.sipush 250, 3) := by decide +kernel
theorem dX3_letterAt_16 : decode cX3_letterAt 16 = .ok (.if_icmp .ge 12, 3) := by decide +kernel
theorem dX3_letterAt_19 : decode cX3_letterAt 19 = .ok (.aload_n 0, 1) := by decide +kernel
theorem dX3_letterAt_20 : decode cX3_letterAt 20 = .ok (.getfield 9, 3) := by decide +kernel
theorem dX3_letterAt_23 : decode cX3_letterAt 23 = .ok (.iload_n 1, 1) := by decide +kernel
theorem dX3_letterAt_24 : decode cX3_letterAt 24 = .ok (.iaload, 1) := by decide +kernel
theorem dX3_letterAt_25 : decode cX3_letterAt 25 = .ok (.goto 4, 3) := by decide +kernel
theorem dX3_letterAt_28 : decode cX3_letterAt 28 = .ok (.iconst (-1), 1) := by decide +kernel
theorem dX3_letterAt_29 : decode cX3_letterAt 29 = .ok (.ireturn, 1) := by decide +kernel
theorem dX3_tokenOf_0 : decode cX3_tokenOf 0 = .ok (.iload_n 0, 1) := by decide +kernel
theorem dX3_tokenOf_1 : decode cX3_tokenOf 1 = .ok (.iconst (-1), 1) := by decide +kernel
theorem dX3_tokenOf_2 : decode cX3_tokenOf 2 = .ok (.if_icmp .ne 5, 3) := by decide +kernel
theorem dX3_tokenOf_5 : decode cX3_tokenOf 5 = .ok (.iconst 0, 1) := by decide +kernel
theorem dX3_tokenOf_6 : decode cX3_tokenOf 6 = .ok (.ireturn, 1) := by decide +kernel
theorem dX3_tokenOf_7 : decode cX3_tokenOf 7 = .ok (.iload_n 0, 1) := by decide +kernel
theorem dX3_tokenOf_8 : decode cX3_tokenOf 8 = .ok (.bipush 97, 2) := by decide +kernel
theorem dX3_tokenOf_10 : decode cX3_tokenOf 10 = .ok (.if_icmp .lt 11, 3) := by decide +kernel
theorem dX3_tokenOf_13 : decode cX3_tokenOf 13 = .ok (.iload_n 0, 1) := by decide +kernel
theorem dX3_tokenOf_14 : decode cX3_tokenOf 14 = .ok (.bipush 122, 2) := by decide +kernel
theorem dX3_tokenOf_16 : decode cX3_tokenOf 16 = .ok (.if_icmp .gt 5, 3) := by decide +kernel
theorem dX3_tokenOf_19 : decode cX3_tokenOf 19 = .ok (.iconst 1, 1) := by decide +kernel
theorem dX3_tokenOf_20 : decode cX3_tokenOf 20 = .ok (.ireturn, 1) := by decide +kernel
theorem dX3_tokenOf_21 : decode cX3_tokenOf 21 = .ok (.iload_n 0, 1) := by decide +kernel
theorem dX3_tokenOf_22 : decode cX3_tokenOf 22 = .ok (.bipush 48, 2) := by decide +kernel
theorem dX3_tokenOf_24 : decode cX3_tokenOf 24 = .ok (.if_icmp .lt 11, 3) := by decide +kernel
theorem dX3_tokenOf_27 : decode cX3_tokenOf 27 = .ok (.iload_n 0, 1) := by decide +kernel
theorem dX3_tokenOf_28 : decode cX3_tokenOf 28 = .ok (.bipush 57, 2) := by decide +kernel
theorem dX3_tokenOf_30 : decode cX3_tokenOf 30 = .ok (.if_icmp .gt 5, 3) := by decide +kernel
theorem dX3_tokenOf_33 : decode cX3_tokenOf 33 = .ok (.iconst 2, 1) := by decide +kernel
theorem dX3_tokenOf_34 : decode cX3_tokenOf 34 = .ok (.ireturn, 1) := by decide +kernel
theorem dX3_tokenOf_35 : decode cX3_tokenOf 35 = .ok (.iload_n 0, 1) := by decide +kernel
theorem dX3_tokenOf_36 : decode cX3_tokenOf 36 = .ok (.bipush 59, 2) := by decide +kernel
theorem dX3_tokenOf_38 : decode cX3_tokenOf 38 = .ok (.if_icmp .ne 7, 3) := by decide +kernel
theorem dX3_tokenOf_41 : decode cX3_tokenOf 41 = .ok (.iconst 3, 1) := by decide +kernel
theorem dX3_tokenOf_42 : decode cX3_tokenOf 42 = .ok (.goto 4, 3) := by decide +kernel
theorem dX3_tokenOf_45 : decode cX3_tokenOf 45 = .ok (.iconst 4, 1) := by decide +kernel
theorem dX3_tokenOf_46 : decode cX3_tokenOf 46 = .ok (.ireturn, 1) := by decide +kernel
theorem dX3_next_0 : decode cX3_next 0 = .ok (.aload_n 0, 1) := by decide +kernel
theorem dX3_next_1 : decode cX3_next 1 = .ok (.aload_n 0, 1) := by decide +kernel
theorem dX3_next_2 : decode cX3_next 2 = .ok (.getfield 23, 3) := by decide +kernel
theorem dX3_next_5 : decode cX3_next 5 = .ok (.putfield 26, 3) := by decide +kernel
theorem dX3_next_8 : decode cX3_next 8 = .ok (.aload_n 0, 1) := by decide +kernel
theorem dX3_next_9 : decode cX3_next 9 = .ok (.getfield 26, 3) := by decide +kernel
theorem dX3_next_12 : decode cX3_next 12 = .ok (.aload_n 0, 1) := by decide +kernel
theorem dX3_next_13 : decode cX3_next 13 = .ok (.getfield 15, 3) := by decide +kernel
theorem dX3_next_16 : decode cX3_next 16 = .ok (.if_icmp .ge 29, 3) := by decide +kernel
theorem dX3_next_19 : decode cX3_next 19 = .ok (.aload_n 0, 1) := by decide +kernel
theorem dX3_next_20 : decode cX3_next 20 = .ok (.aload_n 0, 1) := by decide +kernel
theorem dX3_next_21 : decode cX3_next 21 = .ok (.getfield 26, 3) := by decide +kernel
theorem dX3_next_24 : decode cX3_next 24 = .ok (.invokevirtual 29, 3) := by decide +kernel
theorem dX3_next_27 : decode cX3_next 27 = .ok (.bipush 32, 2) := by decide +kernel
theorem dX3_next_29 : decode cX3_next 29 = .ok (.if_icmp .ne 16, 3) := by decide +kernel
theorem dX3_next_32 : decode cX3_next 32 = .ok (.aload_n 0, 1) := by decide +kernel
theorem dX3_next_33 : decode cX3_next 33 = .ok (.dup, 1) := by decide +kernel
theorem dX3_next_34 : decode cX3_next 34 = .ok (.getfield 26, 3) := by decide +kernel
theorem dX3_next_37 : decode cX3_next 37 = .ok (.iconst 1, 1) := by decide +kernel
theorem dX3_next_38 : decode cX3_next 38 = .ok (.iadd, 1) := by decide +kernel
theorem dX3_next_39 : decode cX3_next 39 = .ok (.putfield 26, 3) := by decide +kernel
theorem dX3_next_42 : decode cX3_next 42 = .ok (.goto (-34), 3) := by decide +kernel
theorem dX3_next_45 : decode cX3_next 45 = .ok (.aload_n 0, 1) := by decide +kernel
theorem dX3_next_46 : decode cX3_next 46 = .ok (.aload_n 0, 1) := by decide +kernel
theorem dX3_next_47 : decode cX3_next 47 = .ok (.aload_n 0, 1) := by decide +kernel
theorem dX3_next_48 : decode cX3_next 48 = .ok (.getfield 26, 3) := by decide +kernel
theorem dX3_next_51 : decode cX3_next 51 = .ok (.invokevirtual 29, 3) := by decide +kernel
theorem dX3_next_54 : decode cX3_next 54 = .ok (.invokestatic 33, 3) := by decide +kernel
theorem dX3_next_57 : decode cX3_next 57 = .ok (.putfield 36, 3) := by decide +kernel
theorem dX3_next_60 : decode cX3_next 60 = .ok (.aload_n 0, 1) := by decide +kernel
theorem dX3_next_61 : decode cX3_next 61 = .ok (.aload_n 0, 1) := by decide +kernel
theorem dX3_next_62 : decode cX3_next 62 = .ok (.getfield 26, 3) := by decide +kernel
theorem dX3_next_65 : decode cX3_next 65 = .ok (.aload_n 0, 1) := by decide +kernel
theorem dX3_next_66 : decode cX3_next 66 = .ok (.getfield 15, 3) := by decide +kernel
theorem dX3_next_69 : decode cX3_next 69 = .ok (.if_icmp .ge 12, 3) := by decide +kernel
theorem dX3_next_72 : decode cX3_next 72 = .ok (.aload_n 0, 1) := by decide +kernel
theorem dX3_next_73 : decode cX3_next 73 = .ok (.getfield 26, 3) := by decide +kernel
theorem dX3_next_76 : decode cX3_next 76 = .ok (.iconst 1, 1) := by decide +kernel
theorem dX3_next_77 : decode cX3_next 77 = .ok (.iadd, 1) := by decide +kernel
theorem dX3_next_78 : decode cX3_next 78 = .ok (.goto 7, 3) := by decide +kernel
theorem dX3_next_81 : decode cX3_next 81 = .ok (.aload_n 0, 1) := by decide +kernel
theorem dX3_next_82 : decode cX3_next 82 = .ok (.getfield 15, 3) := by decide +kernel
theorem dX3_next_85 : decode cX3_next 85 = .ok (.putfield 23, 3) := by decide +kernel
theorem dX3_next_88 : decode cX3_next 88 = .ok (.aload_n 0, 1) := by decide +kernel
theorem dX3_next_89 : decode cX3_next 89 = .ok (.getfield 36, 3) := by decide +kernel
theorem dX3_next_92 : decode cX3_next 92 = .ok (.iconst 1, 1) := by decide +kernel
theorem dX3_next_93 : decode cX3_next 93 = .ok (.if_icmp .eq 11, 3) := by decide +kernel
theorem dX3_next_96 : decode cX3_next 96 = .ok (.aload_n 0, 1) := by decide +kernel
theorem dX3_next_97 : decode cX3_next 97 = .ok (.getfield 36, 3) := by decide +kernel
theorem dX3_next_100 : decode cX3_next 100 = .ok (.iconst 2, 1) := by decide +kernel
theorem dX3_next_101 : decode cX3_next 101 = .ok (.if_icmp .ne 45, 3) := by decide +kernel
theorem dX3_next_104 : decode cX3_next 104 = .ok (.aload_n 0, 1) := by decide +kernel
theorem dX3_next_105 : decode cX3_next 105 = .ok (.getfield 23, 3) := by decide +kernel
theorem dX3_next_108 : decode cX3_next 108 = .ok (.aload_n 0, 1) := by decide +kernel
theorem dX3_next_109 : decode cX3_next 109 = .ok (.getfield 15, 3) := by decide +kernel
theorem dX3_next_112 : decode cX3_next 112 = .ok (.if_icmp .ge 34, 3) := by decide +kernel
theorem dX3_next_115 : decode cX3_next 115 = .ok (.aload_n 0, 1) := by decide +kernel
theorem dX3_next_116 : decode cX3_next 116 = .ok (.aload_n 0, 1) := by decide +kernel
theorem dX3_next_117 : decode cX3_next 117 = .ok (.getfield 23, 3) := by decide +kernel
theorem dX3_next_120 : decode cX3_next 120 = .ok (.invokevirtual 29, 3) := by decide +kernel
theorem dX3_next_123 : decode cX3_next 123 = .ok (.invokestatic 33, 3) := by decide +kernel
theorem dX3_next_126 : decode cX3_next 126 = .ok (.aload_n 0, 1) := by decide +kernel
theorem dX3_next_127 : decode cX3_next 127 = .ok (.getfield 36, 3) := by decide +kernel
theorem dX3_next_130 : decode cX3_next 130 = .ok (.if_icmp .ne 16, 3) := by decide +kernel
theorem dX3_next_133 : decode cX3_next 133 = .ok (.aload_n 0, 1) := by decide +kernel
theorem dX3_next_134 : decode cX3_next 134 = .ok (.dup, 1) := by decide +kernel
theorem dX3_next_135 : decode cX3_next 135 = .ok (.getfield 23, 3) := by decide +kernel
theorem dX3_next_138 : decode cX3_next 138 = .ok (.iconst 1, 1) := by decide +kernel
theorem dX3_next_139 : decode cX3_next 139 = .ok (.iadd, 1) := by decide +kernel
theorem dX3_next_140 : decode cX3_next 140 = .ok (.putfield 23, 3) := by decide +kernel
theorem dX3_next_143 : decode cX3_next 143 = .ok (.goto (-39), 3) := by decide +kernel
theorem dX3_next_146 : decode cX3_next 146 = .ok (.return_, 1) := by decide +kernel
theorem dX3_readInto_0 : decode cX3_readInto 0 = .ok (.aload_n 0, 1) := by decide +kernel
theorem dX3_readInto_1 : decode cX3_readInto 1 = .ok (.iconst 0, 1) := by decide +kernel
theorem dX3_readInto_2 : decode cX3_readInto 2 = .ok (.putfield 23, 3) := by decide +kernel
theorem dX3_readInto_5 : decode cX3_readInto 5 = .ok (.aload_n 0, 1) := by decide +kernel
theorem dX3_readInto_6 : decode cX3_readInto 6 = .ok (.invokevirtual 39, 3) := by decide +kernel
theorem dX3_readInto_9 : decode cX3_readInto 9 = .ok (.iconst 1, 1) := by decide +kernel
theorem dX3_readInto_10 : decode cX3_readInto 10 = .ok (.istore_n 2, 1) := by decide +kernel
theorem dX3_readInto_11 : decode cX3_readInto 11 = .ok (.iload_n 2, 1) := by decide +kernel
theorem dX3_readInto_12 : decode cX3_readInto 12 = .ok (.sipush 250, 3) := by decide +kernel
theorem dX3_readInto_15 : decode cX3_readInto 15 = .ok (.if_icmp .gt 54, 3) := by decide +kernel
theorem dX3_readInto_18 : decode cX3_readInto 18 = .ok (.aload_n 0, 1) := by decide +kernel
theorem dX3_readInto_19 : decode cX3_readInto 19 = .ok (.aload_n 1, 1) := by decide +kernel
theorem dX3_readInto_20 : decode cX3_readInto 20 = .ok (.invokevirtual 42, 3) := by decide +kernel
theorem dX3_readInto_23 : decode cX3_readInto 23 = .ok (.ifCond .ne 11, 3) := by decide +kernel
theorem dX3_readInto_26 : decode cX3_readInto 26 = .ok (.bipush (-20), 2) := by decide +kernel
theorem dX3_readInto_28 : decode cX3_readInto 28 = .ok (.aload_n 0, 1) := by decide +kernel
theorem dX3_readInto_29 : decode cX3_readInto 29 = .ok (.getfield 26, 3) := by decide +kernel
theorem dX3_readInto_32 : decode cX3_readInto 32 = .ok (.isub, 1) := by decide +kernel
theorem dX3_readInto_33 : decode cX3_readInto 33 = .ok (.ireturn, 1) := by decide +kernel
theorem dX3_readInto_34 : decode cX3_readInto 34 = .ok (.aload_n 0, 1) := by decide +kernel
theorem dX3_readInto_35 : decode cX3_readInto 35 = .ok (.getfield 36, 3) := by decide +kernel
theorem dX3_readInto_38 : decode cX3_readInto 38 = .ok (.ifCond .ne 5, 3) := by decide +kernel
theorem dX3_readInto_41 : decode cX3_readInto 41 = .ok (.iload_n 2, 1) := by decide +kernel
theorem dX3_readInto_42 : decode cX3_readInto 42 = .ok (.ireturn, 1) := by decide +kernel
theorem dX3_readInto_43 : decode cX3_readInto 43 = .ok (.aload_n 0, 1) := by decide +kernel
theorem dX3_readInto_44 : decode cX3_readInto 44 = .ok (.getfield 36, 3) := by decide +kernel
theorem dX3_readInto_47 : decode cX3_readInto 47 = .ok (.iconst 3, 1) := by decide +kernel
theorem dX3_readInto_48 : decode cX3_readInto 48 = .ok (.if_icmp .eq 11, 3) := by decide +kernel
theorem dX3_readInto_51 : decode cX3_readInto 51 = .ok (.bipush (-20), 2) := by decide +kernel
theorem dX3_readInto_53 : decode cX3_readInto 53 = .ok (.aload_n 0, 1) := by decide +kernel
theorem dX3_readInto_54 : decode cX3_readInto 54 = .ok (.getfield 26, 3) := by decide +kernel
theorem dX3_readInto_57 : decode cX3_readInto 57 = .ok (.isub, 1) := by decide +kernel
theorem dX3_readInto_58 : decode cX3_readInto 58 = .ok (.ireturn, 1) := by decide +kernel
theorem dX3_readInto_59 : decode cX3_readInto 59 = .ok (.aload_n 0, 1) := by decide +kernel
theorem dX3_readInto_60 : decode cX3_readInto 60 = .ok (.invokevirtual 39, 3) := by decide +kernel
theorem dX3_readInto_63 : decode cX3_readInto 63 = .ok (.iinc 2 1, 3) := by decide +kernel
theorem dX3_readInto_66 : decode cX3_readInto 66 = .ok (.goto (-55), 3) := by decide +kernel
theorem dX3_readInto_69 : decode cX3_readInto 69 = .ok (.bipush (-20), 2) := by decide +kernel
theorem dX3_readInto_71 : decode cX3_readInto 71 = .ok (.aload_n 0, 1) := by decide +kernel
theorem dX3_readInto_72 : decode cX3_readInto 72 = .ok (.getfield 26, 3) := by decide +kernel
theorem dX3_readInto_75 : decode cX3_readInto 75 = .ok (.isub, 1) := by decide +kernel
theorem dX3_readInto_76 : decode cX3_readInto 76 = .ok (.ireturn, 1) := by decide +kernel
theorem dX3_isSpelt_0 : decode cX3_isSpelt 0 = .ok (.aload_n 0, 1) := by decide +kernel
theorem dX3_isSpelt_1 : decode cX3_isSpelt 1 = .ok (.getfield 36, 3) := by decide +kernel
theorem dX3_isSpelt_4 : decode cX3_isSpelt 4 = .ok (.iconst 1, 1) := by decide +kernel
theorem dX3_isSpelt_5 : decode cX3_isSpelt 5 = .ok (.if_icmp .ne 19, 3) := by decide +kernel
theorem dX3_isSpelt_8 : decode cX3_isSpelt 8 = .ok (.aload_n 0, 1) := by decide +kernel
theorem dX3_isSpelt_9 : decode cX3_isSpelt 9 = .ok (.getfield 23, 3) := by decide +kernel
theorem dX3_isSpelt_12 : decode cX3_isSpelt 12 = .ok (.aload_n 0, 1) := by decide +kernel
theorem dX3_isSpelt_13 : decode cX3_isSpelt 13 = .ok (.getfield 26, 3) := by decide +kernel
theorem dX3_isSpelt_16 : decode cX3_isSpelt 16 = .ok (.isub, 1) := by decide +kernel
theorem dX3_isSpelt_17 : decode cX3_isSpelt 17 = .ok (.aload_n 1, 1) := by decide +kernel
theorem dX3_isSpelt_18 : decode cX3_isSpelt 18 = .ok (.invokevirtual 46, 3) := by decide +kernel
theorem dX3_isSpelt_21 : decode cX3_isSpelt 21 = .ok (.if_icmp .eq 5, 3) := by decide +kernel
theorem dX3_isSpelt_24 : decode cX3_isSpelt 24 = .ok (.iconst 0, 1) := by decide +kernel
theorem dX3_isSpelt_25 : decode cX3_isSpelt 25 = .ok (.ireturn, 1) := by decide +kernel
theorem dX3_isSpelt_26 : decode cX3_isSpelt 26 = .ok (.iconst 0, 1) := by decide +kernel
theorem dX3_isSpelt_27 : decode cX3_isSpelt 27 = .ok (.istore_n 2, 1) := by decide +kernel
theorem dX3_isSpelt_28 : decode cX3_isSpelt 28 = .ok (.iload_n 2, 1) := by decide +kernel
theorem dX3_isSpelt_29 : decode cX3_isSpelt 29 = .ok (.aload_n 1, 1) := by decide +kernel
theorem dX3_isSpelt_30 : decode cX3_isSpelt 30 = .ok (.invokevirtual 46, 3) := by decide +kernel
theorem dX3_isSpelt_33 : decode cX3_isSpelt 33 = .ok (.if_icmp .ge 29, 3) := by decide +kernel
theorem dX3_isSpelt_36 : decode cX3_isSpelt 36 = .ok (.aload_n 0, 1) := by decide +kernel
theorem dX3_isSpelt_37 : decode cX3_isSpelt 37 = .ok (.aload_n 0, 1) := by decide +kernel
theorem dX3_isSpelt_38 : decode cX3_isSpelt 38 = .ok (.getfield 26, 3) := by decide +kernel
theorem dX3_isSpelt_41 : decode cX3_isSpelt 41 = .ok (.iload_n 2, 1) := by decide +kernel
theorem dX3_isSpelt_42 : decode cX3_isSpelt 42 = .ok (.iadd, 1) := by decide +kernel
theorem dX3_isSpelt_43 : decode cX3_isSpelt 43 = .ok (.invokevirtual 29, 3) := by decide +kernel
theorem dX3_isSpelt_46 : decode cX3_isSpelt 46 = .ok (.aload_n 1, 1) := by decide +kernel
theorem dX3_isSpelt_47 : decode cX3_isSpelt 47 = .ok (.iload_n 2, 1) := by decide +kernel
theorem dX3_isSpelt_48 : decode cX3_isSpelt 48 = .ok (.invokevirtual 52, 3) := by decide +kernel
theorem dX3_isSpelt_51 : decode cX3_isSpelt 51 = .ok (.if_icmp .eq 5, 3) := by decide +kernel
theorem dX3_isSpelt_54 : decode cX3_isSpelt 54 = .ok (.iconst 0, 1) := by decide +kernel
theorem dX3_isSpelt_55 : decode cX3_isSpelt 55 = .ok (.ireturn, 1) := by decide +kernel
theorem dX3_isSpelt_56 : decode cX3_isSpelt 56 = .ok (.iinc 2 1, 3) := by decide +kernel
theorem dX3_isSpelt_59 : decode cX3_isSpelt 59 = .ok (.goto (-31), 3) := by decide +kernel
theorem dX3_isSpelt_62 : decode cX3_isSpelt 62 = .ok (.iconst 1, 1) := by decide +kernel
theorem dX3_isSpelt_63 : decode cX3_isSpelt 63 = .ok (.ireturn, 1) := by decide +kernel
theorem dX3_isTaken_0 : decode cX3_isTaken 0 = .ok (.aload_n 0, 1) := by decide +kernel
theorem dX3_isTaken_1 : decode cX3_isTaken 1 = .ok (.aload_n 1, 1) := by decide +kernel
theorem dX3_isTaken_2 : decode cX3_isTaken 2 = .ok (.invokevirtual 56, 3) := by decide +kernel
theorem dX3_isTaken_5 : decode cX3_isTaken 5 = .ok (.istore_n 2, 1) := by decide +kernel
theorem dX3_isTaken_6 : decode cX3_isTaken 6 = .ok (.iload_n 2, 1) := by decide +kernel
theorem dX3_isTaken_7 : decode cX3_isTaken 7 = .ok (.ifCond .eq 7, 3) := by decide +kernel
theorem dX3_isTaken_10 : decode cX3_isTaken 10 = .ok (.aload_n 0, 1) := by decide +kernel
theorem dX3_isTaken_11 : decode cX3_isTaken 11 = .ok (.invokevirtual 39, 3) := by decide +kernel
theorem dX3_isTaken_14 : decode cX3_isTaken 14 = .ok (.iload_n 2, 1) := by decide +kernel
theorem dX3_isTaken_15 : decode cX3_isTaken 15 = .ok (.ireturn, 1) := by decide +kernel
theorem dX3_number_0 : decode cX3_number 0 = .ok (.aload_n 0, 1) := by decide +kernel
theorem dX3_number_1 : decode cX3_number 1 = .ok (.getfield 36, 3) := by decide +kernel
theorem dX3_number_4 : decode cX3_number 4 = .ok (.iconst 2, 1) := by decide +kernel
theorem dX3_number_5 : decode cX3_number 5 = .ok (.if_icmp .ne 16, 3) := by decide +kernel
theorem dX3_number_8 : decode cX3_number 8 = .ok (.aload_n 0, 1) := by decide +kernel
theorem dX3_number_9 : decode cX3_number 9 = .ok (.getfield 23, 3) := by decide +kernel
theorem dX3_number_12 : decode cX3_number 12 = .ok (.aload_n 0, 1) := by decide +kernel
theorem dX3_number_13 : decode cX3_number 13 = .ok (.getfield 26, 3) := by decide +kernel
theorem dX3_number_16 : decode cX3_number 16 = .ok (.isub, 1) := by decide +kernel
theorem dX3_number_17 : decode cX3_number 17 = .ok (.iconst 2, 1) := by decide +kernel
theorem dX3_number_18 : decode cX3_number 18 = .ok (.if_icmp .le 5, 3) := by decide +kernel
theorem dX3_number_21 : decode cX3_number 21 = .ok (.iconst (-1), 1) := by decide +kernel
theorem dX3_number_22 : decode cX3_number 22 = .ok (.ireturn, 1) := by decide +kernel
theorem dX3_number_23 : decode cX3_number 23 = .ok (.iconst 0, 1) := by decide +kernel
theorem dX3_number_24 : decode cX3_number 24 = .ok (.istore_n 3, 1) := by decide +kernel
theorem dX3_number_25 : decode cX3_number 25 = .ok (.aload_n 0, 1) := by decide +kernel
theorem dX3_number_26 : decode cX3_number 26 = .ok (.getfield 26, 3) := by decide +kernel
theorem dX3_number_29 : decode cX3_number 29 = .ok (.istore 4, 2) := by decide +kernel
theorem dX3_number_31 : decode cX3_number 31 = .ok (.iload 4, 2) := by decide +kernel
theorem dX3_number_33 : decode cX3_number 33 = .ok (.aload_n 0, 1) := by decide +kernel
theorem dX3_number_34 : decode cX3_number 34 = .ok (.getfield 23, 3) := by decide +kernel
theorem dX3_number_37 : decode cX3_number 37 = .ok (.if_icmp .ge 24, 3) := by decide +kernel
theorem dX3_number_40 : decode cX3_number 40 = .ok (.iload_n 3, 1) := by decide +kernel
theorem dX3_number_41 : decode cX3_number 41 = .ok (.bipush 10, 2) := by decide +kernel
theorem dX3_number_43 : decode cX3_number 43 = .ok (.imul, 1) := by decide +kernel
theorem dX3_number_44 : decode cX3_number 44 = .ok (.aload_n 0, 1) := by decide +kernel
theorem dX3_number_45 : decode cX3_number 45 = .ok (.iload 4, 2) := by decide +kernel
theorem dX3_number_47 : decode cX3_number 47 = .ok (.invokevirtual 29, 3) := by decide +kernel
theorem dX3_number_50 : decode cX3_number 50 = .ok (.iadd, 1) := by decide +kernel
theorem dX3_number_51 : decode cX3_number 51 = .ok (.bipush 48, 2) := by decide +kernel
theorem dX3_number_53 : decode cX3_number 53 = .ok (.isub, 1) := by decide +kernel
theorem dX3_number_54 : decode cX3_number 54 = .ok (.istore_n 3, 1) := by decide +kernel
theorem dX3_number_55 : decode cX3_number 55 = .ok (.iinc 4 1, 3) := by decide +kernel
theorem dX3_number_58 : decode cX3_number 58 = .ok (.goto (-27), 3) := by decide +kernel
theorem dX3_number_61 : decode cX3_number 61 = .ok (.iload_n 3, 1) := by decide +kernel
theorem dX3_number_62 : decode cX3_number 62 = .ok (.iload_n 1, 1) := by decide +kernel
theorem dX3_number_63 : decode cX3_number 63 = .ok (.iload_n 2, 1) := by decide +kernel
theorem dX3_number_64 : decode cX3_number 64 = .ok (.invokestatic 19, 3) := by decide +kernel
theorem dX3_number_67 : decode cX3_number 67 = .ok (.ifCond .ne 5, 3) := by decide +kernel
theorem dX3_number_70 : decode cX3_number 70 = .ok (.iconst (-1), 1) := by decide +kernel
theorem dX3_number_71 : decode cX3_number 71 = .ok (.ireturn, 1) := by decide +kernel
theorem dX3_number_72 : decode cX3_number 72 = .ok (.aload_n 0, 1) := by decide +kernel
theorem dX3_number_73 : decode cX3_number 73 = .ok (.invokevirtual 39, 3) := by decide +kernel
theorem dX3_number_76 : decode cX3_number 76 = .ok (.iload_n 3, 1) := by decide +kernel
theorem dX3_number_77 : decode cX3_number 77 = .ok (.ireturn, 1) := by decide +kernel
theorem dX3_isStatement_0 : decode cX3_isStatement 0 = .ok (.aload_n 0, 1) := by decide +kernel
theorem dX3_isStatement_1 : decode cX3_isStatement 1 = .ok (.ldc 60, 2) := by decide +kernel
theorem dX3_isStatement_3 : decode cX3_isStatement 3 = .ok (.invokevirtual 56, 3) := by decide +kernel
theorem dX3_isStatement_6 : decode cX3_isStatement 6 = .ok (.ifCond .eq 24, 3) := by decide +kernel
theorem dX3_isStatement_9 : decode cX3_isStatement 9 = .ok (.aload_n 1, 1) := by decide +kernel
theorem dX3_isStatement_10 : decode cX3_isStatement 10 = .ok (.invokevirtual 62, 3) := by decide +kernel
theorem dX3_isStatement_13 : decode cX3_isStatement 13 = .ok (.ifCond .ne 15, 3) := by decide +kernel
theorem dX3_isStatement_16 : decode cX3_isStatement 16 = .ok (.aload_n 0, 1) := by decide +kernel
theorem dX3_isStatement_17 : decode cX3_isStatement 17 = .ok (.aload_n 1, 1) := by decide +kernel
theorem dX3_isStatement_18 : decode cX3_isStatement 18 = .ok (.invokevirtual 68, 3) := by decide +kernel
theorem dX3_isStatement_21 : decode cX3_isStatement 21 = .ok (.ifCond .eq 7, 3) := by decide +kernel
theorem dX3_isStatement_24 : decode cX3_isStatement 24 = .ok (.iconst 1, 1) := by decide +kernel
theorem dX3_isStatement_25 : decode cX3_isStatement 25 = .ok (.goto 4, 3) := by decide +kernel
theorem dX3_isStatement_28 : decode cX3_isStatement 28 = .ok (.iconst 0, 1) := by decide +kernel
theorem dX3_isStatement_29 : decode cX3_isStatement 29 = .ok (.ireturn, 1) := by decide +kernel
theorem dX3_isStatement_30 : decode cX3_isStatement 30 = .ok (.aload_n 0, 1) := by decide +kernel
theorem dX3_isStatement_31 : decode cX3_isStatement 31 = .ok (.ldc 71, 2) := by decide +kernel
theorem dX3_isStatement_33 : decode cX3_isStatement 33 = .ok (.invokevirtual 73, 3) := by decide +kernel
theorem dX3_isStatement_36 : decode cX3_isStatement 36 = .ok (.ifCond .eq 9, 3) := by decide +kernel
theorem dX3_isStatement_39 : decode cX3_isStatement 39 = .ok (.aload_n 1, 1) := by decide +kernel
theorem dX3_isStatement_40 : decode cX3_isStatement 40 = .ok (.invokevirtual 76, 3) := by decide +kernel
theorem dX3_isStatement_43 : decode cX3_isStatement 43 = .ok (.iconst 1, 1) := by decide +kernel
theorem dX3_isStatement_44 : decode cX3_isStatement 44 = .ok (.ireturn, 1) := by decide +kernel
theorem dX3_isStatement_45 : decode cX3_isStatement 45 = .ok (.aload_n 0, 1) := by decide +kernel
theorem dX3_isStatement_46 : decode cX3_isStatement 46 = .ok (.ldc 79, 2) := by decide +kernel
theorem dX3_isStatement_48 : decode cX3_isStatement 48 = .ok (.invokevirtual 73, 3) := by decide +kernel
theorem dX3_isStatement_51 : decode cX3_isStatement 51 = .ok (.ifCond .eq 9, 3) := by decide +kernel
theorem dX3_isStatement_54 : decode cX3_isStatement 54 = .ok (.aload_n 0, 1) := by decide +kernel
theorem dX3_isStatement_55 : decode cX3_isStatement 55 = .ok (.aload_n 1, 1) := by decide +kernel
theorem dX3_isStatement_56 : decode cX3_isStatement 56 = .ok (.invokevirtual 81, 3) := by decide +kernel
theorem dX3_isStatement_59 : decode cX3_isStatement 59 = .ok (.ireturn, 1) := by decide +kernel
theorem dX3_isStatement_60 : decode cX3_isStatement 60 = .ok (.aload_n 0, 1) := by decide +kernel
theorem dX3_isStatement_61 : decode cX3_isStatement 61 = .ok (.ldc 84, 2) := by decide +kernel
theorem dX3_isStatement_63 : decode cX3_isStatement 63 = .ok (.invokevirtual 73, 3) := by decide +kernel
theorem dX3_isStatement_66 : decode cX3_isStatement 66 = .ok (.ifCond .eq 9, 3) := by decide +kernel
theorem dX3_isStatement_69 : decode cX3_isStatement 69 = .ok (.aload_n 0, 1) := by decide +kernel
theorem dX3_isStatement_70 : decode cX3_isStatement 70 = .ok (.aload_n 1, 1) := by decide +kernel
theorem dX3_isStatement_71 : decode cX3_isStatement 71 = .ok (.invokevirtual 86, 3) := by decide +kernel
theorem dX3_isStatement_74 : decode cX3_isStatement 74 = .ok (.ireturn, 1) := by decide +kernel
theorem dX3_isStatement_75 : decode cX3_isStatement 75 = .ok (.aload_n 0, 1) := by decide +kernel
theorem dX3_isStatement_76 : decode cX3_isStatement 76 = .ok (.ldc 89, 2) := by decide +kernel
theorem dX3_isStatement_78 : decode cX3_isStatement 78 = .ok (.invokevirtual 73, 3) := by decide +kernel
theorem dX3_isStatement_81 : decode cX3_isStatement 81 = .ok (.ifCond .eq 9, 3) := by decide +kernel
theorem dX3_isStatement_84 : decode cX3_isStatement 84 = .ok (.aload_n 0, 1) := by decide +kernel
theorem dX3_isStatement_85 : decode cX3_isStatement 85 = .ok (.aload_n 1, 1) := by decide +kernel
theorem dX3_isStatement_86 : decode cX3_isStatement 86 = .ok (.invokevirtual 91, 3) := by decide +kernel
theorem dX3_isStatement_89 : decode cX3_isStatement 89 = .ok (.ireturn, 1) := by decide +kernel
theorem dX3_isStatement_90 : decode cX3_isStatement 90 = .ok (.aload_n 0, 1) := by decide +kernel
theorem dX3_isStatement_91 : decode cX3_isStatement 91 = .ok (.ldc 94, 2) := by decide +kernel
theorem dX3_isStatement_93 : decode cX3_isStatement 93 = .ok (.invokevirtual 73, 3) := by decide +kernel
theorem dX3_isStatement_96 : decode cX3_isStatement 96 = .ok (.ifCond .eq 9, 3) := by decide +kernel
theorem dX3_isStatement_99 : decode cX3_isStatement 99 = .ok (.aload_n 0, 1) := by decide +kernel
theorem dX3_isStatement_100 : decode cX3_isStatement 100 = .ok (.aload_n 1, 1) := by decide +kernel
theorem dX3_isStatement_101 : decode cX3_isStatement 101 = .ok (.invokevirtual 96, 3) := by decide +kernel
theorem dX3_isStatement_104 : decode cX3_isStatement 104 = .ok (.ireturn, 1) := by decide +kernel
theorem dX3_isStatement_105 : decode cX3_isStatement 105 = .ok (.aload_n 0, 1) := by decide +kernel
theorem dX3_isStatement_106 : decode cX3_isStatement 106 = .ok (.ldc 99, 2) := by decide +kernel
theorem dX3_isStatement_108 : decode cX3_isStatement 108 = .ok (.invokevirtual 73, 3) := by decide +kernel
theorem dX3_isStatement_111 : decode cX3_isStatement 111 = .ok (.ifCond .eq 15, 3) := by decide +kernel
theorem dX3_isStatement_114 : decode cX3_isStatement 114 = .ok (.aload_n 0, 1) := by decide +kernel
theorem dX3_isStatement_115 : decode cX3_isStatement 115 = .ok (.aload_n 1, 1) := by decide +kernel
theorem dX3_isStatement_116 : decode cX3_isStatement 116 = .ok (.invokevirtual 101, 3) := by decide +kernel
theorem dX3_isStatement_119 : decode cX3_isStatement 119 = .ok (.ifCond .eq 7, 3) := by decide +kernel
theorem dX3_isStatement_122 : decode cX3_isStatement 122 = .ok (.iconst 1, 1) := by decide +kernel
theorem dX3_isStatement_123 : decode cX3_isStatement 123 = .ok (.goto 4, 3) := by decide +kernel
theorem dX3_isStatement_126 : decode cX3_isStatement 126 = .ok (.iconst 0, 1) := by decide +kernel
theorem dX3_isStatement_127 : decode cX3_isStatement 127 = .ok (.ireturn, 1) := by decide +kernel
theorem dX3_isFootTold_0 : decode cX3_isFootTold 0 = .ok (.aload_n 0, 1) := by decide +kernel
theorem dX3_isFootTold_1 : decode cX3_isFootTold 1 = .ok (.invokevirtual 39, 3) := by decide +kernel
theorem dX3_isFootTold_4 : decode cX3_isFootTold 4 = .ok (.aload_n 0, 1) := by decide +kernel
theorem dX3_isFootTold_5 : decode cX3_isFootTold 5 = .ok (.iconst 0, 1) := by decide +kernel
theorem dX3_isFootTold_6 : decode cX3_isFootTold 6 = .ok (.iconst 5, 1) := by decide +kernel
theorem dX3_isFootTold_7 : decode cX3_isFootTold 7 = .ok (.invokevirtual 104, 3) := by decide +kernel
theorem dX3_isFootTold_10 : decode cX3_isFootTold 10 = .ok (.istore_n 2, 1) := by decide +kernel
theorem dX3_isFootTold_11 : decode cX3_isFootTold 11 = .ok (.iload_n 2, 1) := by decide +kernel
theorem dX3_isFootTold_12 : decode cX3_isFootTold 12 = .ok (.iconst (-1), 1) := by decide +kernel
theorem dX3_isFootTold_13 : decode cX3_isFootTold 13 = .ok (.if_icmp .ne 5, 3) := by decide +kernel
theorem dX3_isFootTold_16 : decode cX3_isFootTold 16 = .ok (.iconst 0, 1) := by decide +kernel
theorem dX3_isFootTold_17 : decode cX3_isFootTold 17 = .ok (.ireturn, 1) := by decide +kernel
theorem dX3_isFootTold_18 : decode cX3_isFootTold 18 = .ok (.aload_n 0, 1) := by decide +kernel
theorem dX3_isFootTold_19 : decode cX3_isFootTold 19 = .ok (.iconst 0, 1) := by decide +kernel
theorem dX3_isFootTold_20 : decode cX3_isFootTold 20 = .ok (.bipush 9, 2) := by decide +kernel
theorem dX3_isFootTold_22 : decode cX3_isFootTold 22 = .ok (.invokevirtual 104, 3) := by decide +kernel
theorem dX3_isFootTold_25 : decode cX3_isFootTold 25 = .ok (.istore_n 3, 1) := by decide +kernel
theorem dX3_isFootTold_26 : decode cX3_isFootTold 26 = .ok (.iload_n 3, 1) := by decide +kernel
theorem dX3_isFootTold_27 : decode cX3_isFootTold 27 = .ok (.iconst (-1), 1) := by decide +kernel
theorem dX3_isFootTold_28 : decode cX3_isFootTold 28 = .ok (.if_icmp .ne 5, 3) := by decide +kernel
theorem dX3_isFootTold_31 : decode cX3_isFootTold 31 = .ok (.iconst 0, 1) := by decide +kernel
theorem dX3_isFootTold_32 : decode cX3_isFootTold 32 = .ok (.ireturn, 1) := by decide +kernel
theorem dX3_isFootTold_33 : decode cX3_isFootTold 33 = .ok (.aload_n 0, 1) := by decide +kernel
theorem dX3_isFootTold_34 : decode cX3_isFootTold 34 = .ok (.iconst 1, 1) := by decide +kernel
theorem dX3_isFootTold_35 : decode cX3_isFootTold 35 = .ok (.bipush 99, 2) := by decide +kernel
theorem dX3_isFootTold_37 : decode cX3_isFootTold 37 = .ok (.invokevirtual 104, 3) := by decide +kernel
theorem dX3_isFootTold_40 : decode cX3_isFootTold 40 = .ok (.istore 4, 2) := by decide +kernel
theorem dX3_isFootTold_42 : decode cX3_isFootTold 42 = .ok (.iload 4, 2) := by decide +kernel
theorem dX3_isFootTold_44 : decode cX3_isFootTold 44 = .ok (.iconst (-1), 1) := by decide +kernel
theorem dX3_isFootTold_45 : decode cX3_isFootTold 45 = .ok (.if_icmp .ne 5, 3) := by decide +kernel
theorem dX3_isFootTold_48 : decode cX3_isFootTold 48 = .ok (.iconst 0, 1) := by decide +kernel
theorem dX3_isFootTold_49 : decode cX3_isFootTold 49 = .ok (.ireturn, 1) := by decide +kernel
theorem dX3_isFootTold_50 : decode cX3_isFootTold 50 = .ok (.aload_n 1, 1) := by decide +kernel
theorem dX3_isFootTold_51 : decode cX3_isFootTold 51 = .ok (.iload_n 2, 1) := by decide +kernel
theorem dX3_isFootTold_52 : decode cX3_isFootTold 52 = .ok (.iload_n 3, 1) := by decide +kernel
theorem dX3_isFootTold_53 : decode cX3_isFootTold 53 = .ok (.iload 4, 2) := by decide +kernel
theorem dX3_isFootTold_55 : decode cX3_isFootTold 55 = .ok (.invokevirtual 108, 3) := by decide +kernel
theorem dX3_isFootTold_58 : decode cX3_isFootTold 58 = .ok (.pop, 1) := by decide +kernel
theorem dX3_isFootTold_59 : decode cX3_isFootTold 59 = .ok (.iconst 1, 1) := by decide +kernel
theorem dX3_isFootTold_60 : decode cX3_isFootTold 60 = .ok (.ireturn, 1) := by decide +kernel
theorem dX3_isSideTold_0 : decode cX3_isSideTold 0 = .ok (.aload_n 0, 1) := by decide +kernel
theorem dX3_isSideTold_1 : decode cX3_isSideTold 1 = .ok (.iconst 2, 1) := by decide +kernel
theorem dX3_isSideTold_2 : decode cX3_isSideTold 2 = .ok (.bipush 6, 2) := by decide +kernel
theorem dX3_isSideTold_4 : decode cX3_isSideTold 4 = .ok (.invokevirtual 104, 3) := by decide +kernel
theorem dX3_isSideTold_7 : decode cX3_isSideTold 7 = .ok (.istore_n 2, 1) := by decide +kernel
theorem dX3_isSideTold_8 : decode cX3_isSideTold 8 = .ok (.iload_n 2, 1) := by decide +kernel
theorem dX3_isSideTold_9 : decode cX3_isSideTold 9 = .ok (.iconst (-1), 1) := by decide +kernel
theorem dX3_isSideTold_10 : decode cX3_isSideTold 10 = .ok (.if_icmp .ne 5, 3) := by decide +kernel
theorem dX3_isSideTold_13 : decode cX3_isSideTold 13 = .ok (.iconst 0, 1) := by decide +kernel
theorem dX3_isSideTold_14 : decode cX3_isSideTold 14 = .ok (.ireturn, 1) := by decide +kernel
theorem dX3_isSideTold_15 : decode cX3_isSideTold 15 = .ok (.aload_n 1, 1) := by decide +kernel
theorem dX3_isSideTold_16 : decode cX3_isSideTold 16 = .ok (.iload_n 2, 1) := by decide +kernel
theorem dX3_isSideTold_17 : decode cX3_isSideTold 17 = .ok (.invokevirtual 112, 3) := by decide +kernel
theorem dX3_isSideTold_20 : decode cX3_isSideTold 20 = .ok (.iconst 1, 1) := by decide +kernel
theorem dX3_isSideTold_21 : decode cX3_isSideTold 21 = .ok (.ireturn, 1) := by decide +kernel
theorem dX3_isGravelTold_0 : decode cX3_isGravelTold 0 = .ok (.aload_n 0, 1) := by decide +kernel
theorem dX3_isGravelTold_1 : decode cX3_isGravelTold 1 = .ok (.iconst 0, 1) := by decide +kernel
theorem dX3_isGravelTold_2 : decode cX3_isGravelTold 2 = .ok (.aload_n 1, 1) := by decide +kernel
theorem dX3_isGravelTold_3 : decode cX3_isGravelTold 3 = .ok (.invokevirtual 116, 3) := by decide +kernel
theorem dX3_isGravelTold_6 : decode cX3_isGravelTold 6 = .ok (.iconst 1, 1) := by decide +kernel
theorem dX3_isGravelTold_7 : decode cX3_isGravelTold 7 = .ok (.isub, 1) := by decide +kernel
theorem dX3_isGravelTold_8 : decode cX3_isGravelTold 8 = .ok (.invokevirtual 104, 3) := by decide +kernel
theorem dX3_isGravelTold_11 : decode cX3_isGravelTold 11 = .ok (.istore_n 2, 1) := by decide +kernel
theorem dX3_isGravelTold_12 : decode cX3_isGravelTold 12 = .ok (.iload_n 2, 1) := by decide +kernel
theorem dX3_isGravelTold_13 : decode cX3_isGravelTold 13 = .ok (.iconst (-1), 1) := by decide +kernel
theorem dX3_isGravelTold_14 : decode cX3_isGravelTold 14 = .ok (.if_icmp .ne 5, 3) := by decide +kernel
theorem dX3_isGravelTold_17 : decode cX3_isGravelTold 17 = .ok (.iconst 0, 1) := by decide +kernel
theorem dX3_isGravelTold_18 : decode cX3_isGravelTold 18 = .ok (.ireturn, 1) := by decide +kernel
theorem dX3_isGravelTold_19 : decode cX3_isGravelTold 19 = .ok (.aload_n 0, 1) := by decide +kernel
theorem dX3_isGravelTold_20 : decode cX3_isGravelTold 20 = .ok (.iconst 0, 1) := by decide +kernel
theorem dX3_isGravelTold_21 : decode cX3_isGravelTold 21 = .ok (.bipush 9, 2) := by decide +kernel
theorem dX3_isGravelTold_23 : decode cX3_isGravelTold 23 = .ok (.invokevirtual 104, 3) := by decide +kernel
theorem dX3_isGravelTold_26 : decode cX3_isGravelTold 26 = .ok (.istore_n 3, 1) := by decide +kernel
theorem dX3_isGravelTold_27 : decode cX3_isGravelTold 27 = .ok (.iload_n 3, 1) := by decide +kernel
theorem dX3_isGravelTold_28 : decode cX3_isGravelTold 28 = .ok (.iconst (-1), 1) := by decide +kernel
theorem dX3_isGravelTold_29 : decode cX3_isGravelTold 29 = .ok (.if_icmp .ne 5, 3) := by decide +kernel
theorem dX3_isGravelTold_32 : decode cX3_isGravelTold 32 = .ok (.iconst 0, 1) := by decide +kernel
theorem dX3_isGravelTold_33 : decode cX3_isGravelTold 33 = .ok (.ireturn, 1) := by decide +kernel
theorem dX3_isGravelTold_34 : decode cX3_isGravelTold 34 = .ok (.aload_n 1, 1) := by decide +kernel
theorem dX3_isGravelTold_35 : decode cX3_isGravelTold 35 = .ok (.iload_n 2, 1) := by decide +kernel
theorem dX3_isGravelTold_36 : decode cX3_isGravelTold 36 = .ok (.iload_n 3, 1) := by decide +kernel
theorem dX3_isGravelTold_37 : decode cX3_isGravelTold 37 = .ok (.invokevirtual 119, 3) := by decide +kernel
theorem dX3_isGravelTold_40 : decode cX3_isGravelTold 40 = .ok (.iconst 1, 1) := by decide +kernel
theorem dX3_isGravelTold_41 : decode cX3_isGravelTold 41 = .ok (.ireturn, 1) := by decide +kernel
theorem dX3_isPlankTold_0 : decode cX3_isPlankTold 0 = .ok (.aload_n 0, 1) := by decide +kernel
theorem dX3_isPlankTold_1 : decode cX3_isPlankTold 1 = .ok (.iconst 0, 1) := by decide +kernel
theorem dX3_isPlankTold_2 : decode cX3_isPlankTold 2 = .ok (.aload_n 1, 1) := by decide +kernel
theorem dX3_isPlankTold_3 : decode cX3_isPlankTold 3 = .ok (.invokevirtual 116, 3) := by decide +kernel
theorem dX3_isPlankTold_6 : decode cX3_isPlankTold 6 = .ok (.iconst 1, 1) := by decide +kernel
theorem dX3_isPlankTold_7 : decode cX3_isPlankTold 7 = .ok (.isub, 1) := by decide +kernel
theorem dX3_isPlankTold_8 : decode cX3_isPlankTold 8 = .ok (.invokevirtual 104, 3) := by decide +kernel
theorem dX3_isPlankTold_11 : decode cX3_isPlankTold 11 = .ok (.istore_n 2, 1) := by decide +kernel
theorem dX3_isPlankTold_12 : decode cX3_isPlankTold 12 = .ok (.iload_n 2, 1) := by decide +kernel
theorem dX3_isPlankTold_13 : decode cX3_isPlankTold 13 = .ok (.iconst (-1), 1) := by decide +kernel
theorem dX3_isPlankTold_14 : decode cX3_isPlankTold 14 = .ok (.if_icmp .ne 5, 3) := by decide +kernel
theorem dX3_isPlankTold_17 : decode cX3_isPlankTold 17 = .ok (.iconst 0, 1) := by decide +kernel
theorem dX3_isPlankTold_18 : decode cX3_isPlankTold 18 = .ok (.ireturn, 1) := by decide +kernel
theorem dX3_isPlankTold_19 : decode cX3_isPlankTold 19 = .ok (.aload_n 1, 1) := by decide +kernel
theorem dX3_isPlankTold_20 : decode cX3_isPlankTold 20 = .ok (.iload_n 2, 1) := by decide +kernel
theorem dX3_isPlankTold_21 : decode cX3_isPlankTold 21 = .ok (.iconst 0, 1) := by decide +kernel
theorem dX3_isPlankTold_22 : decode cX3_isPlankTold 22 = .ok (.invokevirtual 119, 3) := by decide +kernel
theorem dX3_isPlankTold_25 : decode cX3_isPlankTold 25 = .ok (.iconst 1, 1) := by decide +kernel
theorem dX3_isPlankTold_26 : decode cX3_isPlankTold 26 = .ok (.ireturn, 1) := by decide +kernel
theorem dX3_isRainTold_0 : decode cX3_isRainTold 0 = .ok (.aload_n 0, 1) := by decide +kernel
theorem dX3_isRainTold_1 : decode cX3_isRainTold 1 = .ok (.iconst 0, 1) := by decide +kernel
theorem dX3_isRainTold_2 : decode cX3_isRainTold 2 = .ok (.bipush 9, 2) := by decide +kernel
theorem dX3_isRainTold_4 : decode cX3_isRainTold 4 = .ok (.invokevirtual 104, 3) := by decide +kernel
theorem dX3_isRainTold_7 : decode cX3_isRainTold 7 = .ok (.istore_n 2, 1) := by decide +kernel
theorem dX3_isRainTold_8 : decode cX3_isRainTold 8 = .ok (.iload_n 2, 1) := by decide +kernel
theorem dX3_isRainTold_9 : decode cX3_isRainTold 9 = .ok (.iconst (-1), 1) := by decide +kernel
theorem dX3_isRainTold_10 : decode cX3_isRainTold 10 = .ok (.if_icmp .ne 5, 3) := by decide +kernel
theorem dX3_isRainTold_13 : decode cX3_isRainTold 13 = .ok (.iconst 0, 1) := by decide +kernel
theorem dX3_isRainTold_14 : decode cX3_isRainTold 14 = .ok (.ireturn, 1) := by decide +kernel
theorem dX3_isRainTold_15 : decode cX3_isRainTold 15 = .ok (.aload_n 1, 1) := by decide +kernel
theorem dX3_isRainTold_16 : decode cX3_isRainTold 16 = .ok (.iload_n 2, 1) := by decide +kernel
theorem dX3_isRainTold_17 : decode cX3_isRainTold 17 = .ok (.putfield 123, 3) := by decide +kernel
theorem dX3_isRainTold_20 : decode cX3_isRainTold 20 = .ok (.iconst 1, 1) := by decide +kernel
theorem dX3_isRainTold_21 : decode cX3_isRainTold 21 = .ok (.ireturn, 1) := by decide +kernel
theorem dX3_isEarTold_0 : decode cX3_isEarTold 0 = .ok (.aload_n 0, 1) := by decide +kernel
theorem dX3_isEarTold_1 : decode cX3_isEarTold 1 = .ok (.iconst 1, 1) := by decide +kernel
theorem dX3_isEarTold_2 : decode cX3_isEarTold 2 = .ok (.bipush 99, 2) := by decide +kernel
theorem dX3_isEarTold_4 : decode cX3_isEarTold 4 = .ok (.invokevirtual 104, 3) := by decide +kernel
theorem dX3_isEarTold_7 : decode cX3_isEarTold 7 = .ok (.istore_n 2, 1) := by decide +kernel
theorem dX3_isEarTold_8 : decode cX3_isEarTold 8 = .ok (.iload_n 2, 1) := by decide +kernel
theorem dX3_isEarTold_9 : decode cX3_isEarTold 9 = .ok (.iconst (-1), 1) := by decide +kernel
theorem dX3_isEarTold_10 : decode cX3_isEarTold 10 = .ok (.if_icmp .ne 5, 3) := by decide +kernel
theorem dX3_isEarTold_13 : decode cX3_isEarTold 13 = .ok (.iconst 0, 1) := by decide +kernel
theorem dX3_isEarTold_14 : decode cX3_isEarTold 14 = .ok (.ireturn, 1) := by decide +kernel
theorem dX3_isEarTold_15 : decode cX3_isEarTold 15 = .ok (.aload_n 1, 1) := by decide +kernel
theorem dX3_isEarTold_16 : decode cX3_isEarTold 16 = .ok (.iload_n 2, 1) := by decide +kernel
theorem dX3_isEarTold_17 : decode cX3_isEarTold 17 = .ok (.putfield 125, 3) := by decide +kernel
theorem dX3_isEarTold_20 : decode cX3_isEarTold 20 = .ok (.iconst 1, 1) := by decide +kernel
theorem dX3_isEarTold_21 : decode cX3_isEarTold 21 = .ok (.ireturn, 1) := by decide +kernel

theorem dX4_init_0 : decode cX4_init 0 = .ok (.aload_n 0, 1) := by decide +kernel
theorem dX4_init_1 : decode cX4_init 1 = .ok (.invokespecial 1, 3) := by decide +kernel
theorem dX4_init_4 : decode cX4_init 4 = .ok (.aload_n 0, 1) := by decide +kernel
theorem dX4_init_5 : decode cX4_init 5 = .ok (.new 7, 3) := by decide +kernel
theorem dX4_init_8 : decode cX4_init 8 = .ok (.dup, 1) := by decide +kernel
theorem dX4_init_9 : decode cX4_init 9 = .ok (.invokespecial 9, 3) := by decide +kernel
theorem dX4_init_12 : decode cX4_init 12 = .ok (.putfield 10, 3) := by decide +kernel
theorem dX4_init_15 : decode cX4_init 15 = .ok (.aload_n 0, 1) := by decide +kernel
theorem dX4_init_16 : decode cX4_init 16 = .ok (.new 7, 3) := by decide +kernel
theorem dX4_init_19 : decode cX4_init 19 = .ok (.dup, 1) := by decide +kernel
theorem dX4_init_20 : decode cX4_init 20 = .ok (.invokespecial 9, 3) := by decide +kernel
theorem dX4_init_23 : decode cX4_init 23 = .ok (.putfield 16, 3) := by decide +kernel
theorem dX4_init_26 : decode cX4_init 26 = .ok (.aload_n 0, 1) := by decide +kernel
theorem dX4_init_27 : decode cX4_init 27 = .ok (.new 7, 3) := by decide +kernel
theorem dX4_init_30 : decode cX4_init 30 = .ok (.dup, 1) := by decide +kernel
theorem dX4_init_31 : decode cX4_init 31 = .ok (.invokespecial 9, 3) := by decide +kernel
theorem dX4_init_34 : decode cX4_init 34 = .ok (.putfield 19, 3) := by decide +kernel
theorem dX4_init_37 : decode cX4_init 37 = .ok (.aload_n 0, 1) := by decide +kernel
theorem dX4_init_38 : decode cX4_init 38 = .ok (.new 22, 3) := by decide +kernel
theorem dX4_init_41 : decode cX4_init 41 = .ok (.dup, 1) := by decide +kernel
theorem dX4_init_42 : decode cX4_init 42 = .ok (.invokespecial 24, 3) := by decide +kernel
theorem dX4_init_45 : decode cX4_init 45 = .ok (.putfield 25, 3) := by decide +kernel
theorem dX4_init_48 : decode cX4_init 48 = .ok (.aload_n 0, 1) := by decide +kernel
theorem dX4_init_49 : decode cX4_init 49 = .ok (.new 29, 3) := by decide +kernel
theorem dX4_init_52 : decode cX4_init 52 = .ok (.dup, 1) := by decide +kernel
theorem dX4_init_53 : decode cX4_init 53 = .ok (.invokespecial 31, 3) := by decide +kernel
theorem dX4_init_56 : decode cX4_init 56 = .ok (.putfield 32, 3) := by decide +kernel
theorem dX4_init_59 : decode cX4_init 59 = .ok (.aload_n 0, 1) := by decide +kernel
theorem dX4_init_60 : decode cX4_init 60 = .ok (.new 36, 3) := by decide +kernel
theorem dX4_init_63 : decode cX4_init 63 = .ok (.dup, 1) := by decide +kernel
theorem dX4_init_64 : decode cX4_init 64 = .ok (.invokespecial 38, 3) := by decide +kernel
theorem dX4_init_67 : decode cX4_init 67 = .ok (.putfield 39, 3) := by decide +kernel
theorem dX4_init_70 : decode cX4_init 70 = .ok (.aload_n 0, 1) := by decide +kernel
theorem dX4_init_71 : decode cX4_init 71 = .ok (.bipush 8, 2) := by decide +kernel
theorem dX4_init_73 : decode cX4_init 73 = .ok (.newarray .long, 2) := by decide +kernel
theorem dX4_init_75 : decode cX4_init 75 = .ok (.putfield 43, 3) := by decide +kernel
theorem dX4_init_78 : decode cX4_init 78 = .ok (.aload_n 0, 1) := by decide +kernel
theorem dX4_init_79 : decode cX4_init 79 = .ok (.bipush 8, 2) := by decide +kernel
theorem dX4_init_81 : decode cX4_init 81 = .ok (.newarray .int, 2) := by decide +kernel
theorem dX4_init_83 : decode cX4_init 83 = .ok (.putfield 47, 3) := by decide +kernel
theorem dX4_init_86 : decode cX4_init 86 = .ok (.aload_n 0, 1) := by decide +kernel
theorem dX4_init_87 : decode cX4_init 87 = .ok (.iconst 5, 1) := by decide +kernel
theorem dX4_init_88 : decode cX4_init 88 = .ok (.newarray .int, 2) := by decide +kernel
theorem dX4_init_90 : decode cX4_init 90 = .ok (.putfield 51, 3) := by decide +kernel
theorem dX4_init_93 : decode cX4_init 93 = .ok (.aload_n 0, 1) := by decide +kernel
theorem dX4_init_94 : decode cX4_init 94 = .ok (.iconst 0, 1) := by decide +kernel
theorem dX4_init_95 : decode cX4_init 95 = .ok (.putfield 54, 3) := by decide +kernel
theorem dX4_init_98 : decode cX4_init 98 = .ok (.return_, 1) := by decide +kernel
theorem dX4_row_0 : decode cX4_row 0 = .ok (.iload_n 1, 1) := by decide +kernel
theorem dX4_row_1 : decode cX4_row 1 = .ok (.invokestatic 58, 3) := by decide +kernel
theorem dX4_row_4 : decode cX4_row 4 = .ok (.ifCond .eq 22, 3) := by decide +kernel
theorem dX4_row_7 : decode cX4_row 7 = .ok (.iload_n 2, 1) := by decide +kernel
theorem dX4_row_8 : decode cX4_row 8 = .ok (.iconst 0, 1) := by decide +kernel
theorem dX4_row_9 : decode cX4_row 9 = .ok (.iconst 4, 1) := by decide +kernel
theorem dX4_row_10 : decode cX4_row 10 = .ok (.invokestatic 62, 3) := by decide +kernel
theorem dX4_row_13 : decode cX4_row 13 = .ok (.ifCond .eq 13, 3) := by decide +kernel
theorem dX4_row_16 : decode cX4_row 16 = .ok (.iload_n 3, 1) := by decide +kernel
theorem dX4_row_17 : decode cX4_row 17 = .ok (.iconst 0, 1) := by decide +kernel
theorem dX4_row_18 : decode cX4_row 18 = .ok (.bipush 40, 2) := by decide +kernel
theorem dX4_row_20 : decode cX4_row 20 = .ok (.invokestatic 62, 3) := by decide +kernel
theorem dX4_row_23 : decode cX4_row 23 = .ok (.ifCond .ne 10, 3) := by decide +kernel
theorem dX4_row_26 : decode cX4_row 26 = .ok (.aload_n 0, 1) := by decide +kernel
theorem dX4_row_27 : decode cX4_row 27 = .ok (.bipush (-2), 2) := by decide +kernel
theorem dX4_row_29 : decode cX4_row 29 = .ok (.invokevirtual 66, 3) := by decide +kernel
theorem dX4_row_32 : decode cX4_row 32 = .ok (.ireturn, 1) := by decide +kernel
theorem dX4_row_33 : decode cX4_row 33 = .ok (.aload_n 0, 1) := by decide +kernel
theorem dX4_row_34 : decode cX4_row 34 = .ok (.getfield 25, 3) := by decide +kernel
theorem dX4_row_37 : decode cX4_row 37 = .ok (.iload_n 1, 1) := by decide +kernel
theorem dX4_row_38 : decode cX4_row 38 = .ok (.iload_n 2, 1) := by decide +kernel
theorem dX4_row_39 : decode cX4_row 39 = .ok (.iload_n 3, 1) := by decide +kernel
theorem dX4_row_40 : decode cX4_row 40 = .ok (.invokevirtual 70, 3) := by decide +kernel
theorem dX4_row_43 : decode cX4_row 43 = .ok (.iconst 1, 1) := by decide +kernel
theorem dX4_row_44 : decode cX4_row 44 = .ok (.ireturn, 1) := by decide +kernel
theorem dX4_set_0 : decode cX4_set 0 = .ok (.iload_n 1, 1) := by decide +kernel
theorem dX4_set_1 : decode cX4_set 1 = .ok (.invokestatic 58, 3) := by decide +kernel
theorem dX4_set_4 : decode cX4_set 4 = .ok (.ifCond .ne 10, 3) := by decide +kernel
theorem dX4_set_7 : decode cX4_set 7 = .ok (.aload_n 0, 1) := by decide +kernel
theorem dX4_set_8 : decode cX4_set 8 = .ok (.bipush (-2), 2) := by decide +kernel
theorem dX4_set_10 : decode cX4_set 10 = .ok (.invokevirtual 66, 3) := by decide +kernel
theorem dX4_set_13 : decode cX4_set 13 = .ok (.ireturn, 1) := by decide +kernel
theorem dX4_set_14 : decode cX4_set 14 = .ok (.aload_n 0, 1) := by decide +kernel
theorem dX4_set_15 : decode cX4_set 15 = .ok (.getfield 25, 3) := by decide +kernel
theorem dX4_set_18 : decode cX4_set 18 = .ok (.iload_n 1, 1) := by decide +kernel
theorem dX4_set_19 : decode cX4_set 19 = .ok (.invokevirtual 74, 3) := by decide +kernel
theorem dX4_set_22 : decode cX4_set 22 = .ok (.istore 5, 2) := by decide +kernel
theorem dX4_set_24 : decode cX4_set 24 = .ok (.iload 5, 2) := by decide +kernel
theorem dX4_set_26 : decode cX4_set 26 = .ok (.ifCond .eq 10, 3) := by decide +kernel
theorem dX4_set_29 : decode cX4_set 29 = .ok (.aload_n 0, 1) := by decide +kernel
theorem dX4_set_30 : decode cX4_set 30 = .ok (.iload 5, 2) := by decide +kernel
theorem dX4_set_32 : decode cX4_set 32 = .ok (.invokevirtual 66, 3) := by decide +kernel
theorem dX4_set_35 : decode cX4_set 35 = .ok (.ireturn, 1) := by decide +kernel
theorem dX4_set_36 : decode cX4_set 36 = .ok (.iload_n 2, 1) := by decide +kernel
theorem dX4_set_37 : decode cX4_set 37 = .ok (.iconst 0, 1) := by decide +kernel
theorem dX4_set_38 : decode cX4_set 38 = .ok (.aload_n 0, 1) := by decide +kernel
theorem dX4_set_39 : decode cX4_set 39 = .ok (.getfield 25, 3) := by decide +kernel
theorem dX4_set_42 : decode cX4_set 42 = .ok (.iload_n 1, 1) := by decide +kernel
theorem dX4_set_43 : decode cX4_set 43 = .ok (.invokevirtual 77, 3) := by decide +kernel
theorem dX4_set_46 : decode cX4_set 46 = .ok (.iconst 1, 1) := by decide +kernel
theorem dX4_set_47 : decode cX4_set 47 = .ok (.isub, 1) := by decide +kernel
theorem dX4_set_48 : decode cX4_set 48 = .ok (.invokestatic 62, 3) := by decide +kernel
theorem dX4_set_51 : decode cX4_set 51 = .ok (.ifCond .ne 10, 3) := by decide +kernel
theorem dX4_set_54 : decode cX4_set 54 = .ok (.aload_n 0, 1) := by decide +kernel
theorem dX4_set_55 : decode cX4_set 55 = .ok (.bipush (-2), 2) := by decide +kernel
theorem dX4_set_57 : decode cX4_set 57 = .ok (.invokevirtual 66, 3) := by decide +kernel
theorem dX4_set_60 : decode cX4_set 60 = .ok (.ireturn, 1) := by decide +kernel
theorem dX4_set_61 : decode cX4_set 61 = .ok (.aload_n 0, 1) := by decide +kernel
theorem dX4_set_62 : decode cX4_set 62 = .ok (.getfield 25, 3) := by decide +kernel
theorem dX4_set_65 : decode cX4_set 65 = .ok (.iload_n 1, 1) := by decide +kernel
theorem dX4_set_66 : decode cX4_set 66 = .ok (.iload_n 2, 1) := by decide +kernel
theorem dX4_set_67 : decode cX4_set 67 = .ok (.lload_n 3, 1) := by decide +kernel
theorem dX4_set_68 : decode cX4_set 68 = .ok (.invokevirtual 80, 3) := by decide +kernel
theorem dX4_set_71 : decode cX4_set 71 = .ok (.iconst 1, 1) := by decide +kernel
theorem dX4_set_72 : decode cX4_set 72 = .ok (.ireturn, 1) := by decide +kernel
theorem dX4_copy_0 : decode cX4_copy 0 = .ok (.iload_n 1, 1) := by decide +kernel
theorem dX4_copy_1 : decode cX4_copy 1 = .ok (.invokestatic 58, 3) := by decide +kernel
theorem dX4_copy_4 : decode cX4_copy 4 = .ok (.ifCond .eq 10, 3) := by decide +kernel
theorem dX4_copy_7 : decode cX4_copy 7 = .ok (.iload_n 2, 1) := by decide +kernel
theorem dX4_copy_8 : decode cX4_copy 8 = .ok (.invokestatic 58, 3) := by decide +kernel
theorem dX4_copy_11 : decode cX4_copy 11 = .ok (.ifCond .ne 10, 3) := by decide +kernel
theorem dX4_copy_14 : decode cX4_copy 14 = .ok (.aload_n 0, 1) := by decide +kernel
theorem dX4_copy_15 : decode cX4_copy 15 = .ok (.bipush (-2), 2) := by decide +kernel
theorem dX4_copy_17 : decode cX4_copy 17 = .ok (.invokevirtual 66, 3) := by decide +kernel
theorem dX4_copy_20 : decode cX4_copy 20 = .ok (.ireturn, 1) := by decide +kernel
theorem dX4_copy_21 : decode cX4_copy 21 = .ok (.aload_n 0, 1) := by decide +kernel
theorem dX4_copy_22 : decode cX4_copy 22 = .ok (.getfield 25, 3) := by decide +kernel
theorem dX4_copy_25 : decode cX4_copy 25 = .ok (.iload_n 1, 1) := by decide +kernel
theorem dX4_copy_26 : decode cX4_copy 26 = .ok (.iload_n 2, 1) := by decide +kernel
theorem dX4_copy_27 : decode cX4_copy 27 = .ok (.invokevirtual 84, 3) := by decide +kernel
theorem dX4_copy_30 : decode cX4_copy 30 = .ok (.istore 6, 2) := by decide +kernel
theorem dX4_copy_32 : decode cX4_copy 32 = .ok (.iload 6, 2) := by decide +kernel
theorem dX4_copy_34 : decode cX4_copy 34 = .ok (.ifCond .eq 10, 3) := by decide +kernel
theorem dX4_copy_37 : decode cX4_copy 37 = .ok (.aload_n 0, 1) := by decide +kernel
theorem dX4_copy_38 : decode cX4_copy 38 = .ok (.iload 6, 2) := by decide +kernel
theorem dX4_copy_40 : decode cX4_copy 40 = .ok (.invokevirtual 66, 3) := by decide +kernel
theorem dX4_copy_43 : decode cX4_copy 43 = .ok (.ireturn, 1) := by decide +kernel
theorem dX4_copy_44 : decode cX4_copy 44 = .ok (.iload_n 3, 1) := by decide +kernel
theorem dX4_copy_45 : decode cX4_copy 45 = .ok (.iload 5, 2) := by decide +kernel
theorem dX4_copy_47 : decode cX4_copy 47 = .ok (.aload_n 0, 1) := by decide +kernel
theorem dX4_copy_48 : decode cX4_copy 48 = .ok (.getfield 25, 3) := by decide +kernel
theorem dX4_copy_51 : decode cX4_copy 51 = .ok (.iload_n 1, 1) := by decide +kernel
theorem dX4_copy_52 : decode cX4_copy 52 = .ok (.invokevirtual 77, 3) := by decide +kernel
theorem dX4_copy_55 : decode cX4_copy 55 = .ok (.invokestatic 88, 3) := by decide +kernel
theorem dX4_copy_58 : decode cX4_copy 58 = .ok (.ifCond .eq 21, 3) := by decide +kernel
theorem dX4_copy_61 : decode cX4_copy 61 = .ok (.iload 4, 2) := by decide +kernel
theorem dX4_copy_63 : decode cX4_copy 63 = .ok (.iload 5, 2) := by decide +kernel
theorem dX4_copy_65 : decode cX4_copy 65 = .ok (.aload_n 0, 1) := by decide +kernel
theorem dX4_copy_66 : decode cX4_copy 66 = .ok (.getfield 25, 3) := by decide +kernel
theorem dX4_copy_69 : decode cX4_copy 69 = .ok (.iload_n 2, 1) := by decide +kernel
theorem dX4_copy_70 : decode cX4_copy 70 = .ok (.invokevirtual 77, 3) := by decide +kernel
theorem dX4_copy_73 : decode cX4_copy 73 = .ok (.invokestatic 88, 3) := by decide +kernel
theorem dX4_copy_76 : decode cX4_copy 76 = .ok (.ifCond .ne 10, 3) := by decide +kernel
theorem dX4_copy_79 : decode cX4_copy 79 = .ok (.aload_n 0, 1) := by decide +kernel
theorem dX4_copy_80 : decode cX4_copy 80 = .ok (.bipush (-2), 2) := by decide +kernel
theorem dX4_copy_82 : decode cX4_copy 82 = .ok (.invokevirtual 66, 3) := by decide +kernel
theorem dX4_copy_85 : decode cX4_copy 85 = .ok (.ireturn, 1) := by decide +kernel
theorem dX4_copy_86 : decode cX4_copy 86 = .ok (.aload_n 0, 1) := by decide +kernel
theorem dX4_copy_87 : decode cX4_copy 87 = .ok (.getfield 25, 3) := by decide +kernel
theorem dX4_copy_90 : decode cX4_copy 90 = .ok (.iload_n 1, 1) := by decide +kernel
theorem dX4_copy_91 : decode cX4_copy 91 = .ok (.iload_n 2, 1) := by decide +kernel
theorem dX4_copy_92 : decode cX4_copy 92 = .ok (.iload_n 3, 1) := by decide +kernel
theorem dX4_copy_93 : decode cX4_copy 93 = .ok (.iload 4, 2) := by decide +kernel
theorem dX4_copy_95 : decode cX4_copy 95 = .ok (.iload 5, 2) := by decide +kernel
theorem dX4_copy_97 : decode cX4_copy 97 = .ok (.invokevirtual 91, 3) := by decide +kernel
theorem dX4_copy_100 : decode cX4_copy 100 = .ok (.iload 5, 2) := by decide +kernel
theorem dX4_copy_102 : decode cX4_copy 102 = .ok (.ireturn, 1) := by decide +kernel
theorem dX4_element_0 : decode cX4_element 0 = .ok (.aload_n 0, 1) := by decide +kernel
theorem dX4_element_1 : decode cX4_element 1 = .ok (.getfield 25, 3) := by decide +kernel
theorem dX4_element_4 : decode cX4_element 4 = .ok (.iload_n 1, 1) := by decide +kernel
theorem dX4_element_5 : decode cX4_element 5 = .ok (.iload_n 2, 1) := by decide +kernel
theorem dX4_element_6 : decode cX4_element 6 = .ok (.invokevirtual 95, 3) := by decide +kernel
theorem dX4_element_9 : decode cX4_element 9 = .ok (.lreturn, 1) := by decide +kernel
theorem dX4_holds_0 : decode cX4_holds 0 = .ok (.aload_n 0, 1) := by decide +kernel
theorem dX4_holds_1 : decode cX4_holds 1 = .ok (.getfield 25, 3) := by decide +kernel
theorem dX4_holds_4 : decode cX4_holds 4 = .ok (.iload_n 1, 1) := by decide +kernel
theorem dX4_holds_5 : decode cX4_holds 5 = .ok (.invokevirtual 99, 3) := by decide +kernel
theorem dX4_holds_8 : decode cX4_holds 8 = .ok (.ireturn, 1) := by decide +kernel
theorem dX4_show_0 : decode cX4_show 0 = .ok (.iload_n 1, 1) := by decide +kernel
theorem dX4_show_1 : decode cX4_show 1 = .ok (.invokestatic 58, 3) := by decide +kernel
theorem dX4_show_4 : decode cX4_show 4 = .ok (.ifCond .eq 16, 3) := by decide +kernel
theorem dX4_show_7 : decode cX4_show 7 = .ok (.iload_n 2, 1) := by decide +kernel
theorem dX4_show_8 : decode cX4_show 8 = .ok (.iconst (-1), 1) := by decide +kernel
theorem dX4_show_9 : decode cX4_show 9 = .ok (.if_icmp .eq 18, 3) := by decide +kernel
theorem dX4_show_12 : decode cX4_show 12 = .ok (.aload_n 0, 1) := by decide +kernel
theorem dX4_show_13 : decode cX4_show 13 = .ok (.iload_n 2, 1) := by decide +kernel
theorem dX4_show_14 : decode cX4_show 14 = .ok (.invokevirtual 102, 3) := by decide +kernel
theorem dX4_show_17 : decode cX4_show 17 = .ok (.ifCond .ne 10, 3) := by decide +kernel
theorem dX4_show_20 : decode cX4_show 20 = .ok (.aload_n 0, 1) := by decide +kernel
theorem dX4_show_21 : decode cX4_show 21 = .ok (.bipush (-2), 2) := by decide +kernel
theorem dX4_show_23 : decode cX4_show 23 = .ok (.invokevirtual 66, 3) := by decide +kernel
theorem dX4_show_26 : decode cX4_show 26 = .ok (.ireturn, 1) := by decide +kernel
theorem dX4_show_27 : decode cX4_show 27 = .ok (.aload_n 0, 1) := by decide +kernel
theorem dX4_show_28 : decode cX4_show 28 = .ok (.getfield 25, 3) := by decide +kernel
theorem dX4_show_31 : decode cX4_show 31 = .ok (.iload_n 1, 1) := by decide +kernel
theorem dX4_show_32 : decode cX4_show 32 = .ok (.iload_n 2, 1) := by decide +kernel
theorem dX4_show_33 : decode cX4_show 33 = .ok (.invokevirtual 105, 3) := by decide +kernel
theorem dX4_show_36 : decode cX4_show 36 = .ok (.iconst 1, 1) := by decide +kernel
theorem dX4_show_37 : decode cX4_show 37 = .ok (.ireturn, 1) := by decide +kernel
theorem dX4_says_0 : decode cX4_says 0 = .ok (.iload_n 1, 1) := by decide +kernel
theorem dX4_says_1 : decode cX4_says 1 = .ok (.invokestatic 58, 3) := by decide +kernel
theorem dX4_says_4 : decode cX4_says 4 = .ok (.ifCond .eq 12, 3) := by decide +kernel
theorem dX4_says_7 : decode cX4_says 7 = .ok (.iload_n 2, 1) := by decide +kernel
theorem dX4_says_8 : decode cX4_says 8 = .ok (.iconst 0, 1) := by decide +kernel
theorem dX4_says_9 : decode cX4_says 9 = .ok (.iconst 5, 1) := by decide +kernel
theorem dX4_says_10 : decode cX4_says 10 = .ok (.invokestatic 62, 3) := by decide +kernel
theorem dX4_says_13 : decode cX4_says 13 = .ok (.ifCond .ne 10, 3) := by decide +kernel
theorem dX4_says_16 : decode cX4_says 16 = .ok (.aload_n 0, 1) := by decide +kernel
theorem dX4_says_17 : decode cX4_says 17 = .ok (.bipush (-2), 2) := by decide +kernel
theorem dX4_says_19 : decode cX4_says 19 = .ok (.invokevirtual 66, 3) := by decide +kernel
theorem dX4_says_22 : decode cX4_says 22 = .ok (.ireturn, 1) := by decide +kernel
theorem dX4_says_23 : decode cX4_says 23 = .ok (.aload_n 0, 1) := by decide +kernel
theorem dX4_says_24 : decode cX4_says 24 = .ok (.getfield 25, 3) := by decide +kernel
theorem dX4_says_27 : decode cX4_says 27 = .ok (.iload_n 1, 1) := by decide +kernel
theorem dX4_says_28 : decode cX4_says 28 = .ok (.invokevirtual 99, 3) := by decide +kernel
theorem dX4_says_31 : decode cX4_says 31 = .ok (.istore_n 3, 1) := by decide +kernel
theorem dX4_says_32 : decode cX4_says 32 = .ok (.iload_n 3, 1) := by decide +kernel
theorem dX4_says_33 : decode cX4_says 33 = .ok (.iconst (-1), 1) := by decide +kernel
theorem dX4_says_34 : decode cX4_says 34 = .ok (.if_icmp .ne 10, 3) := by decide +kernel
theorem dX4_says_37 : decode cX4_says 37 = .ok (.aload_n 0, 1) := by decide +kernel
theorem dX4_says_38 : decode cX4_says 38 = .ok (.bipush (-4), 2) := by decide +kernel
theorem dX4_says_40 : decode cX4_says 40 = .ok (.invokevirtual 66, 3) := by decide +kernel
theorem dX4_says_43 : decode cX4_says 43 = .ok (.ireturn, 1) := by decide +kernel
theorem dX4_says_44 : decode cX4_says 44 = .ok (.iload_n 3, 1) := by decide +kernel
theorem dX4_says_45 : decode cX4_says 45 = .ok (.bipush 10, 2) := by decide +kernel
theorem dX4_says_47 : decode cX4_says 47 = .ok (.isub, 1) := by decide +kernel
theorem dX4_says_48 : decode cX4_says 48 = .ok (.istore 4, 2) := by decide +kernel
theorem dX4_says_50 : decode cX4_says 50 = .ok (.aload_n 0, 1) := by decide +kernel
theorem dX4_says_51 : decode cX4_says 51 = .ok (.iload 4, 2) := by decide +kernel
theorem dX4_says_53 : decode cX4_says 53 = .ok (.invokevirtual 102, 3) := by decide +kernel
theorem dX4_says_56 : decode cX4_says 56 = .ok (.ifCond .eq 19, 3) := by decide +kernel
theorem dX4_says_59 : decode cX4_says 59 = .ok (.aload_n 0, 1) := by decide +kernel
theorem dX4_says_60 : decode cX4_says 60 = .ok (.getfield 10, 3) := by decide +kernel
theorem dX4_says_63 : decode cX4_says 63 = .ok (.iload 4, 2) := by decide +kernel
theorem dX4_says_65 : decode cX4_says 65 = .ok (.invokevirtual 109, 3) := by decide +kernel
theorem dX4_says_68 : decode cX4_says 68 = .ok (.iload_n 2, 1) := by decide +kernel
theorem dX4_says_69 : decode cX4_says 69 = .ok (.invokestatic 112, 3) := by decide +kernel
theorem dX4_says_72 : decode cX4_says 72 = .ok (.ifCond .ne 10, 3) := by decide +kernel
theorem dX4_says_75 : decode cX4_says 75 = .ok (.aload_n 0, 1) := by decide +kernel
theorem dX4_says_76 : decode cX4_says 76 = .ok (.bipush (-3), 2) := by decide +kernel
theorem dX4_says_78 : decode cX4_says 78 = .ok (.invokevirtual 66, 3) := by decide +kernel
theorem dX4_says_81 : decode cX4_says 81 = .ok (.ireturn, 1) := by decide +kernel
theorem dX4_says_82 : decode cX4_says 82 = .ok (.iload_n 2, 1) := by decide +kernel
theorem dX4_says_83 : decode cX4_says 83 = .ok (.ifCond .ne 15, 3) := by decide +kernel
theorem dX4_says_86 : decode cX4_says 86 = .ok (.aload_n 0, 1) := by decide +kernel
theorem dX4_says_87 : decode cX4_says 87 = .ok (.getfield 10, 3) := by decide +kernel
theorem dX4_says_90 : decode cX4_says 90 = .ok (.iload 4, 2) := by decide +kernel
theorem dX4_says_92 : decode cX4_says 92 = .ok (.invokevirtual 116, 3) := by decide +kernel
theorem dX4_says_95 : decode cX4_says 95 = .ok (.goto 14, 3) := by decide +kernel
theorem dX4_says_98 : decode cX4_says 98 = .ok (.aload_n 0, 1) := by decide +kernel
theorem dX4_says_99 : decode cX4_says 99 = .ok (.getfield 10, 3) := by decide +kernel
theorem dX4_says_102 : decode cX4_says 102 = .ok (.iload 4, 2) := by decide +kernel
theorem dX4_says_104 : decode cX4_says 104 = .ok (.iconst 0, 1) := by decide +kernel
theorem dX4_says_105 : decode cX4_says 105 = .ok (.iconst 1, 1) := by decide +kernel
theorem dX4_says_106 : decode cX4_says 106 = .ok (.invokevirtual 119, 3) := by decide +kernel
theorem dX4_says_109 : decode cX4_says 109 = .ok (.ireturn, 1) := by decide +kernel
theorem dX4_side_0 : decode cX4_side 0 = .ok (.iload_n 1, 1) := by decide +kernel
theorem dX4_side_1 : decode cX4_side 1 = .ok (.iconst 2, 1) := by decide +kernel
theorem dX4_side_2 : decode cX4_side 2 = .ok (.bipush 6, 2) := by decide +kernel
theorem dX4_side_4 : decode cX4_side 4 = .ok (.invokestatic 62, 3) := by decide +kernel
theorem dX4_side_7 : decode cX4_side 7 = .ok (.ifCond .ne 10, 3) := by decide +kernel
theorem dX4_side_10 : decode cX4_side 10 = .ok (.aload_n 0, 1) := by decide +kernel
theorem dX4_side_11 : decode cX4_side 11 = .ok (.bipush (-2), 2) := by decide +kernel
theorem dX4_side_13 : decode cX4_side 13 = .ok (.invokevirtual 66, 3) := by decide +kernel
theorem dX4_side_16 : decode cX4_side 16 = .ok (.ireturn, 1) := by decide +kernel
theorem dX4_side_17 : decode cX4_side 17 = .ok (.aload_n 0, 1) := by decide +kernel
theorem dX4_side_18 : decode cX4_side 18 = .ok (.getfield 10, 3) := by decide +kernel
theorem dX4_side_21 : decode cX4_side 21 = .ok (.getfield 123, 3) := by decide +kernel
theorem dX4_side_24 : decode cX4_side 24 = .ok (.istore_n 2, 1) := by decide +kernel
theorem dX4_side_25 : decode cX4_side 25 = .ok (.aload_n 0, 1) := by decide +kernel
theorem dX4_side_26 : decode cX4_side 26 = .ok (.getfield 10, 3) := by decide +kernel
theorem dX4_side_29 : decode cX4_side 29 = .ok (.iload_n 1, 1) := by decide +kernel
theorem dX4_side_30 : decode cX4_side 30 = .ok (.invokevirtual 127, 3) := by decide +kernel
theorem dX4_side_33 : decode cX4_side 33 = .ok (.iload_n 2, 1) := by decide +kernel
theorem dX4_side_34 : decode cX4_side 34 = .ok (.ireturn, 1) := by decide +kernel
theorem dX4_gravel_0 : decode cX4_gravel 0 = .ok (.aload_n 0, 1) := by decide +kernel
theorem dX4_gravel_1 : decode cX4_gravel 1 = .ok (.iload_n 1, 1) := by decide +kernel
theorem dX4_gravel_2 : decode cX4_gravel 2 = .ok (.invokevirtual 131, 3) := by decide +kernel
theorem dX4_gravel_5 : decode cX4_gravel 5 = .ok (.ifCond .eq 13, 3) := by decide +kernel
theorem dX4_gravel_8 : decode cX4_gravel 8 = .ok (.iload_n 2, 1) := by decide +kernel
theorem dX4_gravel_9 : decode cX4_gravel 9 = .ok (.iconst 0, 1) := by decide +kernel
theorem dX4_gravel_10 : decode cX4_gravel 10 = .ok (.bipush 9, 2) := by decide +kernel
theorem dX4_gravel_12 : decode cX4_gravel 12 = .ok (.invokestatic 62, 3) := by decide +kernel
theorem dX4_gravel_15 : decode cX4_gravel 15 = .ok (.ifCond .ne 10, 3) := by decide +kernel
theorem dX4_gravel_18 : decode cX4_gravel 18 = .ok (.aload_n 0, 1) := by decide +kernel
theorem dX4_gravel_19 : decode cX4_gravel 19 = .ok (.bipush (-2), 2) := by decide +kernel
theorem dX4_gravel_21 : decode cX4_gravel 21 = .ok (.invokevirtual 66, 3) := by decide +kernel
theorem dX4_gravel_24 : decode cX4_gravel 24 = .ok (.ireturn, 1) := by decide +kernel
theorem dX4_gravel_25 : decode cX4_gravel 25 = .ok (.aload_n 0, 1) := by decide +kernel
theorem dX4_gravel_26 : decode cX4_gravel 26 = .ok (.getfield 10, 3) := by decide +kernel
theorem dX4_gravel_29 : decode cX4_gravel 29 = .ok (.iload_n 1, 1) := by decide +kernel
theorem dX4_gravel_30 : decode cX4_gravel 30 = .ok (.invokevirtual 134, 3) := by decide +kernel
theorem dX4_gravel_33 : decode cX4_gravel 33 = .ok (.istore_n 3, 1) := by decide +kernel
theorem dX4_gravel_34 : decode cX4_gravel 34 = .ok (.aload_n 0, 1) := by decide +kernel
theorem dX4_gravel_35 : decode cX4_gravel 35 = .ok (.getfield 10, 3) := by decide +kernel
theorem dX4_gravel_38 : decode cX4_gravel 38 = .ok (.iload_n 1, 1) := by decide +kernel
theorem dX4_gravel_39 : decode cX4_gravel 39 = .ok (.iload_n 2, 1) := by decide +kernel
theorem dX4_gravel_40 : decode cX4_gravel 40 = .ok (.invokevirtual 137, 3) := by decide +kernel
theorem dX4_gravel_43 : decode cX4_gravel 43 = .ok (.iload_n 3, 1) := by decide +kernel
theorem dX4_gravel_44 : decode cX4_gravel 44 = .ok (.ireturn, 1) := by decide +kernel
theorem dX4_ask_0 : decode cX4_ask 0 = .ok (.iload_n 1, 1) := by decide +kernel
theorem dX4_ask_1 : decode cX4_ask 1 = .ok (.ifCond .ne 32, 3) := by decide +kernel
theorem dX4_ask_4 : decode cX4_ask 4 = .ok (.iload_n 2, 1) := by decide +kernel
theorem dX4_ask_5 : decode cX4_ask 5 = .ok (.iconst 0, 1) := by decide +kernel
theorem dX4_ask_6 : decode cX4_ask 6 = .ok (.bipush 9, 2) := by decide +kernel
theorem dX4_ask_8 : decode cX4_ask 8 = .ok (.invokestatic 62, 3) := by decide +kernel
theorem dX4_ask_11 : decode cX4_ask 11 = .ok (.ifCond .eq 22, 3) := by decide +kernel
theorem dX4_ask_14 : decode cX4_ask 14 = .ok (.aload_n 0, 1) := by decide +kernel
theorem dX4_ask_15 : decode cX4_ask 15 = .ok (.getfield 10, 3) := by decide +kernel
theorem dX4_ask_18 : decode cX4_ask 18 = .ok (.getfield 140, 3) := by decide +kernel
theorem dX4_ask_21 : decode cX4_ask 21 = .ok (.istore_n 3, 1) := by decide +kernel
theorem dX4_ask_22 : decode cX4_ask 22 = .ok (.aload_n 0, 1) := by decide +kernel
theorem dX4_ask_23 : decode cX4_ask 23 = .ok (.getfield 10, 3) := by decide +kernel
theorem dX4_ask_26 : decode cX4_ask 26 = .ok (.iload_n 2, 1) := by decide +kernel
theorem dX4_ask_27 : decode cX4_ask 27 = .ok (.putfield 140, 3) := by decide +kernel
theorem dX4_ask_30 : decode cX4_ask 30 = .ok (.goto 44, 3) := by decide +kernel
theorem dX4_ask_33 : decode cX4_ask 33 = .ok (.iload_n 1, 1) := by decide +kernel
theorem dX4_ask_34 : decode cX4_ask 34 = .ok (.iconst 1, 1) := by decide +kernel
theorem dX4_ask_35 : decode cX4_ask 35 = .ok (.if_icmp .ne 32, 3) := by decide +kernel
theorem dX4_ask_38 : decode cX4_ask 38 = .ok (.iload_n 2, 1) := by decide +kernel
theorem dX4_ask_39 : decode cX4_ask 39 = .ok (.iconst 1, 1) := by decide +kernel
theorem dX4_ask_40 : decode cX4_ask 40 = .ok (.bipush 99, 2) := by decide +kernel
theorem dX4_ask_42 : decode cX4_ask 42 = .ok (.invokestatic 62, 3) := by decide +kernel
theorem dX4_ask_45 : decode cX4_ask 45 = .ok (.ifCond .eq 22, 3) := by decide +kernel
theorem dX4_ask_48 : decode cX4_ask 48 = .ok (.aload_n 0, 1) := by decide +kernel
theorem dX4_ask_49 : decode cX4_ask 49 = .ok (.getfield 10, 3) := by decide +kernel
theorem dX4_ask_52 : decode cX4_ask 52 = .ok (.getfield 143, 3) := by decide +kernel
theorem dX4_ask_55 : decode cX4_ask 55 = .ok (.istore_n 3, 1) := by decide +kernel
theorem dX4_ask_56 : decode cX4_ask 56 = .ok (.aload_n 0, 1) := by decide +kernel
theorem dX4_ask_57 : decode cX4_ask 57 = .ok (.getfield 10, 3) := by decide +kernel
theorem dX4_ask_60 : decode cX4_ask 60 = .ok (.iload_n 2, 1) := by decide +kernel
theorem dX4_ask_61 : decode cX4_ask 61 = .ok (.putfield 143, 3) := by decide +kernel
theorem dX4_ask_64 : decode cX4_ask 64 = .ok (.goto 10, 3) := by decide +kernel
theorem dX4_ask_67 : decode cX4_ask 67 = .ok (.aload_n 0, 1) := by decide +kernel
theorem dX4_ask_68 : decode cX4_ask 68 = .ok (.bipush (-2), 2) := by decide +kernel
theorem dX4_ask_70 : decode cX4_ask 70 = .ok (.invokevirtual 66, 3) := by decide +kernel
theorem dX4_ask_73 : decode cX4_ask 73 = .ok (.istore_n 3, 1) := by decide +kernel
theorem dX4_ask_74 : decode cX4_ask 74 = .ok (.iload_n 3, 1) := by decide +kernel
theorem dX4_ask_75 : decode cX4_ask 75 = .ok (.ireturn, 1) := by decide +kernel
theorem dX4_feet_0 : decode cX4_feet 0 = .ok (.iload_n 1, 1) := by decide +kernel
theorem dX4_feet_1 : decode cX4_feet 1 = .ok (.iconst 0, 1) := by decide +kernel
theorem dX4_feet_2 : decode cX4_feet 2 = .ok (.iconst 5, 1) := by decide +kernel
theorem dX4_feet_3 : decode cX4_feet 3 = .ok (.invokestatic 62, 3) := by decide +kernel
theorem dX4_feet_6 : decode cX4_feet 6 = .ok (.ifCond .eq 23, 3) := by decide +kernel
theorem dX4_feet_9 : decode cX4_feet 9 = .ok (.iload_n 2, 1) := by decide +kernel
theorem dX4_feet_10 : decode cX4_feet 10 = .ok (.iconst 0, 1) := by decide +kernel
theorem dX4_feet_11 : decode cX4_feet 11 = .ok (.bipush 9, 2) := by decide +kernel
theorem dX4_feet_13 : decode cX4_feet 13 = .ok (.invokestatic 62, 3) := by decide +kernel
theorem dX4_feet_16 : decode cX4_feet 16 = .ok (.ifCond .eq 13, 3) := by decide +kernel
theorem dX4_feet_19 : decode cX4_feet 19 = .ok (.iload_n 3, 1) := by decide +kernel
theorem dX4_feet_20 : decode cX4_feet 20 = .ok (.iconst 1, 1) := by decide +kernel
theorem dX4_feet_21 : decode cX4_feet 21 = .ok (.bipush 99, 2) := by decide +kernel
theorem dX4_feet_23 : decode cX4_feet 23 = .ok (.invokestatic 62, 3) := by decide +kernel
theorem dX4_feet_26 : decode cX4_feet 26 = .ok (.ifCond .ne 10, 3) := by decide +kernel
theorem dX4_feet_29 : decode cX4_feet 29 = .ok (.aload_n 0, 1) := by decide +kernel
theorem dX4_feet_30 : decode cX4_feet 30 = .ok (.bipush (-2), 2) := by decide +kernel
theorem dX4_feet_32 : decode cX4_feet 32 = .ok (.invokevirtual 66, 3) := by decide +kernel
theorem dX4_feet_35 : decode cX4_feet 35 = .ok (.ireturn, 1) := by decide +kernel
theorem dX4_feet_36 : decode cX4_feet 36 = .ok (.aload_n 0, 1) := by decide +kernel
theorem dX4_feet_37 : decode cX4_feet 37 = .ok (.getfield 10, 3) := by decide +kernel
theorem dX4_feet_40 : decode cX4_feet 40 = .ok (.invokevirtual 146, 3) := by decide +kernel
theorem dX4_feet_43 : decode cX4_feet 43 = .ok (.ifCond .eq 10, 3) := by decide +kernel
theorem dX4_feet_46 : decode cX4_feet 46 = .ok (.aload_n 0, 1) := by decide +kernel
theorem dX4_feet_47 : decode cX4_feet 47 = .ok (.bipush (-6), 2) := by decide +kernel
theorem dX4_feet_49 : decode cX4_feet 49 = .ok (.invokevirtual 66, 3) := by decide +kernel
theorem dX4_feet_52 : decode cX4_feet 52 = .ok (.ireturn, 1) := by decide +kernel
theorem dX4_feet_53 : decode cX4_feet 53 = .ok (.aload_n 0, 1) := by decide +kernel
theorem dX4_feet_54 : decode cX4_feet 54 = .ok (.getfield 10, 3) := by decide +kernel
theorem dX4_feet_57 : decode cX4_feet 57 = .ok (.iload_n 1, 1) := by decide +kernel
theorem dX4_feet_58 : decode cX4_feet 58 = .ok (.iload_n 2, 1) := by decide +kernel
theorem dX4_feet_59 : decode cX4_feet 59 = .ok (.iload_n 3, 1) := by decide +kernel
theorem dX4_feet_60 : decode cX4_feet 60 = .ok (.invokevirtual 150, 3) := by decide +kernel
theorem dX4_feet_63 : decode cX4_feet 63 = .ok (.ireturn, 1) := by decide +kernel
theorem dX4_feed_0 : decode cX4_feed 0 = .ok (.iload_n 1, 1) := by decide +kernel
theorem dX4_feed_1 : decode cX4_feed 1 = .ok (.iconst 0, 1) := by decide +kernel
theorem dX4_feed_2 : decode cX4_feed 2 = .ok (.sipush 255, 3) := by decide +kernel
theorem dX4_feed_5 : decode cX4_feed 5 = .ok (.invokestatic 62, 3) := by decide +kernel
theorem dX4_feed_8 : decode cX4_feed 8 = .ok (.ifCond .ne 10, 3) := by decide +kernel
theorem dX4_feed_11 : decode cX4_feed 11 = .ok (.aload_n 0, 1) := by decide +kernel
theorem dX4_feed_12 : decode cX4_feed 12 = .ok (.bipush (-2), 2) := by decide +kernel
theorem dX4_feed_14 : decode cX4_feed 14 = .ok (.invokevirtual 66, 3) := by decide +kernel
theorem dX4_feed_17 : decode cX4_feed 17 = .ok (.ireturn, 1) := by decide +kernel
theorem dX4_feed_18 : decode cX4_feed 18 = .ok (.aload_n 0, 1) := by decide +kernel
theorem dX4_feed_19 : decode cX4_feed 19 = .ok (.getfield 32, 3) := by decide +kernel
theorem dX4_feed_22 : decode cX4_feed 22 = .ok (.invokevirtual 153, 3) := by decide +kernel
theorem dX4_feed_25 : decode cX4_feed 25 = .ok (.ifCond .eq 10, 3) := by decide +kernel
theorem dX4_feed_28 : decode cX4_feed 28 = .ok (.aload_n 0, 1) := by decide +kernel
theorem dX4_feed_29 : decode cX4_feed 29 = .ok (.bipush (-6), 2) := by decide +kernel
theorem dX4_feed_31 : decode cX4_feed 31 = .ok (.invokevirtual 66, 3) := by decide +kernel
theorem dX4_feed_34 : decode cX4_feed 34 = .ok (.ireturn, 1) := by decide +kernel
theorem dX4_feed_35 : decode cX4_feed 35 = .ok (.aload_n 0, 1) := by decide +kernel
theorem dX4_feed_36 : decode cX4_feed 36 = .ok (.getfield 32, 3) := by decide +kernel
theorem dX4_feed_39 : decode cX4_feed 39 = .ok (.iload_n 1, 1) := by decide +kernel
theorem dX4_feed_40 : decode cX4_feed 40 = .ok (.invokevirtual 154, 3) := by decide +kernel
theorem dX4_feed_43 : decode cX4_feed 43 = .ok (.ireturn, 1) := by decide +kernel
theorem dX4_wipe_0 : decode cX4_wipe 0 = .ok (.aload_n 0, 1) := by decide +kernel
theorem dX4_wipe_1 : decode cX4_wipe 1 = .ok (.getfield 32, 3) := by decide +kernel
theorem dX4_wipe_4 : decode cX4_wipe 4 = .ok (.invokevirtual 157, 3) := by decide +kernel
theorem dX4_wipe_7 : decode cX4_wipe 7 = .ok (.ireturn, 1) := by decide +kernel
theorem dX4_drive_0 : decode cX4_drive 0 = .ok (.aload_n 0, 1) := by decide +kernel
theorem dX4_drive_1 : decode cX4_drive 1 = .ok (.getfield 19, 3) := by decide +kernel
theorem dX4_drive_4 : decode cX4_drive 4 = .ok (.aload_n 0, 1) := by decide +kernel
theorem dX4_drive_5 : decode cX4_drive 5 = .ok (.getfield 10, 3) := by decide +kernel
theorem dX4_drive_8 : decode cX4_drive 8 = .ok (.invokevirtual 161, 3) := by decide +kernel
theorem dX4_drive_11 : decode cX4_drive 11 = .ok (.aload_n 0, 1) := by decide +kernel
theorem dX4_drive_12 : decode cX4_drive 12 = .ok (.getfield 32, 3) := by decide +kernel
theorem dX4_drive_15 : decode cX4_drive 15 = .ok (.aload_n 0, 1) := by decide +kernel
theorem dX4_drive_16 : decode cX4_drive 16 = .ok (.getfield 19, 3) := by decide +kernel
theorem dX4_drive_19 : decode cX4_drive 19 = .ok (.invokevirtual 165, 3) := by decide +kernel
theorem dX4_drive_22 : decode cX4_drive 22 = .ok (.istore_n 1, 1) := by decide +kernel
theorem dX4_drive_23 : decode cX4_drive 23 = .ok (.aload_n 0, 1) := by decide +kernel
theorem dX4_drive_24 : decode cX4_drive 24 = .ok (.getfield 32, 3) := by decide +kernel
theorem dX4_drive_27 : decode cX4_drive 27 = .ok (.invokevirtual 157, 3) := by decide +kernel
theorem dX4_drive_30 : decode cX4_drive 30 = .ok (.pop, 1) := by decide +kernel
theorem dX4_drive_31 : decode cX4_drive 31 = .ok (.iload_n 1, 1) := by decide +kernel
theorem dX4_drive_32 : decode cX4_drive 32 = .ok (.ifCond .ge 12, 3) := by decide +kernel
theorem dX4_drive_35 : decode cX4_drive 35 = .ok (.aload_n 0, 1) := by decide +kernel
theorem dX4_drive_36 : decode cX4_drive 36 = .ok (.bipush (-2), 2) := by decide +kernel
theorem dX4_drive_38 : decode cX4_drive 38 = .ok (.invokevirtual 66, 3) := by decide +kernel
theorem dX4_drive_41 : decode cX4_drive 41 = .ok (.pop, 1) := by decide +kernel
theorem dX4_drive_42 : decode cX4_drive 42 = .ok (.iload_n 1, 1) := by decide +kernel
theorem dX4_drive_43 : decode cX4_drive 43 = .ok (.ireturn, 1) := by decide +kernel
theorem dX4_drive_44 : decode cX4_drive 44 = .ok (.aload_n 0, 1) := by decide +kernel
theorem dX4_drive_45 : decode cX4_drive 45 = .ok (.getfield 10, 3) := by decide +kernel
theorem dX4_drive_48 : decode cX4_drive 48 = .ok (.aload_n 0, 1) := by decide +kernel
theorem dX4_drive_49 : decode cX4_drive 49 = .ok (.getfield 19, 3) := by decide +kernel
theorem dX4_drive_52 : decode cX4_drive 52 = .ok (.invokevirtual 161, 3) := by decide +kernel
theorem dX4_drive_55 : decode cX4_drive 55 = .ok (.iload_n 1, 1) := by decide +kernel
theorem dX4_drive_56 : decode cX4_drive 56 = .ok (.ireturn, 1) := by decide +kernel
theorem dX4_feetOf_0 : decode cX4_feetOf 0 = .ok (.aload_n 0, 1) := by decide +kernel
theorem dX4_feetOf_1 : decode cX4_feetOf 1 = .ok (.iload_n 1, 1) := by decide +kernel
theorem dX4_feetOf_2 : decode cX4_feetOf 2 = .ok (.invokevirtual 102, 3) := by decide +kernel
theorem dX4_feetOf_5 : decode cX4_feetOf 5 = .ok (.ifCond .eq 12, 3) := by decide +kernel
theorem dX4_feetOf_8 : decode cX4_feetOf 8 = .ok (.iload_n 2, 1) := by decide +kernel
theorem dX4_feetOf_9 : decode cX4_feetOf 9 = .ok (.iconst 0, 1) := by decide +kernel
theorem dX4_feetOf_10 : decode cX4_feetOf 10 = .ok (.iconst 2, 1) := by decide +kernel
theorem dX4_feetOf_11 : decode cX4_feetOf 11 = .ok (.invokestatic 62, 3) := by decide +kernel
theorem dX4_feetOf_14 : decode cX4_feetOf 14 = .ok (.ifCond .ne 10, 3) := by decide +kernel
theorem dX4_feetOf_17 : decode cX4_feetOf 17 = .ok (.aload_n 0, 1) := by decide +kernel
theorem dX4_feetOf_18 : decode cX4_feetOf 18 = .ok (.bipush (-2), 2) := by decide +kernel
theorem dX4_feetOf_20 : decode cX4_feetOf 20 = .ok (.invokevirtual 66, 3) := by decide +kernel
theorem dX4_feetOf_23 : decode cX4_feetOf 23 = .ok (.ireturn, 1) := by decide +kernel
theorem dX4_feetOf_24 : decode cX4_feetOf 24 = .ok (.iload_n 2, 1) := by decide +kernel
theorem dX4_feetOf_25 : decode cX4_feetOf 25 = .ok (.ifCond .ne 12, 3) := by decide +kernel
theorem dX4_feetOf_28 : decode cX4_feetOf 28 = .ok (.aload_n 0, 1) := by decide +kernel
theorem dX4_feetOf_29 : decode cX4_feetOf 29 = .ok (.getfield 10, 3) := by decide +kernel
theorem dX4_feetOf_32 : decode cX4_feetOf 32 = .ok (.iload_n 1, 1) := by decide +kernel
theorem dX4_feetOf_33 : decode cX4_feetOf 33 = .ok (.invokevirtual 109, 3) := by decide +kernel
theorem dX4_feetOf_36 : decode cX4_feetOf 36 = .ok (.ireturn, 1) := by decide +kernel
theorem dX4_feetOf_37 : decode cX4_feetOf 37 = .ok (.iload_n 2, 1) := by decide +kernel
theorem dX4_feetOf_38 : decode cX4_feetOf 38 = .ok (.iconst 1, 1) := by decide +kernel
theorem dX4_feetOf_39 : decode cX4_feetOf 39 = .ok (.if_icmp .ne 14, 3) := by decide +kernel
theorem dX4_feetOf_42 : decode cX4_feetOf 42 = .ok (.aload_n 0, 1) := by decide +kernel
theorem dX4_feetOf_43 : decode cX4_feetOf 43 = .ok (.getfield 10, 3) := by decide +kernel
theorem dX4_feetOf_46 : decode cX4_feetOf 46 = .ok (.iload_n 1, 1) := by decide +kernel
theorem dX4_feetOf_47 : decode cX4_feetOf 47 = .ok (.invokevirtual 169, 3) := by decide +kernel
theorem dX4_feetOf_50 : decode cX4_feetOf 50 = .ok (.goto 11, 3) := by decide +kernel
theorem dX4_feetOf_53 : decode cX4_feetOf 53 = .ok (.aload_n 0, 1) := by decide +kernel
theorem dX4_feetOf_54 : decode cX4_feetOf 54 = .ok (.getfield 10, 3) := by decide +kernel
theorem dX4_feetOf_57 : decode cX4_feetOf 57 = .ok (.iload_n 1, 1) := by decide +kernel
theorem dX4_feetOf_58 : decode cX4_feetOf 58 = .ok (.invokevirtual 116, 3) := by decide +kernel
theorem dX4_feetOf_61 : decode cX4_feetOf 61 = .ok (.ireturn, 1) := by decide +kernel
theorem dX4_cellOf_0 : decode cX4_cellOf 0 = .ok (.aload_n 0, 1) := by decide +kernel
theorem dX4_cellOf_1 : decode cX4_cellOf 1 = .ok (.iload_n 1, 1) := by decide +kernel
theorem dX4_cellOf_2 : decode cX4_cellOf 2 = .ok (.invokevirtual 131, 3) := by decide +kernel
theorem dX4_cellOf_5 : decode cX4_cellOf 5 = .ok (.ifCond .eq 12, 3) := by decide +kernel
theorem dX4_cellOf_8 : decode cX4_cellOf 8 = .ok (.iload_n 2, 1) := by decide +kernel
theorem dX4_cellOf_9 : decode cX4_cellOf 9 = .ok (.iconst 0, 1) := by decide +kernel
theorem dX4_cellOf_10 : decode cX4_cellOf 10 = .ok (.iconst 1, 1) := by decide +kernel
theorem dX4_cellOf_11 : decode cX4_cellOf 11 = .ok (.invokestatic 62, 3) := by decide +kernel
theorem dX4_cellOf_14 : decode cX4_cellOf 14 = .ok (.ifCond .ne 10, 3) := by decide +kernel
theorem dX4_cellOf_17 : decode cX4_cellOf 17 = .ok (.aload_n 0, 1) := by decide +kernel
theorem dX4_cellOf_18 : decode cX4_cellOf 18 = .ok (.bipush (-2), 2) := by decide +kernel
theorem dX4_cellOf_20 : decode cX4_cellOf 20 = .ok (.invokevirtual 66, 3) := by decide +kernel
theorem dX4_cellOf_23 : decode cX4_cellOf 23 = .ok (.ireturn, 1) := by decide +kernel
theorem dX4_cellOf_24 : decode cX4_cellOf 24 = .ok (.iload_n 2, 1) := by decide +kernel
theorem dX4_cellOf_25 : decode cX4_cellOf 25 = .ok (.ifCond .ne 14, 3) := by decide +kernel
theorem dX4_cellOf_28 : decode cX4_cellOf 28 = .ok (.aload_n 0, 1) := by decide +kernel
theorem dX4_cellOf_29 : decode cX4_cellOf 29 = .ok (.getfield 10, 3) := by decide +kernel
theorem dX4_cellOf_32 : decode cX4_cellOf 32 = .ok (.iload_n 1, 1) := by decide +kernel
theorem dX4_cellOf_33 : decode cX4_cellOf 33 = .ok (.invokevirtual 134, 3) := by decide +kernel
theorem dX4_cellOf_36 : decode cX4_cellOf 36 = .ok (.goto 18, 3) := by decide +kernel
theorem dX4_cellOf_39 : decode cX4_cellOf 39 = .ok (.aload_n 0, 1) := by decide +kernel
theorem dX4_cellOf_40 : decode cX4_cellOf 40 = .ok (.getfield 10, 3) := by decide +kernel
theorem dX4_cellOf_43 : decode cX4_cellOf 43 = .ok (.iload_n 1, 1) := by decide +kernel
theorem dX4_cellOf_44 : decode cX4_cellOf 44 = .ok (.aload_n 0, 1) := by decide +kernel
theorem dX4_cellOf_45 : decode cX4_cellOf 45 = .ok (.getfield 10, 3) := by decide +kernel
theorem dX4_cellOf_48 : decode cX4_cellOf 48 = .ok (.getfield 140, 3) := by decide +kernel
theorem dX4_cellOf_51 : decode cX4_cellOf 51 = .ok (.invokevirtual 172, 3) := by decide +kernel
theorem dX4_cellOf_54 : decode cX4_cellOf 54 = .ok (.ireturn, 1) := by decide +kernel
theorem dX4_crunch_0 : decode cX4_crunch 0 = .ok (.aload_n 0, 1) := by decide +kernel
theorem dX4_crunch_1 : decode cX4_crunch 1 = .ok (.iload_n 1, 1) := by decide +kernel
theorem dX4_crunch_2 : decode cX4_crunch 2 = .ok (.invokevirtual 102, 3) := by decide +kernel
theorem dX4_crunch_5 : decode cX4_crunch 5 = .ok (.ifCond .eq 20, 3) := by decide +kernel
theorem dX4_crunch_8 : decode cX4_crunch 8 = .ok (.aload_n 0, 1) := by decide +kernel
theorem dX4_crunch_9 : decode cX4_crunch 9 = .ok (.iload_n 2, 1) := by decide +kernel
theorem dX4_crunch_10 : decode cX4_crunch 10 = .ok (.invokevirtual 131, 3) := by decide +kernel
theorem dX4_crunch_13 : decode cX4_crunch 13 = .ok (.ifCond .eq 12, 3) := by decide +kernel
theorem dX4_crunch_16 : decode cX4_crunch 16 = .ok (.iload_n 3, 1) := by decide +kernel
theorem dX4_crunch_17 : decode cX4_crunch 17 = .ok (.iconst 0, 1) := by decide +kernel
theorem dX4_crunch_18 : decode cX4_crunch 18 = .ok (.iconst 5, 1) := by decide +kernel
theorem dX4_crunch_19 : decode cX4_crunch 19 = .ok (.invokestatic 62, 3) := by decide +kernel
theorem dX4_crunch_22 : decode cX4_crunch 22 = .ok (.ifCond .ne 10, 3) := by decide +kernel
theorem dX4_crunch_25 : decode cX4_crunch 25 = .ok (.aload_n 0, 1) := by decide +kernel
theorem dX4_crunch_26 : decode cX4_crunch 26 = .ok (.bipush (-2), 2) := by decide +kernel
theorem dX4_crunch_28 : decode cX4_crunch 28 = .ok (.invokevirtual 66, 3) := by decide +kernel
theorem dX4_crunch_31 : decode cX4_crunch 31 = .ok (.ireturn, 1) := by decide +kernel
theorem dX4_crunch_32 : decode cX4_crunch 32 = .ok (.aload_n 0, 1) := by decide +kernel
theorem dX4_crunch_33 : decode cX4_crunch 33 = .ok (.getfield 10, 3) := by decide +kernel
theorem dX4_crunch_36 : decode cX4_crunch 36 = .ok (.iload_n 1, 1) := by decide +kernel
theorem dX4_crunch_37 : decode cX4_crunch 37 = .ok (.iload_n 2, 1) := by decide +kernel
theorem dX4_crunch_38 : decode cX4_crunch 38 = .ok (.iload_n 3, 1) := by decide +kernel
theorem dX4_crunch_39 : decode cX4_crunch 39 = .ok (.invokevirtual 119, 3) := by decide +kernel
theorem dX4_crunch_42 : decode cX4_crunch 42 = .ok (.ireturn, 1) := by decide +kernel
theorem dX4_quietest_0 : decode cX4_quietest 0 = .ok (.aload_n 0, 1) := by decide +kernel
theorem dX4_quietest_1 : decode cX4_quietest 1 = .ok (.iload_n 1, 1) := by decide +kernel
theorem dX4_quietest_2 : decode cX4_quietest 2 = .ok (.invokevirtual 102, 3) := by decide +kernel
theorem dX4_quietest_5 : decode cX4_quietest 5 = .ok (.ifCond .eq 11, 3) := by decide +kernel
theorem dX4_quietest_8 : decode cX4_quietest 8 = .ok (.aload_n 0, 1) := by decide +kernel
theorem dX4_quietest_9 : decode cX4_quietest 9 = .ok (.iload_n 2, 1) := by decide +kernel
theorem dX4_quietest_10 : decode cX4_quietest 10 = .ok (.invokevirtual 175, 3) := by decide +kernel
theorem dX4_quietest_13 : decode cX4_quietest 13 = .ok (.ifCond .ne 10, 3) := by decide +kernel
theorem dX4_quietest_16 : decode cX4_quietest 16 = .ok (.aload_n 0, 1) := by decide +kernel
theorem dX4_quietest_17 : decode cX4_quietest 17 = .ok (.bipush (-2), 2) := by decide +kernel
theorem dX4_quietest_19 : decode cX4_quietest 19 = .ok (.invokevirtual 66, 3) := by decide +kernel
theorem dX4_quietest_22 : decode cX4_quietest 22 = .ok (.ireturn, 1) := by decide +kernel
theorem dX4_quietest_23 : decode cX4_quietest 23 = .ok (.aload_n 0, 1) := by decide +kernel
theorem dX4_quietest_24 : decode cX4_quietest 24 = .ok (.iload_n 1, 1) := by decide +kernel
theorem dX4_quietest_25 : decode cX4_quietest 25 = .ok (.invokevirtual 178, 3) := by decide +kernel
theorem dX4_quietest_28 : decode cX4_quietest 28 = .ok (.istore_n 3, 1) := by decide +kernel
theorem dX4_quietest_29 : decode cX4_quietest 29 = .ok (.iload_n 2, 1) := by decide +kernel
theorem dX4_quietest_30 : decode cX4_quietest 30 = .ok (.iconst (-1), 1) := by decide +kernel
theorem dX4_quietest_31 : decode cX4_quietest 31 = .ok (.if_icmp .ne 7, 3) := by decide +kernel
theorem dX4_quietest_34 : decode cX4_quietest 34 = .ok (.iload_n 3, 1) := by decide +kernel
theorem dX4_quietest_35 : decode cX4_quietest 35 = .ok (.goto 11, 3) := by decide +kernel
theorem dX4_quietest_38 : decode cX4_quietest 38 = .ok (.aload_n 0, 1) := by decide +kernel
theorem dX4_quietest_39 : decode cX4_quietest 39 = .ok (.getfield 39, 3) := by decide +kernel
theorem dX4_quietest_42 : decode cX4_quietest 42 = .ok (.iload_n 2, 1) := by decide +kernel
theorem dX4_quietest_43 : decode cX4_quietest 43 = .ok (.invokevirtual 181, 3) := by decide +kernel
theorem dX4_quietest_46 : decode cX4_quietest 46 = .ok (.ireturn, 1) := by decide +kernel
theorem dX4_softest_0 : decode cX4_softest 0 = .ok (.aload_n 0, 1) := by decide +kernel
theorem dX4_softest_1 : decode cX4_softest 1 = .ok (.iload_n 1, 1) := by decide +kernel
theorem dX4_softest_2 : decode cX4_softest 2 = .ok (.invokevirtual 102, 3) := by decide +kernel
theorem dX4_softest_5 : decode cX4_softest 5 = .ok (.ifCond .eq 11, 3) := by decide +kernel
theorem dX4_softest_8 : decode cX4_softest 8 = .ok (.aload_n 0, 1) := by decide +kernel
theorem dX4_softest_9 : decode cX4_softest 9 = .ok (.iload_n 2, 1) := by decide +kernel
theorem dX4_softest_10 : decode cX4_softest 10 = .ok (.invokevirtual 175, 3) := by decide +kernel
theorem dX4_softest_13 : decode cX4_softest 13 = .ok (.ifCond .ne 10, 3) := by decide +kernel
theorem dX4_softest_16 : decode cX4_softest 16 = .ok (.aload_n 0, 1) := by decide +kernel
theorem dX4_softest_17 : decode cX4_softest 17 = .ok (.bipush (-2), 2) := by decide +kernel
theorem dX4_softest_19 : decode cX4_softest 19 = .ok (.invokevirtual 66, 3) := by decide +kernel
theorem dX4_softest_22 : decode cX4_softest 22 = .ok (.ireturn, 1) := by decide +kernel
theorem dX4_softest_23 : decode cX4_softest 23 = .ok (.aload_n 0, 1) := by decide +kernel
theorem dX4_softest_24 : decode cX4_softest 24 = .ok (.iload_n 1, 1) := by decide +kernel
theorem dX4_softest_25 : decode cX4_softest 25 = .ok (.iconst 1, 1) := by decide +kernel
theorem dX4_softest_26 : decode cX4_softest 26 = .ok (.invokevirtual 184, 3) := by decide +kernel
theorem dX4_softest_29 : decode cX4_softest 29 = .ok (.aload_n 0, 1) := by decide +kernel
theorem dX4_softest_30 : decode cX4_softest 30 = .ok (.getfield 39, 3) := by decide +kernel
theorem dX4_softest_33 : decode cX4_softest 33 = .ok (.invokevirtual 187, 3) := by decide +kernel
theorem dX4_softest_36 : decode cX4_softest 36 = .ok (.istore_n 3, 1) := by decide +kernel
theorem dX4_softest_37 : decode cX4_softest 37 = .ok (.iload_n 2, 1) := by decide +kernel
theorem dX4_softest_38 : decode cX4_softest 38 = .ok (.iconst (-1), 1) := by decide +kernel
theorem dX4_softest_39 : decode cX4_softest 39 = .ok (.if_icmp .ne 7, 3) := by decide +kernel
theorem dX4_softest_42 : decode cX4_softest 42 = .ok (.iload_n 3, 1) := by decide +kernel
theorem dX4_softest_43 : decode cX4_softest 43 = .ok (.goto 11, 3) := by decide +kernel
theorem dX4_softest_46 : decode cX4_softest 46 = .ok (.aload_n 0, 1) := by decide +kernel
theorem dX4_softest_47 : decode cX4_softest 47 = .ok (.getfield 39, 3) := by decide +kernel
theorem dX4_softest_50 : decode cX4_softest 50 = .ok (.iload_n 2, 1) := by decide +kernel
theorem dX4_softest_51 : decode cX4_softest 51 = .ok (.invokevirtual 181, 3) := by decide +kernel
theorem dX4_softest_54 : decode cX4_softest 54 = .ok (.ireturn, 1) := by decide +kernel
theorem dX4_unheard_0 : decode cX4_unheard 0 = .ok (.aload_n 0, 1) := by decide +kernel
theorem dX4_unheard_1 : decode cX4_unheard 1 = .ok (.iload_n 1, 1) := by decide +kernel
theorem dX4_unheard_2 : decode cX4_unheard 2 = .ok (.invokevirtual 102, 3) := by decide +kernel
theorem dX4_unheard_5 : decode cX4_unheard 5 = .ok (.ifCond .eq 11, 3) := by decide +kernel
theorem dX4_unheard_8 : decode cX4_unheard 8 = .ok (.aload_n 0, 1) := by decide +kernel
theorem dX4_unheard_9 : decode cX4_unheard 9 = .ok (.iload_n 2, 1) := by decide +kernel
theorem dX4_unheard_10 : decode cX4_unheard 10 = .ok (.invokevirtual 175, 3) := by decide +kernel
theorem dX4_unheard_13 : decode cX4_unheard 13 = .ok (.ifCond .ne 10, 3) := by decide +kernel
theorem dX4_unheard_16 : decode cX4_unheard 16 = .ok (.aload_n 0, 1) := by decide +kernel
theorem dX4_unheard_17 : decode cX4_unheard 17 = .ok (.bipush (-2), 2) := by decide +kernel
theorem dX4_unheard_19 : decode cX4_unheard 19 = .ok (.invokevirtual 66, 3) := by decide +kernel
theorem dX4_unheard_22 : decode cX4_unheard 22 = .ok (.ireturn, 1) := by decide +kernel
theorem dX4_unheard_23 : decode cX4_unheard 23 = .ok (.aload_n 0, 1) := by decide +kernel
theorem dX4_unheard_24 : decode cX4_unheard 24 = .ok (.iload_n 1, 1) := by decide +kernel
theorem dX4_unheard_25 : decode cX4_unheard 25 = .ok (.aload_n 0, 1) := by decide +kernel
theorem dX4_unheard_26 : decode cX4_unheard 26 = .ok (.getfield 10, 3) := by decide +kernel
theorem dX4_unheard_29 : decode cX4_unheard 29 = .ok (.getfield 140, 3) := by decide +kernel
theorem dX4_unheard_32 : decode cX4_unheard 32 = .ok (.invokevirtual 190, 3) := by decide +kernel
theorem dX4_unheard_35 : decode cX4_unheard 35 = .ok (.aload_n 0, 1) := by decide +kernel
theorem dX4_unheard_36 : decode cX4_unheard 36 = .ok (.iload_n 2, 1) := by decide +kernel
theorem dX4_unheard_37 : decode cX4_unheard 37 = .ok (.invokevirtual 193, 3) := by decide +kernel
theorem dX4_unheard_40 : decode cX4_unheard 40 = .ok (.ireturn, 1) := by decide +kernel
theorem dX4_raked_0 : decode cX4_raked 0 = .ok (.aload_n 0, 1) := by decide +kernel
theorem dX4_raked_1 : decode cX4_raked 1 = .ok (.iload_n 1, 1) := by decide +kernel
theorem dX4_raked_2 : decode cX4_raked 2 = .ok (.invokevirtual 102, 3) := by decide +kernel
theorem dX4_raked_5 : decode cX4_raked 5 = .ok (.ifCond .eq 8, 3) := by decide +kernel
theorem dX4_raked_8 : decode cX4_raked 8 = .ok (.iload_n 2, 1) := by decide +kernel
theorem dX4_raked_9 : decode cX4_raked 9 = .ok (.iconst (-1), 1) := by decide +kernel
theorem dX4_raked_10 : decode cX4_raked 10 = .ok (.if_icmp .ge 10, 3) := by decide +kernel
theorem dX4_raked_13 : decode cX4_raked 13 = .ok (.aload_n 0, 1) := by decide +kernel
theorem dX4_raked_14 : decode cX4_raked 14 = .ok (.bipush (-2), 2) := by decide +kernel
theorem dX4_raked_16 : decode cX4_raked 16 = .ok (.invokevirtual 66, 3) := by decide +kernel
theorem dX4_raked_19 : decode cX4_raked 19 = .ok (.ireturn, 1) := by decide +kernel
theorem dX4_raked_20 : decode cX4_raked 20 = .ok (.aload_n 0, 1) := by decide +kernel
theorem dX4_raked_21 : decode cX4_raked 21 = .ok (.iload_n 1, 1) := by decide +kernel
theorem dX4_raked_22 : decode cX4_raked 22 = .ok (.aload_n 0, 1) := by decide +kernel
theorem dX4_raked_23 : decode cX4_raked 23 = .ok (.getfield 10, 3) := by decide +kernel
theorem dX4_raked_26 : decode cX4_raked 26 = .ok (.getfield 140, 3) := by decide +kernel
theorem dX4_raked_29 : decode cX4_raked 29 = .ok (.invokevirtual 190, 3) := by decide +kernel
theorem dX4_raked_32 : decode cX4_raked 32 = .ok (.aload_n 0, 1) := by decide +kernel
theorem dX4_raked_33 : decode cX4_raked 33 = .ok (.getfield 39, 3) := by decide +kernel
theorem dX4_raked_36 : decode cX4_raked 36 = .ok (.invokevirtual 196, 3) := by decide +kernel
theorem dX4_raked_39 : decode cX4_raked 39 = .ok (.iconst 0, 1) := by decide +kernel
theorem dX4_raked_40 : decode cX4_raked 40 = .ok (.istore_n 3, 1) := by decide +kernel
theorem dX4_raked_41 : decode cX4_raked 41 = .ok (.iload_n 3, 1) := by decide +kernel
theorem dX4_raked_42 : decode cX4_raked 42 = .ok (.aload_n 0, 1) := by decide +kernel
theorem dX4_raked_43 : decode cX4_raked 43 = .ok (.getfield 10, 3) := by decide +kernel
theorem dX4_raked_46 : decode cX4_raked 46 = .ok (.invokevirtual 199, 3) := by decide +kernel
theorem dX4_raked_49 : decode cX4_raked 49 = .ok (.if_icmp .ge 52, 3) := by decide +kernel
theorem dX4_raked_52 : decode cX4_raked 52 = .ok (.aload_n 0, 1) := by decide +kernel
theorem dX4_raked_53 : decode cX4_raked 53 = .ok (.getfield 39, 3) := by decide +kernel
theorem dX4_raked_56 : decode cX4_raked 56 = .ok (.iload_n 3, 1) := by decide +kernel
theorem dX4_raked_57 : decode cX4_raked 57 = .ok (.aload_n 0, 1) := by decide +kernel
theorem dX4_raked_58 : decode cX4_raked 58 = .ok (.getfield 39, 3) := by decide +kernel
theorem dX4_raked_61 : decode cX4_raked 61 = .ok (.iload_n 3, 1) := by decide +kernel
theorem dX4_raked_62 : decode cX4_raked 62 = .ok (.invokevirtual 202, 3) := by decide +kernel
theorem dX4_raked_65 : decode cX4_raked 65 = .ok (.ifCond .ne 26, 3) := by decide +kernel
theorem dX4_raked_68 : decode cX4_raked 68 = .ok (.aload_n 0, 1) := by decide +kernel
theorem dX4_raked_69 : decode cX4_raked 69 = .ok (.getfield 10, 3) := by decide +kernel
theorem dX4_raked_72 : decode cX4_raked 72 = .ok (.iload_n 1, 1) := by decide +kernel
theorem dX4_raked_73 : decode cX4_raked 73 = .ok (.iload_n 3, 1) := by decide +kernel
theorem dX4_raked_74 : decode cX4_raked 74 = .ok (.invokevirtual 205, 3) := by decide +kernel
theorem dX4_raked_77 : decode cX4_raked 77 = .ok (.aload_n 0, 1) := by decide +kernel
theorem dX4_raked_78 : decode cX4_raked 78 = .ok (.getfield 10, 3) := by decide +kernel
theorem dX4_raked_81 : decode cX4_raked 81 = .ok (.getfield 143, 3) := by decide +kernel
theorem dX4_raked_84 : decode cX4_raked 84 = .ok (.if_icmp .lt 7, 3) := by decide +kernel
theorem dX4_raked_87 : decode cX4_raked 87 = .ok (.iconst 1, 1) := by decide +kernel
theorem dX4_raked_88 : decode cX4_raked 88 = .ok (.goto 4, 3) := by decide +kernel
theorem dX4_raked_91 : decode cX4_raked 91 = .ok (.iconst 0, 1) := by decide +kernel
theorem dX4_raked_92 : decode cX4_raked 92 = .ok (.invokevirtual 208, 3) := by decide +kernel
theorem dX4_raked_95 : decode cX4_raked 95 = .ok (.iinc 3 1, 3) := by decide +kernel
theorem dX4_raked_98 : decode cX4_raked 98 = .ok (.goto (-57), 3) := by decide +kernel
theorem dX4_raked_101 : decode cX4_raked 101 = .ok (.aload_n 0, 1) := by decide +kernel
theorem dX4_raked_102 : decode cX4_raked 102 = .ok (.aload_n 0, 1) := by decide +kernel
theorem dX4_raked_103 : decode cX4_raked 103 = .ok (.getfield 39, 3) := by decide +kernel
theorem dX4_raked_106 : decode cX4_raked 106 = .ok (.iconst 0, 1) := by decide +kernel
theorem dX4_raked_107 : decode cX4_raked 107 = .ok (.invokevirtual 212, 3) := by decide +kernel
theorem dX4_raked_110 : decode cX4_raked 110 = .ok (.iload_n 2, 1) := by decide +kernel
theorem dX4_raked_111 : decode cX4_raked 111 = .ok (.invokevirtual 216, 3) := by decide +kernel
theorem dX4_raked_114 : decode cX4_raked 114 = .ok (.ireturn, 1) := by decide +kernel
theorem dX4_loudest_0 : decode cX4_loudest 0 = .ok (.aload_n 0, 1) := by decide +kernel
theorem dX4_loudest_1 : decode cX4_loudest 1 = .ok (.iload_n 1, 1) := by decide +kernel
theorem dX4_loudest_2 : decode cX4_loudest 2 = .ok (.invokevirtual 102, 3) := by decide +kernel
theorem dX4_loudest_5 : decode cX4_loudest 5 = .ok (.ifCond .eq 11, 3) := by decide +kernel
theorem dX4_loudest_8 : decode cX4_loudest 8 = .ok (.aload_n 0, 1) := by decide +kernel
theorem dX4_loudest_9 : decode cX4_loudest 9 = .ok (.iload_n 2, 1) := by decide +kernel
theorem dX4_loudest_10 : decode cX4_loudest 10 = .ok (.invokevirtual 175, 3) := by decide +kernel
theorem dX4_loudest_13 : decode cX4_loudest 13 = .ok (.ifCond .ne 10, 3) := by decide +kernel
theorem dX4_loudest_16 : decode cX4_loudest 16 = .ok (.aload_n 0, 1) := by decide +kernel
theorem dX4_loudest_17 : decode cX4_loudest 17 = .ok (.bipush (-2), 2) := by decide +kernel
theorem dX4_loudest_19 : decode cX4_loudest 19 = .ok (.invokevirtual 66, 3) := by decide +kernel
theorem dX4_loudest_22 : decode cX4_loudest 22 = .ok (.ireturn, 1) := by decide +kernel
theorem dX4_loudest_23 : decode cX4_loudest 23 = .ok (.aload_n 0, 1) := by decide +kernel
theorem dX4_loudest_24 : decode cX4_loudest 24 = .ok (.iload_n 1, 1) := by decide +kernel
theorem dX4_loudest_25 : decode cX4_loudest 25 = .ok (.iconst (-1), 1) := by decide +kernel
theorem dX4_loudest_26 : decode cX4_loudest 26 = .ok (.invokevirtual 184, 3) := by decide +kernel
theorem dX4_loudest_29 : decode cX4_loudest 29 = .ok (.aload_n 0, 1) := by decide +kernel
theorem dX4_loudest_30 : decode cX4_loudest 30 = .ok (.getfield 39, 3) := by decide +kernel
theorem dX4_loudest_33 : decode cX4_loudest 33 = .ok (.invokevirtual 219, 3) := by decide +kernel
theorem dX4_loudest_36 : decode cX4_loudest 36 = .ok (.ineg, 1) := by decide +kernel
theorem dX4_loudest_37 : decode cX4_loudest 37 = .ok (.istore_n 3, 1) := by decide +kernel
theorem dX4_loudest_38 : decode cX4_loudest 38 = .ok (.iload_n 2, 1) := by decide +kernel
theorem dX4_loudest_39 : decode cX4_loudest 39 = .ok (.iconst (-1), 1) := by decide +kernel
theorem dX4_loudest_40 : decode cX4_loudest 40 = .ok (.if_icmp .ne 7, 3) := by decide +kernel
theorem dX4_loudest_43 : decode cX4_loudest 43 = .ok (.iload_n 3, 1) := by decide +kernel
theorem dX4_loudest_44 : decode cX4_loudest 44 = .ok (.goto 11, 3) := by decide +kernel
theorem dX4_loudest_47 : decode cX4_loudest 47 = .ok (.aload_n 0, 1) := by decide +kernel
theorem dX4_loudest_48 : decode cX4_loudest 48 = .ok (.getfield 39, 3) := by decide +kernel
theorem dX4_loudest_51 : decode cX4_loudest 51 = .ok (.iload_n 2, 1) := by decide +kernel
theorem dX4_loudest_52 : decode cX4_loudest 52 = .ok (.invokevirtual 181, 3) := by decide +kernel
theorem dX4_loudest_55 : decode cX4_loudest 55 = .ok (.ireturn, 1) := by decide +kernel
theorem dX4_ways_0 : decode cX4_ways 0 = .ok (.aload_n 0, 1) := by decide +kernel
theorem dX4_ways_1 : decode cX4_ways 1 = .ok (.invokevirtual 222, 3) := by decide +kernel
theorem dX4_ways_4 : decode cX4_ways 4 = .ok (.aload_n 0, 1) := by decide +kernel
theorem dX4_ways_5 : decode cX4_ways 5 = .ok (.getfield 39, 3) := by decide +kernel
theorem dX4_ways_8 : decode cX4_ways 8 = .ok (.invokevirtual 225, 3) := by decide +kernel
theorem dX4_ways_11 : decode cX4_ways 11 = .ok (.ireturn, 1) := by decide +kernel
theorem dX4_through_0 : decode cX4_through 0 = .ok (.aload_n 0, 1) := by decide +kernel
theorem dX4_through_1 : decode cX4_through 1 = .ok (.iload_n 1, 1) := by decide +kernel
theorem dX4_through_2 : decode cX4_through 2 = .ok (.invokevirtual 131, 3) := by decide +kernel
theorem dX4_through_5 : decode cX4_through 5 = .ok (.ifCond .ne 10, 3) := by decide +kernel
theorem dX4_through_8 : decode cX4_through 8 = .ok (.aload_n 0, 1) := by decide +kernel
theorem dX4_through_9 : decode cX4_through 9 = .ok (.bipush (-2), 2) := by decide +kernel
theorem dX4_through_11 : decode cX4_through 11 = .ok (.invokevirtual 66, 3) := by decide +kernel
theorem dX4_through_14 : decode cX4_through 14 = .ok (.ireturn, 1) := by decide +kernel
theorem dX4_through_15 : decode cX4_through 15 = .ok (.aload_n 0, 1) := by decide +kernel
theorem dX4_through_16 : decode cX4_through 16 = .ok (.invokevirtual 222, 3) := by decide +kernel
theorem dX4_through_19 : decode cX4_through 19 = .ok (.iload_n 1, 1) := by decide +kernel
theorem dX4_through_20 : decode cX4_through 20 = .ok (.aload_n 0, 1) := by decide +kernel
theorem dX4_through_21 : decode cX4_through 21 = .ok (.getfield 10, 3) := by decide +kernel
theorem dX4_through_24 : decode cX4_through 24 = .ok (.iload_n 1, 1) := by decide +kernel
theorem dX4_through_25 : decode cX4_through 25 = .ok (.invokevirtual 228, 3) := by decide +kernel
theorem dX4_through_28 : decode cX4_through 28 = .ok (.isub, 1) := by decide +kernel
theorem dX4_through_29 : decode cX4_through 29 = .ok (.istore_n 2, 1) := by decide +kernel
theorem dX4_through_30 : decode cX4_through 30 = .ok (.iload_n 2, 1) := by decide +kernel
theorem dX4_through_31 : decode cX4_through 31 = .ok (.istore_n 3, 1) := by decide +kernel
theorem dX4_through_32 : decode cX4_through 32 = .ok (.iload_n 3, 1) := by decide +kernel
theorem dX4_through_33 : decode cX4_through 33 = .ok (.iload_n 2, 1) := by decide +kernel
theorem dX4_through_34 : decode cX4_through 34 = .ok (.aload_n 0, 1) := by decide +kernel
theorem dX4_through_35 : decode cX4_through 35 = .ok (.getfield 10, 3) := by decide +kernel
theorem dX4_through_38 : decode cX4_through 38 = .ok (.getfield 123, 3) := by decide +kernel
theorem dX4_through_41 : decode cX4_through 41 = .ok (.iadd, 1) := by decide +kernel
theorem dX4_through_42 : decode cX4_through 42 = .ok (.if_icmp .ge 27, 3) := by decide +kernel
theorem dX4_through_45 : decode cX4_through 45 = .ok (.aload_n 0, 1) := by decide +kernel
theorem dX4_through_46 : decode cX4_through 46 = .ok (.getfield 39, 3) := by decide +kernel
theorem dX4_through_49 : decode cX4_through 49 = .ok (.iload_n 3, 1) := by decide +kernel
theorem dX4_through_50 : decode cX4_through 50 = .ok (.iload_n 3, 1) := by decide +kernel
theorem dX4_through_51 : decode cX4_through 51 = .ok (.iload_n 1, 1) := by decide +kernel
theorem dX4_through_52 : decode cX4_through 52 = .ok (.if_icmp .ne 7, 3) := by decide +kernel
theorem dX4_through_55 : decode cX4_through 55 = .ok (.iconst 0, 1) := by decide +kernel
theorem dX4_through_56 : decode cX4_through 56 = .ok (.goto 4, 3) := by decide +kernel
theorem dX4_through_59 : decode cX4_through 59 = .ok (.iconst 1, 1) := by decide +kernel
theorem dX4_through_60 : decode cX4_through 60 = .ok (.invokevirtual 231, 3) := by decide +kernel
theorem dX4_through_63 : decode cX4_through 63 = .ok (.iinc 3 1, 3) := by decide +kernel
theorem dX4_through_66 : decode cX4_through 66 = .ok (.goto (-34), 3) := by decide +kernel
theorem dX4_through_69 : decode cX4_through 69 = .ok (.aload_n 0, 1) := by decide +kernel
theorem dX4_through_70 : decode cX4_through 70 = .ok (.getfield 39, 3) := by decide +kernel
theorem dX4_through_73 : decode cX4_through 73 = .ok (.invokevirtual 225, 3) := by decide +kernel
theorem dX4_through_76 : decode cX4_through 76 = .ok (.ireturn, 1) := by decide +kernel
theorem dX4_dry_0 : decode cX4_dry 0 = .ok (.aload_n 0, 1) := by decide +kernel
theorem dX4_dry_1 : decode cX4_dry 1 = .ok (.iload_n 1, 1) := by decide +kernel
theorem dX4_dry_2 : decode cX4_dry 2 = .ok (.invokevirtual 102, 3) := by decide +kernel
theorem dX4_dry_5 : decode cX4_dry 5 = .ok (.ifCond .ne 10, 3) := by decide +kernel
theorem dX4_dry_8 : decode cX4_dry 8 = .ok (.aload_n 0, 1) := by decide +kernel
theorem dX4_dry_9 : decode cX4_dry 9 = .ok (.bipush (-2), 2) := by decide +kernel
theorem dX4_dry_11 : decode cX4_dry 11 = .ok (.invokevirtual 66, 3) := by decide +kernel
theorem dX4_dry_14 : decode cX4_dry 14 = .ok (.ireturn, 1) := by decide +kernel
theorem dX4_dry_15 : decode cX4_dry 15 = .ok (.iconst 0, 1) := by decide +kernel
theorem dX4_dry_16 : decode cX4_dry 16 = .ok (.istore_n 2, 1) := by decide +kernel
theorem dX4_dry_17 : decode cX4_dry 17 = .ok (.iload_n 2, 1) := by decide +kernel
theorem dX4_dry_18 : decode cX4_dry 18 = .ok (.bipush 9, 2) := by decide +kernel
theorem dX4_dry_20 : decode cX4_dry 20 = .ok (.if_icmp .gt 34, 3) := by decide +kernel
theorem dX4_dry_23 : decode cX4_dry 23 = .ok (.aload_n 0, 1) := by decide +kernel
theorem dX4_dry_24 : decode cX4_dry 24 = .ok (.iload_n 1, 1) := by decide +kernel
theorem dX4_dry_25 : decode cX4_dry 25 = .ok (.iload_n 2, 1) := by decide +kernel
theorem dX4_dry_26 : decode cX4_dry 26 = .ok (.invokevirtual 190, 3) := by decide +kernel
theorem dX4_dry_29 : decode cX4_dry 29 = .ok (.aload_n 0, 1) := by decide +kernel
theorem dX4_dry_30 : decode cX4_dry 30 = .ok (.getfield 39, 3) := by decide +kernel
theorem dX4_dry_33 : decode cX4_dry 33 = .ok (.invokevirtual 196, 3) := by decide +kernel
theorem dX4_dry_36 : decode cX4_dry 36 = .ok (.aload_n 0, 1) := by decide +kernel
theorem dX4_dry_37 : decode cX4_dry 37 = .ok (.getfield 39, 3) := by decide +kernel
theorem dX4_dry_40 : decode cX4_dry 40 = .ok (.invokevirtual 234, 3) := by decide +kernel
theorem dX4_dry_43 : decode cX4_dry 43 = .ok (.ifCond .eq 5, 3) := by decide +kernel
theorem dX4_dry_46 : decode cX4_dry 46 = .ok (.iload_n 2, 1) := by decide +kernel
theorem dX4_dry_47 : decode cX4_dry 47 = .ok (.ireturn, 1) := by decide +kernel
theorem dX4_dry_48 : decode cX4_dry 48 = .ok (.iinc 2 1, 3) := by decide +kernel
theorem dX4_dry_51 : decode cX4_dry 51 = .ok (.goto (-34), 3) := by decide +kernel
theorem dX4_dry_54 : decode cX4_dry 54 = .ok (.iconst (-1), 1) := by decide +kernel
theorem dX4_dry_55 : decode cX4_dry 55 = .ok (.ireturn, 1) := by decide +kernel
theorem dX4_mean_0 : decode cX4_mean 0 = .ok (.aload_n 0, 1) := by decide +kernel
theorem dX4_mean_1 : decode cX4_mean 1 = .ok (.iload_n 1, 1) := by decide +kernel
theorem dX4_mean_2 : decode cX4_mean 2 = .ok (.invokevirtual 102, 3) := by decide +kernel
theorem dX4_mean_5 : decode cX4_mean 5 = .ok (.ifCond .ne 10, 3) := by decide +kernel
theorem dX4_mean_8 : decode cX4_mean 8 = .ok (.aload_n 0, 1) := by decide +kernel
theorem dX4_mean_9 : decode cX4_mean 9 = .ok (.bipush (-2), 2) := by decide +kernel
theorem dX4_mean_11 : decode cX4_mean 11 = .ok (.invokevirtual 66, 3) := by decide +kernel
theorem dX4_mean_14 : decode cX4_mean 14 = .ok (.ireturn, 1) := by decide +kernel
theorem dX4_mean_15 : decode cX4_mean 15 = .ok (.aload_n 0, 1) := by decide +kernel
theorem dX4_mean_16 : decode cX4_mean 16 = .ok (.iload_n 1, 1) := by decide +kernel
theorem dX4_mean_17 : decode cX4_mean 17 = .ok (.iconst 1, 1) := by decide +kernel
theorem dX4_mean_18 : decode cX4_mean 18 = .ok (.invokevirtual 184, 3) := by decide +kernel
theorem dX4_mean_21 : decode cX4_mean 21 = .ok (.aload_n 0, 1) := by decide +kernel
theorem dX4_mean_22 : decode cX4_mean 22 = .ok (.getfield 39, 3) := by decide +kernel
theorem dX4_mean_25 : decode cX4_mean 25 = .ok (.invokevirtual 237, 3) := by decide +kernel
theorem dX4_mean_28 : decode cX4_mean 28 = .ok (.istore_n 2, 1) := by decide +kernel
theorem dX4_mean_29 : decode cX4_mean 29 = .ok (.aload_n 0, 1) := by decide +kernel
theorem dX4_mean_30 : decode cX4_mean 30 = .ok (.invokevirtual 222, 3) := by decide +kernel
theorem dX4_mean_33 : decode cX4_mean 33 = .ok (.iload_n 2, 1) := by decide +kernel
theorem dX4_mean_34 : decode cX4_mean 34 = .ok (.aload_n 0, 1) := by decide +kernel
theorem dX4_mean_35 : decode cX4_mean 35 = .ok (.getfield 39, 3) := by decide +kernel
theorem dX4_mean_38 : decode cX4_mean 38 = .ok (.invokevirtual 225, 3) := by decide +kernel
theorem dX4_mean_41 : decode cX4_mean 41 = .ok (.invokestatic 240, 3) := by decide +kernel
theorem dX4_mean_44 : decode cX4_mean 44 = .ok (.ireturn, 1) := by decide +kernel
theorem dX4_planks_0 : decode cX4_planks 0 = .ok (.aload_n 0, 1) := by decide +kernel
theorem dX4_planks_1 : decode cX4_planks 1 = .ok (.iload_n 1, 1) := by decide +kernel
theorem dX4_planks_2 : decode cX4_planks 2 = .ok (.invokevirtual 102, 3) := by decide +kernel
theorem dX4_planks_5 : decode cX4_planks 5 = .ok (.ifCond .eq 8, 3) := by decide +kernel
theorem dX4_planks_8 : decode cX4_planks 8 = .ok (.iload_n 2, 1) := by decide +kernel
theorem dX4_planks_9 : decode cX4_planks 9 = .ok (.iconst (-1), 1) := by decide +kernel
theorem dX4_planks_10 : decode cX4_planks 10 = .ok (.if_icmp .ge 10, 3) := by decide +kernel
theorem dX4_planks_13 : decode cX4_planks 13 = .ok (.aload_n 0, 1) := by decide +kernel
theorem dX4_planks_14 : decode cX4_planks 14 = .ok (.bipush (-2), 2) := by decide +kernel
theorem dX4_planks_16 : decode cX4_planks 16 = .ok (.invokevirtual 66, 3) := by decide +kernel
theorem dX4_planks_19 : decode cX4_planks 19 = .ok (.ireturn, 1) := by decide +kernel
theorem dX4_planks_20 : decode cX4_planks 20 = .ok (.aload_n 0, 1) := by decide +kernel
theorem dX4_planks_21 : decode cX4_planks 21 = .ok (.iload_n 1, 1) := by decide +kernel
theorem dX4_planks_22 : decode cX4_planks 22 = .ok (.aload_n 0, 1) := by decide +kernel
theorem dX4_planks_23 : decode cX4_planks 23 = .ok (.getfield 10, 3) := by decide +kernel
theorem dX4_planks_26 : decode cX4_planks 26 = .ok (.getfield 140, 3) := by decide +kernel
theorem dX4_planks_29 : decode cX4_planks 29 = .ok (.invokevirtual 190, 3) := by decide +kernel
theorem dX4_planks_32 : decode cX4_planks 32 = .ok (.aload_n 0, 1) := by decide +kernel
theorem dX4_planks_33 : decode cX4_planks 33 = .ok (.getfield 39, 3) := by decide +kernel
theorem dX4_planks_36 : decode cX4_planks 36 = .ok (.invokevirtual 196, 3) := by decide +kernel
theorem dX4_planks_39 : decode cX4_planks 39 = .ok (.iconst 0, 1) := by decide +kernel
theorem dX4_planks_40 : decode cX4_planks 40 = .ok (.istore_n 3, 1) := by decide +kernel
theorem dX4_planks_41 : decode cX4_planks 41 = .ok (.iload_n 3, 1) := by decide +kernel
theorem dX4_planks_42 : decode cX4_planks 42 = .ok (.aload_n 0, 1) := by decide +kernel
theorem dX4_planks_43 : decode cX4_planks 43 = .ok (.getfield 10, 3) := by decide +kernel
theorem dX4_planks_46 : decode cX4_planks 46 = .ok (.invokevirtual 199, 3) := by decide +kernel
theorem dX4_planks_49 : decode cX4_planks 49 = .ok (.if_icmp .ge 33, 3) := by decide +kernel
theorem dX4_planks_52 : decode cX4_planks 52 = .ok (.aload_n 0, 1) := by decide +kernel
theorem dX4_planks_53 : decode cX4_planks 53 = .ok (.getfield 39, 3) := by decide +kernel
theorem dX4_planks_56 : decode cX4_planks 56 = .ok (.iload_n 3, 1) := by decide +kernel
theorem dX4_planks_57 : decode cX4_planks 57 = .ok (.aload_n 0, 1) := by decide +kernel
theorem dX4_planks_58 : decode cX4_planks 58 = .ok (.getfield 39, 3) := by decide +kernel
theorem dX4_planks_61 : decode cX4_planks 61 = .ok (.iload_n 3, 1) := by decide +kernel
theorem dX4_planks_62 : decode cX4_planks 62 = .ok (.invokevirtual 202, 3) := by decide +kernel
theorem dX4_planks_65 : decode cX4_planks 65 = .ok (.ifCond .eq 7, 3) := by decide +kernel
theorem dX4_planks_68 : decode cX4_planks 68 = .ok (.iconst 1, 1) := by decide +kernel
theorem dX4_planks_69 : decode cX4_planks 69 = .ok (.goto 4, 3) := by decide +kernel
theorem dX4_planks_72 : decode cX4_planks 72 = .ok (.iconst 0, 1) := by decide +kernel
theorem dX4_planks_73 : decode cX4_planks 73 = .ok (.invokevirtual 208, 3) := by decide +kernel
theorem dX4_planks_76 : decode cX4_planks 76 = .ok (.iinc 3 1, 3) := by decide +kernel
theorem dX4_planks_79 : decode cX4_planks 79 = .ok (.goto (-38), 3) := by decide +kernel
theorem dX4_planks_82 : decode cX4_planks 82 = .ok (.aload_n 0, 1) := by decide +kernel
theorem dX4_planks_83 : decode cX4_planks 83 = .ok (.aload_n 0, 1) := by decide +kernel
theorem dX4_planks_84 : decode cX4_planks 84 = .ok (.getfield 39, 3) := by decide +kernel
theorem dX4_planks_87 : decode cX4_planks 87 = .ok (.iconst 1, 1) := by decide +kernel
theorem dX4_planks_88 : decode cX4_planks 88 = .ok (.invokevirtual 212, 3) := by decide +kernel
theorem dX4_planks_91 : decode cX4_planks 91 = .ok (.iload_n 2, 1) := by decide +kernel
theorem dX4_planks_92 : decode cX4_planks 92 = .ok (.invokevirtual 216, 3) := by decide +kernel
theorem dX4_planks_95 : decode cX4_planks 95 = .ok (.ireturn, 1) := by decide +kernel
theorem dX4_column_0 : decode cX4_column 0 = .ok (.aload_n 0, 1) := by decide +kernel
theorem dX4_column_1 : decode cX4_column 1 = .ok (.iload_n 1, 1) := by decide +kernel
theorem dX4_column_2 : decode cX4_column 2 = .ok (.invokevirtual 102, 3) := by decide +kernel
theorem dX4_column_5 : decode cX4_column 5 = .ok (.ifCond .ne 10, 3) := by decide +kernel
theorem dX4_column_8 : decode cX4_column 8 = .ok (.aload_n 0, 1) := by decide +kernel
theorem dX4_column_9 : decode cX4_column 9 = .ok (.bipush (-2), 2) := by decide +kernel
theorem dX4_column_11 : decode cX4_column 11 = .ok (.invokevirtual 66, 3) := by decide +kernel
theorem dX4_column_14 : decode cX4_column 14 = .ok (.ireturn, 1) := by decide +kernel
theorem dX4_column_15 : decode cX4_column 15 = .ok (.iconst 0, 1) := by decide +kernel
theorem dX4_column_16 : decode cX4_column 16 = .ok (.istore_n 2, 1) := by decide +kernel
theorem dX4_column_17 : decode cX4_column 17 = .ok (.ldc 243, 2) := by decide +kernel
theorem dX4_column_19 : decode cX4_column 19 = .ok (.istore_n 3, 1) := by decide +kernel
theorem dX4_column_20 : decode cX4_column 20 = .ok (.iconst 0, 1) := by decide +kernel
theorem dX4_column_21 : decode cX4_column 21 = .ok (.istore 4, 2) := by decide +kernel
theorem dX4_column_23 : decode cX4_column 23 = .ok (.iload 4, 2) := by decide +kernel
theorem dX4_column_25 : decode cX4_column 25 = .ok (.aload_n 0, 1) := by decide +kernel
theorem dX4_column_26 : decode cX4_column 26 = .ok (.getfield 10, 3) := by decide +kernel
theorem dX4_column_29 : decode cX4_column 29 = .ok (.getfield 123, 3) := by decide +kernel
theorem dX4_column_32 : decode cX4_column 32 = .ok (.if_icmp .ge 69, 3) := by decide +kernel
theorem dX4_column_35 : decode cX4_column 35 = .ok (.iconst 0, 1) := by decide +kernel
theorem dX4_column_36 : decode cX4_column 36 = .ok (.istore 5, 2) := by decide +kernel
theorem dX4_column_38 : decode cX4_column 38 = .ok (.iconst 0, 1) := by decide +kernel
theorem dX4_column_39 : decode cX4_column 39 = .ok (.istore 6, 2) := by decide +kernel
theorem dX4_column_41 : decode cX4_column 41 = .ok (.iload 6, 2) := by decide +kernel
theorem dX4_column_43 : decode cX4_column 43 = .ok (.aload_n 0, 1) := by decide +kernel
theorem dX4_column_44 : decode cX4_column 44 = .ok (.getfield 10, 3) := by decide +kernel
theorem dX4_column_47 : decode cX4_column 47 = .ok (.getfield 123, 3) := by decide +kernel
theorem dX4_column_50 : decode cX4_column 50 = .ok (.if_icmp .ge 33, 3) := by decide +kernel
theorem dX4_column_53 : decode cX4_column 53 = .ok (.iload 5, 2) := by decide +kernel
theorem dX4_column_55 : decode cX4_column 55 = .ok (.aload_n 0, 1) := by decide +kernel
theorem dX4_column_56 : decode cX4_column 56 = .ok (.getfield 10, 3) := by decide +kernel
theorem dX4_column_59 : decode cX4_column 59 = .ok (.iload_n 1, 1) := by decide +kernel
theorem dX4_column_60 : decode cX4_column 60 = .ok (.aload_n 0, 1) := by decide +kernel
theorem dX4_column_61 : decode cX4_column 61 = .ok (.getfield 10, 3) := by decide +kernel
theorem dX4_column_64 : decode cX4_column 64 = .ok (.iload 6, 2) := by decide +kernel
theorem dX4_column_66 : decode cX4_column 66 = .ok (.iload 4, 2) := by decide +kernel
theorem dX4_column_68 : decode cX4_column 68 = .ok (.invokevirtual 244, 3) := by decide +kernel
theorem dX4_column_71 : decode cX4_column 71 = .ok (.invokevirtual 247, 3) := by decide +kernel
theorem dX4_column_74 : decode cX4_column 74 = .ok (.iadd, 1) := by decide +kernel
theorem dX4_column_75 : decode cX4_column 75 = .ok (.istore 5, 2) := by decide +kernel
theorem dX4_column_77 : decode cX4_column 77 = .ok (.iinc 6 1, 3) := by decide +kernel
theorem dX4_column_80 : decode cX4_column 80 = .ok (.goto (-39), 3) := by decide +kernel
theorem dX4_column_83 : decode cX4_column 83 = .ok (.iload 5, 2) := by decide +kernel
theorem dX4_column_85 : decode cX4_column 85 = .ok (.iload_n 3, 1) := by decide +kernel
theorem dX4_column_86 : decode cX4_column 86 = .ok (.if_icmp .ge 9, 3) := by decide +kernel
theorem dX4_column_89 : decode cX4_column 89 = .ok (.iload 5, 2) := by decide +kernel
theorem dX4_column_91 : decode cX4_column 91 = .ok (.istore_n 3, 1) := by decide +kernel
theorem dX4_column_92 : decode cX4_column 92 = .ok (.iload 4, 2) := by decide +kernel
theorem dX4_column_94 : decode cX4_column 94 = .ok (.istore_n 2, 1) := by decide +kernel
theorem dX4_column_95 : decode cX4_column 95 = .ok (.iinc 4 1, 3) := by decide +kernel
theorem dX4_column_98 : decode cX4_column 98 = .ok (.goto (-75), 3) := by decide +kernel
theorem dX4_column_101 : decode cX4_column 101 = .ok (.iload_n 2, 1) := by decide +kernel
theorem dX4_column_102 : decode cX4_column 102 = .ok (.ireturn, 1) := by decide +kernel
theorem dX4_worst_0 : decode cX4_worst 0 = .ok (.aload_n 0, 1) := by decide +kernel
theorem dX4_worst_1 : decode cX4_worst 1 = .ok (.iload_n 1, 1) := by decide +kernel
theorem dX4_worst_2 : decode cX4_worst 2 = .ok (.invokevirtual 102, 3) := by decide +kernel
theorem dX4_worst_5 : decode cX4_worst 5 = .ok (.ifCond .ne 10, 3) := by decide +kernel
theorem dX4_worst_8 : decode cX4_worst 8 = .ok (.aload_n 0, 1) := by decide +kernel
theorem dX4_worst_9 : decode cX4_worst 9 = .ok (.bipush (-2), 2) := by decide +kernel
theorem dX4_worst_11 : decode cX4_worst 11 = .ok (.invokevirtual 66, 3) := by decide +kernel
theorem dX4_worst_14 : decode cX4_worst 14 = .ok (.ireturn, 1) := by decide +kernel
theorem dX4_worst_15 : decode cX4_worst 15 = .ok (.iconst 0, 1) := by decide +kernel
theorem dX4_worst_16 : decode cX4_worst 16 = .ok (.istore_n 2, 1) := by decide +kernel
theorem dX4_worst_17 : decode cX4_worst 17 = .ok (.iconst (-1), 1) := by decide +kernel
theorem dX4_worst_18 : decode cX4_worst 18 = .ok (.istore_n 3, 1) := by decide +kernel
theorem dX4_worst_19 : decode cX4_worst 19 = .ok (.iconst 0, 1) := by decide +kernel
theorem dX4_worst_20 : decode cX4_worst 20 = .ok (.istore 4, 2) := by decide +kernel
theorem dX4_worst_22 : decode cX4_worst 22 = .ok (.iload 4, 2) := by decide +kernel
theorem dX4_worst_24 : decode cX4_worst 24 = .ok (.aload_n 0, 1) := by decide +kernel
theorem dX4_worst_25 : decode cX4_worst 25 = .ok (.getfield 10, 3) := by decide +kernel
theorem dX4_worst_28 : decode cX4_worst 28 = .ok (.invokevirtual 199, 3) := by decide +kernel
theorem dX4_worst_31 : decode cX4_worst 31 = .ok (.if_icmp .ge 33, 3) := by decide +kernel
theorem dX4_worst_34 : decode cX4_worst 34 = .ok (.aload_n 0, 1) := by decide +kernel
theorem dX4_worst_35 : decode cX4_worst 35 = .ok (.getfield 10, 3) := by decide +kernel
theorem dX4_worst_38 : decode cX4_worst 38 = .ok (.iload_n 1, 1) := by decide +kernel
theorem dX4_worst_39 : decode cX4_worst 39 = .ok (.iload 4, 2) := by decide +kernel
theorem dX4_worst_41 : decode cX4_worst 41 = .ok (.invokevirtual 247, 3) := by decide +kernel
theorem dX4_worst_44 : decode cX4_worst 44 = .ok (.istore 5, 2) := by decide +kernel
theorem dX4_worst_46 : decode cX4_worst 46 = .ok (.iload 5, 2) := by decide +kernel
theorem dX4_worst_48 : decode cX4_worst 48 = .ok (.iload_n 3, 1) := by decide +kernel
theorem dX4_worst_49 : decode cX4_worst 49 = .ok (.if_icmp .le 9, 3) := by decide +kernel
theorem dX4_worst_52 : decode cX4_worst 52 = .ok (.iload 5, 2) := by decide +kernel
theorem dX4_worst_54 : decode cX4_worst 54 = .ok (.istore_n 3, 1) := by decide +kernel
theorem dX4_worst_55 : decode cX4_worst 55 = .ok (.iload 4, 2) := by decide +kernel
theorem dX4_worst_57 : decode cX4_worst 57 = .ok (.istore_n 2, 1) := by decide +kernel
theorem dX4_worst_58 : decode cX4_worst 58 = .ok (.iinc 4 1, 3) := by decide +kernel
theorem dX4_worst_61 : decode cX4_worst 61 = .ok (.goto (-39), 3) := by decide +kernel
theorem dX4_worst_64 : decode cX4_worst 64 = .ok (.iload_n 2, 1) := by decide +kernel
theorem dX4_worst_65 : decode cX4_worst 65 = .ok (.ireturn, 1) := by decide +kernel
theorem dX4_ranked_0 : decode cX4_ranked 0 = .ok (.aload_n 0, 1) := by decide +kernel
theorem dX4_ranked_1 : decode cX4_ranked 1 = .ok (.iload_n 1, 1) := by decide +kernel
theorem dX4_ranked_2 : decode cX4_ranked 2 = .ok (.invokevirtual 102, 3) := by decide +kernel
theorem dX4_ranked_5 : decode cX4_ranked 5 = .ok (.ifCond .ne 10, 3) := by decide +kernel
theorem dX4_ranked_8 : decode cX4_ranked 8 = .ok (.aload_n 0, 1) := by decide +kernel
theorem dX4_ranked_9 : decode cX4_ranked 9 = .ok (.bipush (-2), 2) := by decide +kernel
theorem dX4_ranked_11 : decode cX4_ranked 11 = .ok (.invokevirtual 66, 3) := by decide +kernel
theorem dX4_ranked_14 : decode cX4_ranked 14 = .ok (.ireturn, 1) := by decide +kernel
theorem dX4_ranked_15 : decode cX4_ranked 15 = .ok (.iconst 0, 1) := by decide +kernel
theorem dX4_ranked_16 : decode cX4_ranked 16 = .ok (.istore_n 2, 1) := by decide +kernel
theorem dX4_ranked_17 : decode cX4_ranked 17 = .ok (.iload_n 2, 1) := by decide +kernel
theorem dX4_ranked_18 : decode cX4_ranked 18 = .ok (.aload_n 0, 1) := by decide +kernel
theorem dX4_ranked_19 : decode cX4_ranked 19 = .ok (.getfield 10, 3) := by decide +kernel
theorem dX4_ranked_22 : decode cX4_ranked 22 = .ok (.invokevirtual 249, 3) := by decide +kernel
theorem dX4_ranked_25 : decode cX4_ranked 25 = .ok (.if_icmp .ge 20, 3) := by decide +kernel
theorem dX4_ranked_28 : decode cX4_ranked 28 = .ok (.aload_n 0, 1) := by decide +kernel
theorem dX4_ranked_29 : decode cX4_ranked 29 = .ok (.getfield 47, 3) := by decide +kernel
theorem dX4_ranked_32 : decode cX4_ranked 32 = .ok (.iload_n 2, 1) := by decide +kernel
theorem dX4_ranked_33 : decode cX4_ranked 33 = .ok (.aload_n 0, 1) := by decide +kernel
theorem dX4_ranked_34 : decode cX4_ranked 34 = .ok (.iload_n 2, 1) := by decide +kernel
theorem dX4_ranked_35 : decode cX4_ranked 35 = .ok (.invokevirtual 178, 3) := by decide +kernel
theorem dX4_ranked_38 : decode cX4_ranked 38 = .ok (.iastore, 1) := by decide +kernel
theorem dX4_ranked_39 : decode cX4_ranked 39 = .ok (.iinc 2 1, 3) := by decide +kernel
theorem dX4_ranked_42 : decode cX4_ranked 42 = .ok (.goto (-25), 3) := by decide +kernel
theorem dX4_ranked_45 : decode cX4_ranked 45 = .ok (.iconst 0, 1) := by decide +kernel
theorem dX4_ranked_46 : decode cX4_ranked 46 = .ok (.istore_n 2, 1) := by decide +kernel
theorem dX4_ranked_47 : decode cX4_ranked 47 = .ok (.iload_n 2, 1) := by decide +kernel
theorem dX4_ranked_48 : decode cX4_ranked 48 = .ok (.aload_n 0, 1) := by decide +kernel
theorem dX4_ranked_49 : decode cX4_ranked 49 = .ok (.getfield 10, 3) := by decide +kernel
theorem dX4_ranked_52 : decode cX4_ranked 52 = .ok (.invokevirtual 249, 3) := by decide +kernel
theorem dX4_ranked_55 : decode cX4_ranked 55 = .ok (.if_icmp .ge 20, 3) := by decide +kernel
theorem dX4_ranked_58 : decode cX4_ranked 58 = .ok (.aload_n 0, 1) := by decide +kernel
theorem dX4_ranked_59 : decode cX4_ranked 59 = .ok (.iload_n 2, 1) := by decide +kernel
theorem dX4_ranked_60 : decode cX4_ranked 60 = .ok (.invokevirtual 252, 3) := by decide +kernel
theorem dX4_ranked_63 : decode cX4_ranked 63 = .ok (.iload_n 1, 1) := by decide +kernel
theorem dX4_ranked_64 : decode cX4_ranked 64 = .ok (.if_icmp .ne 5, 3) := by decide +kernel
theorem dX4_ranked_67 : decode cX4_ranked 67 = .ok (.iload_n 2, 1) := by decide +kernel
theorem dX4_ranked_68 : decode cX4_ranked 68 = .ok (.ireturn, 1) := by decide +kernel
theorem dX4_ranked_69 : decode cX4_ranked 69 = .ok (.iinc 2 1, 3) := by decide +kernel
theorem dX4_ranked_72 : decode cX4_ranked 72 = .ok (.goto (-25), 3) := by decide +kernel
theorem dX4_ranked_75 : decode cX4_ranked 75 = .ok (.iconst (-1), 1) := by decide +kernel
theorem dX4_ranked_76 : decode cX4_ranked 76 = .ok (.ireturn, 1) := by decide +kernel
theorem dX4_duel_0 : decode cX4_duel 0 = .ok (.aload_n 0, 1) := by decide +kernel
theorem dX4_duel_1 : decode cX4_duel 1 = .ok (.iload_n 1, 1) := by decide +kernel
theorem dX4_duel_2 : decode cX4_duel 2 = .ok (.invokevirtual 102, 3) := by decide +kernel
theorem dX4_duel_5 : decode cX4_duel 5 = .ok (.ifCond .eq 12, 3) := by decide +kernel
theorem dX4_duel_8 : decode cX4_duel 8 = .ok (.iload_n 2, 1) := by decide +kernel
theorem dX4_duel_9 : decode cX4_duel 9 = .ok (.iconst 0, 1) := by decide +kernel
theorem dX4_duel_10 : decode cX4_duel 10 = .ok (.iconst 1, 1) := by decide +kernel
theorem dX4_duel_11 : decode cX4_duel 11 = .ok (.invokestatic 62, 3) := by decide +kernel
theorem dX4_duel_14 : decode cX4_duel 14 = .ok (.ifCond .ne 10, 3) := by decide +kernel
theorem dX4_duel_17 : decode cX4_duel 17 = .ok (.aload_n 0, 1) := by decide +kernel
theorem dX4_duel_18 : decode cX4_duel 18 = .ok (.bipush (-2), 2) := by decide +kernel
theorem dX4_duel_20 : decode cX4_duel 20 = .ok (.invokevirtual 66, 3) := by decide +kernel
theorem dX4_duel_23 : decode cX4_duel 23 = .ok (.ireturn, 1) := by decide +kernel
theorem dX4_duel_24 : decode cX4_duel 24 = .ok (.aload_n 0, 1) := by decide +kernel
theorem dX4_duel_25 : decode cX4_duel 25 = .ok (.iload_n 1, 1) := by decide +kernel
theorem dX4_duel_26 : decode cX4_duel 26 = .ok (.iconst 1, 1) := by decide +kernel
theorem dX4_duel_27 : decode cX4_duel 27 = .ok (.invokevirtual 184, 3) := by decide +kernel
theorem dX4_duel_30 : decode cX4_duel 30 = .ok (.iconst 0, 1) := by decide +kernel
theorem dX4_duel_31 : decode cX4_duel 31 = .ok (.istore_n 3, 1) := by decide +kernel
theorem dX4_duel_32 : decode cX4_duel 32 = .ok (.iconst (-1), 1) := by decide +kernel
theorem dX4_duel_33 : decode cX4_duel 33 = .ok (.istore 4, 2) := by decide +kernel
theorem dX4_duel_35 : decode cX4_duel 35 = .ok (.iconst 0, 1) := by decide +kernel
theorem dX4_duel_36 : decode cX4_duel 36 = .ok (.istore 5, 2) := by decide +kernel
theorem dX4_duel_38 : decode cX4_duel 38 = .ok (.iload 5, 2) := by decide +kernel
theorem dX4_duel_40 : decode cX4_duel 40 = .ok (.aload_n 0, 1) := by decide +kernel
theorem dX4_duel_41 : decode cX4_duel 41 = .ok (.getfield 10, 3) := by decide +kernel
theorem dX4_duel_44 : decode cX4_duel 44 = .ok (.invokevirtual 199, 3) := by decide +kernel
theorem dX4_duel_47 : decode cX4_duel 47 = .ok (.if_icmp .ge 73, 3) := by decide +kernel
theorem dX4_duel_50 : decode cX4_duel 50 = .ok (.aload_n 0, 1) := by decide +kernel
theorem dX4_duel_51 : decode cX4_duel 51 = .ok (.getfield 39, 3) := by decide +kernel
theorem dX4_duel_54 : decode cX4_duel 54 = .ok (.iload 5, 2) := by decide +kernel
theorem dX4_duel_56 : decode cX4_duel 56 = .ok (.invokevirtual 202, 3) := by decide +kernel
theorem dX4_duel_59 : decode cX4_duel 59 = .ok (.istore 6, 2) := by decide +kernel
theorem dX4_duel_61 : decode cX4_duel 61 = .ok (.aload_n 0, 1) := by decide +kernel
theorem dX4_duel_62 : decode cX4_duel 62 = .ok (.getfield 39, 3) := by decide +kernel
theorem dX4_duel_65 : decode cX4_duel 65 = .ok (.iload 5, 2) := by decide +kernel
theorem dX4_duel_67 : decode cX4_duel 67 = .ok (.aload_n 0, 1) := by decide +kernel
theorem dX4_duel_68 : decode cX4_duel 68 = .ok (.getfield 10, 3) := by decide +kernel
theorem dX4_duel_71 : decode cX4_duel 71 = .ok (.iload_n 1, 1) := by decide +kernel
theorem dX4_duel_72 : decode cX4_duel 72 = .ok (.iload 5, 2) := by decide +kernel
theorem dX4_duel_74 : decode cX4_duel 74 = .ok (.invokevirtual 205, 3) := by decide +kernel
theorem dX4_duel_77 : decode cX4_duel 77 = .ok (.invokevirtual 231, 3) := by decide +kernel
theorem dX4_duel_80 : decode cX4_duel 80 = .ok (.aload_n 0, 1) := by decide +kernel
theorem dX4_duel_81 : decode cX4_duel 81 = .ok (.getfield 39, 3) := by decide +kernel
theorem dX4_duel_84 : decode cX4_duel 84 = .ok (.invokevirtual 219, 3) := by decide +kernel
theorem dX4_duel_87 : decode cX4_duel 87 = .ok (.istore 7, 2) := by decide +kernel
theorem dX4_duel_89 : decode cX4_duel 89 = .ok (.aload_n 0, 1) := by decide +kernel
theorem dX4_duel_90 : decode cX4_duel 90 = .ok (.getfield 39, 3) := by decide +kernel
theorem dX4_duel_93 : decode cX4_duel 93 = .ok (.iload 5, 2) := by decide +kernel
theorem dX4_duel_95 : decode cX4_duel 95 = .ok (.iload 6, 2) := by decide +kernel
theorem dX4_duel_97 : decode cX4_duel 97 = .ok (.invokevirtual 231, 3) := by decide +kernel
theorem dX4_duel_100 : decode cX4_duel 100 = .ok (.iload 7, 2) := by decide +kernel
theorem dX4_duel_102 : decode cX4_duel 102 = .ok (.iload 4, 2) := by decide +kernel
theorem dX4_duel_104 : decode cX4_duel 104 = .ok (.if_icmp .le 10, 3) := by decide +kernel
theorem dX4_duel_107 : decode cX4_duel 107 = .ok (.iload 7, 2) := by decide +kernel
theorem dX4_duel_109 : decode cX4_duel 109 = .ok (.istore 4, 2) := by decide +kernel
theorem dX4_duel_111 : decode cX4_duel 111 = .ok (.iload 5, 2) := by decide +kernel
theorem dX4_duel_113 : decode cX4_duel 113 = .ok (.istore_n 3, 1) := by decide +kernel
theorem dX4_duel_114 : decode cX4_duel 114 = .ok (.iinc 5 1, 3) := by decide +kernel
theorem dX4_duel_117 : decode cX4_duel 117 = .ok (.goto (-79), 3) := by decide +kernel
theorem dX4_duel_120 : decode cX4_duel 120 = .ok (.iload_n 2, 1) := by decide +kernel
theorem dX4_duel_121 : decode cX4_duel 121 = .ok (.ifCond .ne 7, 3) := by decide +kernel
theorem dX4_duel_124 : decode cX4_duel 124 = .ok (.iload_n 3, 1) := by decide +kernel
theorem dX4_duel_125 : decode cX4_duel 125 = .ok (.goto 5, 3) := by decide +kernel
theorem dX4_duel_128 : decode cX4_duel 128 = .ok (.iload 4, 2) := by decide +kernel
theorem dX4_duel_130 : decode cX4_duel 130 = .ok (.ireturn, 1) := by decide +kernel
theorem dX4_heardOn_0 : decode cX4_heardOn 0 = .ok (.aload_n 0, 1) := by decide +kernel
theorem dX4_heardOn_1 : decode cX4_heardOn 1 = .ok (.iload_n 1, 1) := by decide +kernel
theorem dX4_heardOn_2 : decode cX4_heardOn 2 = .ok (.invokevirtual 131, 3) := by decide +kernel
theorem dX4_heardOn_5 : decode cX4_heardOn 5 = .ok (.ifCond .ne 10, 3) := by decide +kernel
theorem dX4_heardOn_8 : decode cX4_heardOn 8 = .ok (.aload_n 0, 1) := by decide +kernel
theorem dX4_heardOn_9 : decode cX4_heardOn 9 = .ok (.bipush (-2), 2) := by decide +kernel
theorem dX4_heardOn_11 : decode cX4_heardOn 11 = .ok (.invokevirtual 66, 3) := by decide +kernel
theorem dX4_heardOn_14 : decode cX4_heardOn 14 = .ok (.ireturn, 1) := by decide +kernel
theorem dX4_heardOn_15 : decode cX4_heardOn 15 = .ok (.iconst 0, 1) := by decide +kernel
theorem dX4_heardOn_16 : decode cX4_heardOn 16 = .ok (.istore_n 2, 1) := by decide +kernel
theorem dX4_heardOn_17 : decode cX4_heardOn 17 = .ok (.iconst 0, 1) := by decide +kernel
theorem dX4_heardOn_18 : decode cX4_heardOn 18 = .ok (.istore_n 3, 1) := by decide +kernel
theorem dX4_heardOn_19 : decode cX4_heardOn 19 = .ok (.iload_n 3, 1) := by decide +kernel
theorem dX4_heardOn_20 : decode cX4_heardOn 20 = .ok (.aload_n 0, 1) := by decide +kernel
theorem dX4_heardOn_21 : decode cX4_heardOn 21 = .ok (.getfield 10, 3) := by decide +kernel
theorem dX4_heardOn_24 : decode cX4_heardOn 24 = .ok (.invokevirtual 249, 3) := by decide +kernel
theorem dX4_heardOn_27 : decode cX4_heardOn 27 = .ok (.if_icmp .ge 34, 3) := by decide +kernel
theorem dX4_heardOn_30 : decode cX4_heardOn 30 = .ok (.aload_n 0, 1) := by decide +kernel
theorem dX4_heardOn_31 : decode cX4_heardOn 31 = .ok (.getfield 10, 3) := by decide +kernel
theorem dX4_heardOn_34 : decode cX4_heardOn 34 = .ok (.iload_n 3, 1) := by decide +kernel
theorem dX4_heardOn_35 : decode cX4_heardOn 35 = .ok (.iload_n 1, 1) := by decide +kernel
theorem dX4_heardOn_36 : decode cX4_heardOn 36 = .ok (.invokevirtual 247, 3) := by decide +kernel
theorem dX4_heardOn_39 : decode cX4_heardOn 39 = .ok (.aload_n 0, 1) := by decide +kernel
theorem dX4_heardOn_40 : decode cX4_heardOn 40 = .ok (.getfield 10, 3) := by decide +kernel
theorem dX4_heardOn_43 : decode cX4_heardOn 43 = .ok (.getfield 143, 3) := by decide +kernel
theorem dX4_heardOn_46 : decode cX4_heardOn 46 = .ok (.if_icmp .lt 9, 3) := by decide +kernel
theorem dX4_heardOn_49 : decode cX4_heardOn 49 = .ok (.iload_n 2, 1) := by decide +kernel
theorem dX4_heardOn_50 : decode cX4_heardOn 50 = .ok (.iconst 1, 1) := by decide +kernel
theorem dX4_heardOn_51 : decode cX4_heardOn 51 = .ok (.iload_n 3, 1) := by decide +kernel
theorem dX4_heardOn_52 : decode cX4_heardOn 52 = .ok (.ishl, 1) := by decide +kernel
theorem dX4_heardOn_53 : decode cX4_heardOn 53 = .ok (.ior, 1) := by decide +kernel
theorem dX4_heardOn_54 : decode cX4_heardOn 54 = .ok (.istore_n 2, 1) := by decide +kernel
theorem dX4_heardOn_55 : decode cX4_heardOn 55 = .ok (.iinc 3 1, 3) := by decide +kernel
theorem dX4_heardOn_58 : decode cX4_heardOn 58 = .ok (.goto (-39), 3) := by decide +kernel
theorem dX4_heardOn_61 : decode cX4_heardOn 61 = .ok (.iload_n 2, 1) := by decide +kernel
theorem dX4_heardOn_62 : decode cX4_heardOn 62 = .ok (.ireturn, 1) := by decide +kernel
theorem dX4_silent_0 : decode cX4_silent 0 = .ok (.iconst 0, 1) := by decide +kernel
theorem dX4_silent_1 : decode cX4_silent 1 = .ok (.istore_n 1, 1) := by decide +kernel
theorem dX4_silent_2 : decode cX4_silent 2 = .ok (.iconst 0, 1) := by decide +kernel
theorem dX4_silent_3 : decode cX4_silent 3 = .ok (.istore_n 2, 1) := by decide +kernel
theorem dX4_silent_4 : decode cX4_silent 4 = .ok (.iload_n 2, 1) := by decide +kernel
theorem dX4_silent_5 : decode cX4_silent 5 = .ok (.aload_n 0, 1) := by decide +kernel
theorem dX4_silent_6 : decode cX4_silent 6 = .ok (.getfield 10, 3) := by decide +kernel
theorem dX4_silent_9 : decode cX4_silent 9 = .ok (.invokevirtual 199, 3) := by decide +kernel
theorem dX4_silent_12 : decode cX4_silent 12 = .ok (.if_icmp .ge 30, 3) := by decide +kernel
theorem dX4_silent_15 : decode cX4_silent 15 = .ok (.aload_n 0, 1) := by decide +kernel
theorem dX4_silent_16 : decode cX4_silent 16 = .ok (.getfield 10, 3) := by decide +kernel
theorem dX4_silent_19 : decode cX4_silent 19 = .ok (.iload_n 2, 1) := by decide +kernel
theorem dX4_silent_20 : decode cX4_silent 20 = .ok (.aload_n 0, 1) := by decide +kernel
theorem dX4_silent_21 : decode cX4_silent 21 = .ok (.getfield 10, 3) := by decide +kernel
theorem dX4_silent_24 : decode cX4_silent 24 = .ok (.getfield 140, 3) := by decide +kernel
theorem dX4_silent_27 : decode cX4_silent 27 = .ok (.invokevirtual 172, 3) := by decide +kernel
theorem dX4_silent_30 : decode cX4_silent 30 = .ok (.ifCond .ne 6, 3) := by decide +kernel
theorem dX4_silent_33 : decode cX4_silent 33 = .ok (.iinc 1 1, 3) := by decide +kernel
theorem dX4_silent_36 : decode cX4_silent 36 = .ok (.iinc 2 1, 3) := by decide +kernel
theorem dX4_silent_39 : decode cX4_silent 39 = .ok (.goto (-35), 3) := by decide +kernel
theorem dX4_silent_42 : decode cX4_silent 42 = .ok (.iload_n 1, 1) := by decide +kernel
theorem dX4_silent_43 : decode cX4_silent 43 = .ok (.ireturn, 1) := by decide +kernel
theorem dX4_heardBy_0 : decode cX4_heardBy 0 = .ok (.aload_n 0, 1) := by decide +kernel
theorem dX4_heardBy_1 : decode cX4_heardBy 1 = .ok (.iload_n 1, 1) := by decide +kernel
theorem dX4_heardBy_2 : decode cX4_heardBy 2 = .ok (.invokevirtual 102, 3) := by decide +kernel
theorem dX4_heardBy_5 : decode cX4_heardBy 5 = .ok (.ifCond .ne 10, 3) := by decide +kernel
theorem dX4_heardBy_8 : decode cX4_heardBy 8 = .ok (.aload_n 0, 1) := by decide +kernel
theorem dX4_heardBy_9 : decode cX4_heardBy 9 = .ok (.bipush (-2), 2) := by decide +kernel
theorem dX4_heardBy_11 : decode cX4_heardBy 11 = .ok (.invokevirtual 66, 3) := by decide +kernel
theorem dX4_heardBy_14 : decode cX4_heardBy 14 = .ok (.ireturn, 1) := by decide +kernel
theorem dX4_heardBy_15 : decode cX4_heardBy 15 = .ok (.iconst 0, 1) := by decide +kernel
theorem dX4_heardBy_16 : decode cX4_heardBy 16 = .ok (.istore_n 2, 1) := by decide +kernel
theorem dX4_heardBy_17 : decode cX4_heardBy 17 = .ok (.iconst 0, 1) := by decide +kernel
theorem dX4_heardBy_18 : decode cX4_heardBy 18 = .ok (.istore_n 3, 1) := by decide +kernel
theorem dX4_heardBy_19 : decode cX4_heardBy 19 = .ok (.iload_n 3, 1) := by decide +kernel
theorem dX4_heardBy_20 : decode cX4_heardBy 20 = .ok (.aload_n 0, 1) := by decide +kernel
theorem dX4_heardBy_21 : decode cX4_heardBy 21 = .ok (.getfield 10, 3) := by decide +kernel
theorem dX4_heardBy_24 : decode cX4_heardBy 24 = .ok (.invokevirtual 199, 3) := by decide +kernel
theorem dX4_heardBy_27 : decode cX4_heardBy 27 = .ok (.if_icmp .ge 31, 3) := by decide +kernel
theorem dX4_heardBy_30 : decode cX4_heardBy 30 = .ok (.aload_n 0, 1) := by decide +kernel
theorem dX4_heardBy_31 : decode cX4_heardBy 31 = .ok (.getfield 10, 3) := by decide +kernel
theorem dX4_heardBy_34 : decode cX4_heardBy 34 = .ok (.iload_n 1, 1) := by decide +kernel
theorem dX4_heardBy_35 : decode cX4_heardBy 35 = .ok (.iload_n 3, 1) := by decide +kernel
theorem dX4_heardBy_36 : decode cX4_heardBy 36 = .ok (.invokevirtual 247, 3) := by decide +kernel
theorem dX4_heardBy_39 : decode cX4_heardBy 39 = .ok (.aload_n 0, 1) := by decide +kernel
theorem dX4_heardBy_40 : decode cX4_heardBy 40 = .ok (.getfield 10, 3) := by decide +kernel
theorem dX4_heardBy_43 : decode cX4_heardBy 43 = .ok (.getfield 143, 3) := by decide +kernel
theorem dX4_heardBy_46 : decode cX4_heardBy 46 = .ok (.if_icmp .lt 6, 3) := by decide +kernel
theorem dX4_heardBy_49 : decode cX4_heardBy 49 = .ok (.iinc 2 1, 3) := by decide +kernel
theorem dX4_heardBy_52 : decode cX4_heardBy 52 = .ok (.iinc 3 1, 3) := by decide +kernel
theorem dX4_heardBy_55 : decode cX4_heardBy 55 = .ok (.goto (-36), 3) := by decide +kernel
theorem dX4_heardBy_58 : decode cX4_heardBy 58 = .ok (.iload_n 2, 1) := by decide +kernel
theorem dX4_heardBy_59 : decode cX4_heardBy 59 = .ok (.ireturn, 1) := by decide +kernel
theorem dX4_gap_0 : decode cX4_gap 0 = .ok (.aload_n 0, 1) := by decide +kernel
theorem dX4_gap_1 : decode cX4_gap 1 = .ok (.iload_n 1, 1) := by decide +kernel
theorem dX4_gap_2 : decode cX4_gap 2 = .ok (.iload_n 2, 1) := by decide +kernel
theorem dX4_gap_3 : decode cX4_gap 3 = .ok (.invokevirtual 255, 3) := by decide +kernel
theorem dX4_gap_6 : decode cX4_gap 6 = .ok (.ifCond .eq 11, 3) := by decide +kernel
theorem dX4_gap_9 : decode cX4_gap 9 = .ok (.aload_n 0, 1) := by decide +kernel
theorem dX4_gap_10 : decode cX4_gap 10 = .ok (.iload_n 3, 1) := by decide +kernel
theorem dX4_gap_11 : decode cX4_gap 11 = .ok (.invokevirtual 258, 3) := by decide +kernel
theorem dX4_gap_14 : decode cX4_gap 14 = .ok (.ifCond .ne 10, 3) := by decide +kernel
theorem dX4_gap_17 : decode cX4_gap 17 = .ok (.aload_n 0, 1) := by decide +kernel
theorem dX4_gap_18 : decode cX4_gap 18 = .ok (.bipush (-2), 2) := by decide +kernel
theorem dX4_gap_20 : decode cX4_gap 20 = .ok (.invokevirtual 66, 3) := by decide +kernel
theorem dX4_gap_23 : decode cX4_gap 23 = .ok (.ireturn, 1) := by decide +kernel
theorem dX4_gap_24 : decode cX4_gap 24 = .ok (.iconst 0, 1) := by decide +kernel
theorem dX4_gap_25 : decode cX4_gap 25 = .ok (.istore 4, 2) := by decide +kernel
theorem dX4_gap_27 : decode cX4_gap 27 = .ok (.iload 4, 2) := by decide +kernel
theorem dX4_gap_29 : decode cX4_gap 29 = .ok (.aload_n 0, 1) := by decide +kernel
theorem dX4_gap_30 : decode cX4_gap 30 = .ok (.getfield 10, 3) := by decide +kernel
theorem dX4_gap_33 : decode cX4_gap 33 = .ok (.getfield 123, 3) := by decide +kernel
theorem dX4_gap_36 : decode cX4_gap 36 = .ok (.if_icmp .ge 47, 3) := by decide +kernel
theorem dX4_gap_39 : decode cX4_gap 39 = .ok (.aload_n 0, 1) := by decide +kernel
theorem dX4_gap_40 : decode cX4_gap 40 = .ok (.getfield 10, 3) := by decide +kernel
theorem dX4_gap_43 : decode cX4_gap 43 = .ok (.iload 4, 2) := by decide +kernel
theorem dX4_gap_45 : decode cX4_gap 45 = .ok (.iload_n 3, 1) := by decide +kernel
theorem dX4_gap_46 : decode cX4_gap 46 = .ok (.invokevirtual 244, 3) := by decide +kernel
theorem dX4_gap_49 : decode cX4_gap 49 = .ok (.istore 5, 2) := by decide +kernel
theorem dX4_gap_51 : decode cX4_gap 51 = .ok (.aload_n 0, 1) := by decide +kernel
theorem dX4_gap_52 : decode cX4_gap 52 = .ok (.getfield 10, 3) := by decide +kernel
theorem dX4_gap_55 : decode cX4_gap 55 = .ok (.iload_n 1, 1) := by decide +kernel
theorem dX4_gap_56 : decode cX4_gap 56 = .ok (.iload 5, 2) := by decide +kernel
theorem dX4_gap_58 : decode cX4_gap 58 = .ok (.invokevirtual 247, 3) := by decide +kernel
theorem dX4_gap_61 : decode cX4_gap 61 = .ok (.aload_n 0, 1) := by decide +kernel
theorem dX4_gap_62 : decode cX4_gap 62 = .ok (.getfield 10, 3) := by decide +kernel
theorem dX4_gap_65 : decode cX4_gap 65 = .ok (.iload_n 2, 1) := by decide +kernel
theorem dX4_gap_66 : decode cX4_gap 66 = .ok (.iload 5, 2) := by decide +kernel
theorem dX4_gap_68 : decode cX4_gap 68 = .ok (.invokevirtual 247, 3) := by decide +kernel
theorem dX4_gap_71 : decode cX4_gap 71 = .ok (.if_icmp .eq 6, 3) := by decide +kernel
theorem dX4_gap_74 : decode cX4_gap 74 = .ok (.iload 4, 2) := by decide +kernel
theorem dX4_gap_76 : decode cX4_gap 76 = .ok (.ireturn, 1) := by decide +kernel
theorem dX4_gap_77 : decode cX4_gap 77 = .ok (.iinc 4 1, 3) := by decide +kernel
theorem dX4_gap_80 : decode cX4_gap 80 = .ok (.goto (-53), 3) := by decide +kernel
theorem dX4_gap_83 : decode cX4_gap 83 = .ok (.iconst (-1), 1) := by decide +kernel
theorem dX4_gap_84 : decode cX4_gap 84 = .ok (.ireturn, 1) := by decide +kernel
theorem dX4_confused_0 : decode cX4_confused 0 = .ok (.aload_n 0, 1) := by decide +kernel
theorem dX4_confused_1 : decode cX4_confused 1 = .ok (.iload_n 1, 1) := by decide +kernel
theorem dX4_confused_2 : decode cX4_confused 2 = .ok (.invokevirtual 102, 3) := by decide +kernel
theorem dX4_confused_5 : decode cX4_confused 5 = .ok (.ifCond .ne 10, 3) := by decide +kernel
theorem dX4_confused_8 : decode cX4_confused 8 = .ok (.aload_n 0, 1) := by decide +kernel
theorem dX4_confused_9 : decode cX4_confused 9 = .ok (.bipush (-2), 2) := by decide +kernel
theorem dX4_confused_11 : decode cX4_confused 11 = .ok (.invokevirtual 66, 3) := by decide +kernel
theorem dX4_confused_14 : decode cX4_confused 14 = .ok (.ireturn, 1) := by decide +kernel
theorem dX4_confused_15 : decode cX4_confused 15 = .ok (.iconst 0, 1) := by decide +kernel
theorem dX4_confused_16 : decode cX4_confused 16 = .ok (.istore_n 2, 1) := by decide +kernel
theorem dX4_confused_17 : decode cX4_confused 17 = .ok (.iconst 0, 1) := by decide +kernel
theorem dX4_confused_18 : decode cX4_confused 18 = .ok (.istore_n 3, 1) := by decide +kernel
theorem dX4_confused_19 : decode cX4_confused 19 = .ok (.iload_n 3, 1) := by decide +kernel
theorem dX4_confused_20 : decode cX4_confused 20 = .ok (.aload_n 0, 1) := by decide +kernel
theorem dX4_confused_21 : decode cX4_confused 21 = .ok (.getfield 10, 3) := by decide +kernel
theorem dX4_confused_24 : decode cX4_confused 24 = .ok (.getfield 123, 3) := by decide +kernel
theorem dX4_confused_27 : decode cX4_confused 27 = .ok (.if_icmp .ge 72, 3) := by decide +kernel
theorem dX4_confused_30 : decode cX4_confused 30 = .ok (.aload_n 0, 1) := by decide +kernel
theorem dX4_confused_31 : decode cX4_confused 31 = .ok (.iload_n 3, 1) := by decide +kernel
theorem dX4_confused_32 : decode cX4_confused 32 = .ok (.aload_n 0, 1) := by decide +kernel
theorem dX4_confused_33 : decode cX4_confused 33 = .ok (.getfield 10, 3) := by decide +kernel
theorem dX4_confused_36 : decode cX4_confused 36 = .ok (.getfield 140, 3) := by decide +kernel
theorem dX4_confused_39 : decode cX4_confused 39 = .ok (.invokevirtual 261, 3) := by decide +kernel
theorem dX4_confused_42 : decode cX4_confused 42 = .ok (.iconst 0, 1) := by decide +kernel
theorem dX4_confused_43 : decode cX4_confused 43 = .ok (.istore 4, 2) := by decide +kernel
theorem dX4_confused_45 : decode cX4_confused 45 = .ok (.iload 4, 2) := by decide +kernel
theorem dX4_confused_47 : decode cX4_confused 47 = .ok (.aload_n 0, 1) := by decide +kernel
theorem dX4_confused_48 : decode cX4_confused 48 = .ok (.getfield 10, 3) := by decide +kernel
theorem dX4_confused_51 : decode cX4_confused 51 = .ok (.invokevirtual 249, 3) := by decide +kernel
theorem dX4_confused_54 : decode cX4_confused 54 = .ok (.if_icmp .ge 39, 3) := by decide +kernel
theorem dX4_confused_57 : decode cX4_confused 57 = .ok (.iload 4, 2) := by decide +kernel
theorem dX4_confused_59 : decode cX4_confused 59 = .ok (.iload_n 1, 1) := by decide +kernel
theorem dX4_confused_60 : decode cX4_confused 60 = .ok (.if_icmp .eq 27, 3) := by decide +kernel
theorem dX4_confused_63 : decode cX4_confused 63 = .ok (.aload_n 0, 1) := by decide +kernel
theorem dX4_confused_64 : decode cX4_confused 64 = .ok (.getfield 43, 3) := by decide +kernel
theorem dX4_confused_67 : decode cX4_confused 67 = .ok (.iload 4, 2) := by decide +kernel
theorem dX4_confused_69 : decode cX4_confused 69 = .ok (.laload, 1) := by decide +kernel
theorem dX4_confused_70 : decode cX4_confused 70 = .ok (.aload_n 0, 1) := by decide +kernel
theorem dX4_confused_71 : decode cX4_confused 71 = .ok (.getfield 43, 3) := by decide +kernel
theorem dX4_confused_74 : decode cX4_confused 74 = .ok (.iload_n 1, 1) := by decide +kernel
theorem dX4_confused_75 : decode cX4_confused 75 = .ok (.laload, 1) := by decide +kernel
theorem dX4_confused_76 : decode cX4_confused 76 = .ok (.lcmp, 1) := by decide +kernel
theorem dX4_confused_77 : decode cX4_confused 77 = .ok (.ifCond .ne 10, 3) := by decide +kernel
theorem dX4_confused_80 : decode cX4_confused 80 = .ok (.iload_n 2, 1) := by decide +kernel
theorem dX4_confused_81 : decode cX4_confused 81 = .ok (.iconst 1, 1) := by decide +kernel
theorem dX4_confused_82 : decode cX4_confused 82 = .ok (.iload 4, 2) := by decide +kernel
theorem dX4_confused_84 : decode cX4_confused 84 = .ok (.ishl, 1) := by decide +kernel
theorem dX4_confused_85 : decode cX4_confused 85 = .ok (.ior, 1) := by decide +kernel
theorem dX4_confused_86 : decode cX4_confused 86 = .ok (.istore_n 2, 1) := by decide +kernel
theorem dX4_confused_87 : decode cX4_confused 87 = .ok (.iinc 4 1, 3) := by decide +kernel
theorem dX4_confused_90 : decode cX4_confused 90 = .ok (.goto (-45), 3) := by decide +kernel
theorem dX4_confused_93 : decode cX4_confused 93 = .ok (.iinc 3 1, 3) := by decide +kernel
theorem dX4_confused_96 : decode cX4_confused 96 = .ok (.goto (-77), 3) := by decide +kernel
theorem dX4_confused_99 : decode cX4_confused 99 = .ok (.iload_n 2, 1) := by decide +kernel
theorem dX4_confused_100 : decode cX4_confused 100 = .ok (.ireturn, 1) := by decide +kernel
theorem dX4_odds_0 : decode cX4_odds 0 = .ok (.aload_n 0, 1) := by decide +kernel
theorem dX4_odds_1 : decode cX4_odds 1 = .ok (.iload_n 1, 1) := by decide +kernel
theorem dX4_odds_2 : decode cX4_odds 2 = .ok (.invokevirtual 102, 3) := by decide +kernel
theorem dX4_odds_5 : decode cX4_odds 5 = .ok (.ifCond .ne 10, 3) := by decide +kernel
theorem dX4_odds_8 : decode cX4_odds 8 = .ok (.aload_n 0, 1) := by decide +kernel
theorem dX4_odds_9 : decode cX4_odds 9 = .ok (.bipush (-2), 2) := by decide +kernel
theorem dX4_odds_11 : decode cX4_odds 11 = .ok (.invokevirtual 66, 3) := by decide +kernel
theorem dX4_odds_14 : decode cX4_odds 14 = .ok (.ireturn, 1) := by decide +kernel
theorem dX4_odds_15 : decode cX4_odds 15 = .ok (.aload_n 0, 1) := by decide +kernel
theorem dX4_odds_16 : decode cX4_odds 16 = .ok (.getfield 10, 3) := by decide +kernel
theorem dX4_odds_19 : decode cX4_odds 19 = .ok (.iload_n 1, 1) := by decide +kernel
theorem dX4_odds_20 : decode cX4_odds 20 = .ok (.invokevirtual 116, 3) := by decide +kernel
theorem dX4_odds_23 : decode cX4_odds 23 = .ok (.aload_n 0, 1) := by decide +kernel
theorem dX4_odds_24 : decode cX4_odds 24 = .ok (.getfield 10, 3) := by decide +kernel
theorem dX4_odds_27 : decode cX4_odds 27 = .ok (.invokevirtual 264, 3) := by decide +kernel
theorem dX4_odds_30 : decode cX4_odds 30 = .ok (.invokestatic 240, 3) := by decide +kernel
theorem dX4_odds_33 : decode cX4_odds 33 = .ok (.ireturn, 1) := by decide +kernel
theorem dX4_who_0 : decode cX4_who 0 = .ok (.iload_n 1, 1) := by decide +kernel
theorem dX4_who_1 : decode cX4_who 1 = .ok (.invokestatic 58, 3) := by decide +kernel
theorem dX4_who_4 : decode cX4_who 4 = .ok (.ifCond .eq 20, 3) := by decide +kernel
theorem dX4_who_7 : decode cX4_who 7 = .ok (.aload_n 0, 1) := by decide +kernel
theorem dX4_who_8 : decode cX4_who 8 = .ok (.iload_n 2, 1) := by decide +kernel
theorem dX4_who_9 : decode cX4_who 9 = .ok (.invokevirtual 258, 3) := by decide +kernel
theorem dX4_who_12 : decode cX4_who 12 = .ok (.ifCond .eq 12, 3) := by decide +kernel
theorem dX4_who_15 : decode cX4_who 15 = .ok (.iload_n 3, 1) := by decide +kernel
theorem dX4_who_16 : decode cX4_who 16 = .ok (.iconst 0, 1) := by decide +kernel
theorem dX4_who_17 : decode cX4_who 17 = .ok (.iconst 3, 1) := by decide +kernel
theorem dX4_who_18 : decode cX4_who 18 = .ok (.invokestatic 62, 3) := by decide +kernel
theorem dX4_who_21 : decode cX4_who 21 = .ok (.ifCond .ne 10, 3) := by decide +kernel
theorem dX4_who_24 : decode cX4_who 24 = .ok (.aload_n 0, 1) := by decide +kernel
theorem dX4_who_25 : decode cX4_who 25 = .ok (.bipush (-2), 2) := by decide +kernel
theorem dX4_who_27 : decode cX4_who 27 = .ok (.invokevirtual 66, 3) := by decide +kernel
theorem dX4_who_30 : decode cX4_who 30 = .ok (.ireturn, 1) := by decide +kernel
theorem dX4_who_31 : decode cX4_who 31 = .ok (.aload_n 0, 1) := by decide +kernel
theorem dX4_who_32 : decode cX4_who 32 = .ok (.iload_n 1, 1) := by decide +kernel
theorem dX4_who_33 : decode cX4_who 33 = .ok (.aload_n 0, 1) := by decide +kernel
theorem dX4_who_34 : decode cX4_who 34 = .ok (.getfield 10, 3) := by decide +kernel
theorem dX4_who_37 : decode cX4_who 37 = .ok (.getfield 123, 3) := by decide +kernel
theorem dX4_who_40 : decode cX4_who 40 = .ok (.invokevirtual 267, 3) := by decide +kernel
theorem dX4_who_43 : decode cX4_who 43 = .ok (.istore 4, 2) := by decide +kernel
theorem dX4_who_45 : decode cX4_who 45 = .ok (.iload 4, 2) := by decide +kernel
theorem dX4_who_47 : decode cX4_who 47 = .ok (.ifCond .eq 10, 3) := by decide +kernel
theorem dX4_who_50 : decode cX4_who 50 = .ok (.aload_n 0, 1) := by decide +kernel
theorem dX4_who_51 : decode cX4_who 51 = .ok (.iload 4, 2) := by decide +kernel
theorem dX4_who_53 : decode cX4_who 53 = .ok (.invokevirtual 66, 3) := by decide +kernel
theorem dX4_who_56 : decode cX4_who 56 = .ok (.ireturn, 1) := by decide +kernel
theorem dX4_who_57 : decode cX4_who 57 = .ok (.aload_n 0, 1) := by decide +kernel
theorem dX4_who_58 : decode cX4_who 58 = .ok (.iload_n 1, 1) := by decide +kernel
theorem dX4_who_59 : decode cX4_who 59 = .ok (.iload_n 2, 1) := by decide +kernel
theorem dX4_who_60 : decode cX4_who 60 = .ok (.aload_n 0, 1) := by decide +kernel
theorem dX4_who_61 : decode cX4_who 61 = .ok (.getfield 10, 3) := by decide +kernel
theorem dX4_who_64 : decode cX4_who 64 = .ok (.getfield 123, 3) := by decide +kernel
theorem dX4_who_67 : decode cX4_who 67 = .ok (.invokevirtual 270, 3) := by decide +kernel
theorem dX4_who_70 : decode cX4_who 70 = .ok (.istore 5, 2) := by decide +kernel
theorem dX4_who_72 : decode cX4_who 72 = .ok (.iload_n 3, 1) := by decide +kernel
theorem dX4_who_73 : decode cX4_who 73 = .ok (.ifCond .ne 6, 3) := by decide +kernel
theorem dX4_who_76 : decode cX4_who 76 = .ok (.iload 5, 2) := by decide +kernel
theorem dX4_who_78 : decode cX4_who 78 = .ok (.ireturn, 1) := by decide +kernel
theorem dX4_who_79 : decode cX4_who 79 = .ok (.iload_n 3, 1) := by decide +kernel
theorem dX4_who_80 : decode cX4_who 80 = .ok (.iconst 3, 1) := by decide +kernel
theorem dX4_who_81 : decode cX4_who 81 = .ok (.if_icmp .ne 19, 3) := by decide +kernel
theorem dX4_who_84 : decode cX4_who 84 = .ok (.iload 5, 2) := by decide +kernel
theorem dX4_who_86 : decode cX4_who 86 = .ok (.ifCond .ne 7, 3) := by decide +kernel
theorem dX4_who_89 : decode cX4_who 89 = .ok (.iconst (-1), 1) := by decide +kernel
theorem dX4_who_90 : decode cX4_who 90 = .ok (.goto 9, 3) := by decide +kernel
theorem dX4_who_93 : decode cX4_who 93 = .ok (.aload_n 0, 1) := by decide +kernel
theorem dX4_who_94 : decode cX4_who 94 = .ok (.iload_n 1, 1) := by decide +kernel
theorem dX4_who_95 : decode cX4_who 95 = .ok (.iload_n 2, 1) := by decide +kernel
theorem dX4_who_96 : decode cX4_who 96 = .ok (.invokevirtual 273, 3) := by decide +kernel
theorem dX4_who_99 : decode cX4_who 99 = .ok (.ireturn, 1) := by decide +kernel
theorem dX4_who_100 : decode cX4_who 100 = .ok (.aload_n 0, 1) := by decide +kernel
theorem dX4_who_101 : decode cX4_who 101 = .ok (.iload 5, 2) := by decide +kernel
theorem dX4_who_103 : decode cX4_who 103 = .ok (.invokevirtual 276, 3) := by decide +kernel
theorem dX4_who_106 : decode cX4_who 106 = .ok (.istore 6, 2) := by decide +kernel
theorem dX4_who_108 : decode cX4_who 108 = .ok (.iload_n 3, 1) := by decide +kernel
theorem dX4_who_109 : decode cX4_who 109 = .ok (.iconst 1, 1) := by decide +kernel
theorem dX4_who_110 : decode cX4_who 110 = .ok (.if_icmp .ne 6, 3) := by decide +kernel
theorem dX4_who_113 : decode cX4_who 113 = .ok (.iload 6, 2) := by decide +kernel
theorem dX4_who_115 : decode cX4_who 115 = .ok (.ireturn, 1) := by decide +kernel
theorem dX4_who_116 : decode cX4_who 116 = .ok (.iload 6, 2) := by decide +kernel
theorem dX4_who_118 : decode cX4_who 118 = .ok (.iconst (-1), 1) := by decide +kernel
theorem dX4_who_119 : decode cX4_who 119 = .ok (.if_icmp .ne 12, 3) := by decide +kernel
theorem dX4_who_122 : decode cX4_who 122 = .ok (.aload_n 0, 1) := by decide +kernel
theorem dX4_who_123 : decode cX4_who 123 = .ok (.bipush (-5), 2) := by decide +kernel
theorem dX4_who_125 : decode cX4_who 125 = .ok (.invokevirtual 66, 3) := by decide +kernel
theorem dX4_who_128 : decode cX4_who 128 = .ok (.goto 21, 3) := by decide +kernel
theorem dX4_who_131 : decode cX4_who 131 = .ok (.aload_n 0, 1) := by decide +kernel
theorem dX4_who_132 : decode cX4_who 132 = .ok (.getfield 10, 3) := by decide +kernel
theorem dX4_who_135 : decode cX4_who 135 = .ok (.iload 6, 2) := by decide +kernel
theorem dX4_who_137 : decode cX4_who 137 = .ok (.invokevirtual 116, 3) := by decide +kernel
theorem dX4_who_140 : decode cX4_who 140 = .ok (.aload_n 0, 1) := by decide +kernel
theorem dX4_who_141 : decode cX4_who 141 = .ok (.iload 5, 2) := by decide +kernel
theorem dX4_who_143 : decode cX4_who 143 = .ok (.invokevirtual 279, 3) := by decide +kernel
theorem dX4_who_146 : decode cX4_who 146 = .ok (.invokestatic 240, 3) := by decide +kernel
theorem dX4_who_149 : decode cX4_who 149 = .ok (.ireturn, 1) := by decide +kernel
theorem dX4_apart_0 : decode cX4_apart 0 = .ok (.aload_n 0, 1) := by decide +kernel
theorem dX4_apart_1 : decode cX4_apart 1 = .ok (.iload_n 1, 1) := by decide +kernel
theorem dX4_apart_2 : decode cX4_apart 2 = .ok (.invokevirtual 258, 3) := by decide +kernel
theorem dX4_apart_5 : decode cX4_apart 5 = .ok (.ifCond .ne 10, 3) := by decide +kernel
theorem dX4_apart_8 : decode cX4_apart 8 = .ok (.aload_n 0, 1) := by decide +kernel
theorem dX4_apart_9 : decode cX4_apart 9 = .ok (.bipush (-2), 2) := by decide +kernel
theorem dX4_apart_11 : decode cX4_apart 11 = .ok (.invokevirtual 66, 3) := by decide +kernel
theorem dX4_apart_14 : decode cX4_apart 14 = .ok (.ireturn, 1) := by decide +kernel
theorem dX4_apart_15 : decode cX4_apart 15 = .ok (.aload_n 0, 1) := by decide +kernel
theorem dX4_apart_16 : decode cX4_apart 16 = .ok (.iload_n 1, 1) := by decide +kernel
theorem dX4_apart_17 : decode cX4_apart 17 = .ok (.aload_n 0, 1) := by decide +kernel
theorem dX4_apart_18 : decode cX4_apart 18 = .ok (.getfield 10, 3) := by decide +kernel
theorem dX4_apart_21 : decode cX4_apart 21 = .ok (.getfield 140, 3) := by decide +kernel
theorem dX4_apart_24 : decode cX4_apart 24 = .ok (.invokevirtual 282, 3) := by decide +kernel
theorem dX4_apart_27 : decode cX4_apart 27 = .ok (.ireturn, 1) := by decide +kernel
theorem dX4_telling_0 : decode cX4_telling 0 = .ok (.iload_n 1, 1) := by decide +kernel
theorem dX4_telling_1 : decode cX4_telling 1 = .ok (.iconst 0, 1) := by decide +kernel
theorem dX4_telling_2 : decode cX4_telling 2 = .ok (.iconst 1, 1) := by decide +kernel
theorem dX4_telling_3 : decode cX4_telling 3 = .ok (.invokestatic 62, 3) := by decide +kernel
theorem dX4_telling_6 : decode cX4_telling 6 = .ok (.ifCond .ne 10, 3) := by decide +kernel
theorem dX4_telling_9 : decode cX4_telling 9 = .ok (.aload_n 0, 1) := by decide +kernel
theorem dX4_telling_10 : decode cX4_telling 10 = .ok (.bipush (-2), 2) := by decide +kernel
theorem dX4_telling_12 : decode cX4_telling 12 = .ok (.invokevirtual 66, 3) := by decide +kernel
theorem dX4_telling_15 : decode cX4_telling 15 = .ok (.ireturn, 1) := by decide +kernel
theorem dX4_telling_16 : decode cX4_telling 16 = .ok (.iload_n 1, 1) := by decide +kernel
theorem dX4_telling_17 : decode cX4_telling 17 = .ok (.ifCond .ne 10, 3) := by decide +kernel
theorem dX4_telling_20 : decode cX4_telling 20 = .ok (.aload_n 0, 1) := by decide +kernel
theorem dX4_telling_21 : decode cX4_telling 21 = .ok (.invokevirtual 285, 3) := by decide +kernel
theorem dX4_telling_24 : decode cX4_telling 24 = .ok (.goto 7, 3) := by decide +kernel
theorem dX4_telling_27 : decode cX4_telling 27 = .ok (.aload_n 0, 1) := by decide +kernel
theorem dX4_telling_28 : decode cX4_telling 28 = .ok (.invokevirtual 288, 3) := by decide +kernel
theorem dX4_telling_31 : decode cX4_telling 31 = .ok (.ireturn, 1) := by decide +kernel
theorem dX4_as_0 : decode cX4_as 0 = .ok (.aload_n 0, 1) := by decide +kernel
theorem dX4_as_1 : decode cX4_as 1 = .ok (.iload_n 1, 1) := by decide +kernel
theorem dX4_as_2 : decode cX4_as 2 = .ok (.iload_n 2, 1) := by decide +kernel
theorem dX4_as_3 : decode cX4_as 3 = .ok (.invokevirtual 255, 3) := by decide +kernel
theorem dX4_as_6 : decode cX4_as 6 = .ok (.ifCond .eq 20, 3) := by decide +kernel
theorem dX4_as_9 : decode cX4_as 9 = .ok (.aload_n 0, 1) := by decide +kernel
theorem dX4_as_10 : decode cX4_as 10 = .ok (.iload_n 3, 1) := by decide +kernel
theorem dX4_as_11 : decode cX4_as 11 = .ok (.invokevirtual 258, 3) := by decide +kernel
theorem dX4_as_14 : decode cX4_as 14 = .ok (.ifCond .eq 12, 3) := by decide +kernel
theorem dX4_as_17 : decode cX4_as 17 = .ok (.aload_n 0, 1) := by decide +kernel
theorem dX4_as_18 : decode cX4_as 18 = .ok (.iload 4, 2) := by decide +kernel
theorem dX4_as_20 : decode cX4_as 20 = .ok (.invokevirtual 175, 3) := by decide +kernel
theorem dX4_as_23 : decode cX4_as 23 = .ok (.ifCond .ne 10, 3) := by decide +kernel
theorem dX4_as_26 : decode cX4_as 26 = .ok (.aload_n 0, 1) := by decide +kernel
theorem dX4_as_27 : decode cX4_as 27 = .ok (.bipush (-2), 2) := by decide +kernel
theorem dX4_as_29 : decode cX4_as 29 = .ok (.invokevirtual 66, 3) := by decide +kernel
theorem dX4_as_32 : decode cX4_as 32 = .ok (.ireturn, 1) := by decide +kernel
theorem dX4_as_33 : decode cX4_as 33 = .ok (.aload_n 0, 1) := by decide +kernel
theorem dX4_as_34 : decode cX4_as 34 = .ok (.getfield 39, 3) := by decide +kernel
theorem dX4_as_37 : decode cX4_as 37 = .ok (.aload_n 0, 1) := by decide +kernel
theorem dX4_as_38 : decode cX4_as 38 = .ok (.getfield 10, 3) := by decide +kernel
theorem dX4_as_41 : decode cX4_as 41 = .ok (.getfield 123, 3) := by decide +kernel
theorem dX4_as_44 : decode cX4_as 44 = .ok (.putfield 291, 3) := by decide +kernel
theorem dX4_as_47 : decode cX4_as 47 = .ok (.iconst 0, 1) := by decide +kernel
theorem dX4_as_48 : decode cX4_as 48 = .ok (.istore 5, 2) := by decide +kernel
theorem dX4_as_50 : decode cX4_as 50 = .ok (.iload 5, 2) := by decide +kernel
theorem dX4_as_52 : decode cX4_as 52 = .ok (.aload_n 0, 1) := by decide +kernel
theorem dX4_as_53 : decode cX4_as 53 = .ok (.getfield 10, 3) := by decide +kernel
theorem dX4_as_56 : decode cX4_as 56 = .ok (.invokevirtual 199, 3) := by decide +kernel
theorem dX4_as_59 : decode cX4_as 59 = .ok (.if_icmp .ge 65, 3) := by decide +kernel
theorem dX4_as_62 : decode cX4_as 62 = .ok (.aload_n 0, 1) := by decide +kernel
theorem dX4_as_63 : decode cX4_as 63 = .ok (.getfield 10, 3) := by decide +kernel
theorem dX4_as_66 : decode cX4_as 66 = .ok (.aload_n 0, 1) := by decide +kernel
theorem dX4_as_67 : decode cX4_as 67 = .ok (.getfield 10, 3) := by decide +kernel
theorem dX4_as_70 : decode cX4_as 70 = .ok (.iload 5, 2) := by decide +kernel
theorem dX4_as_72 : decode cX4_as 72 = .ok (.invokevirtual 292, 3) := by decide +kernel
theorem dX4_as_75 : decode cX4_as 75 = .ok (.iload_n 3, 1) := by decide +kernel
theorem dX4_as_76 : decode cX4_as 76 = .ok (.invokevirtual 244, 3) := by decide +kernel
theorem dX4_as_79 : decode cX4_as 79 = .ok (.istore 6, 2) := by decide +kernel
theorem dX4_as_81 : decode cX4_as 81 = .ok (.aload_n 0, 1) := by decide +kernel
theorem dX4_as_82 : decode cX4_as 82 = .ok (.getfield 39, 3) := by decide +kernel
theorem dX4_as_85 : decode cX4_as 85 = .ok (.iload 5, 2) := by decide +kernel
theorem dX4_as_87 : decode cX4_as 87 = .ok (.aload_n 0, 1) := by decide +kernel
theorem dX4_as_88 : decode cX4_as 88 = .ok (.getfield 10, 3) := by decide +kernel
theorem dX4_as_91 : decode cX4_as 91 = .ok (.iload_n 1, 1) := by decide +kernel
theorem dX4_as_92 : decode cX4_as 92 = .ok (.iload 5, 2) := by decide +kernel
theorem dX4_as_94 : decode cX4_as 94 = .ok (.invokevirtual 247, 3) := by decide +kernel
theorem dX4_as_97 : decode cX4_as 97 = .ok (.aload_n 0, 1) := by decide +kernel
theorem dX4_as_98 : decode cX4_as 98 = .ok (.getfield 10, 3) := by decide +kernel
theorem dX4_as_101 : decode cX4_as 101 = .ok (.iload_n 2, 1) := by decide +kernel
theorem dX4_as_102 : decode cX4_as 102 = .ok (.iload 6, 2) := by decide +kernel
theorem dX4_as_104 : decode cX4_as 104 = .ok (.invokevirtual 247, 3) := by decide +kernel
theorem dX4_as_107 : decode cX4_as 107 = .ok (.if_icmp .ne 7, 3) := by decide +kernel
theorem dX4_as_110 : decode cX4_as 110 = .ok (.iconst 0, 1) := by decide +kernel
theorem dX4_as_111 : decode cX4_as 111 = .ok (.goto 4, 3) := by decide +kernel
theorem dX4_as_114 : decode cX4_as 114 = .ok (.iconst 1, 1) := by decide +kernel
theorem dX4_as_115 : decode cX4_as 115 = .ok (.invokevirtual 231, 3) := by decide +kernel
theorem dX4_as_118 : decode cX4_as 118 = .ok (.iinc 5 1, 3) := by decide +kernel
theorem dX4_as_121 : decode cX4_as 121 = .ok (.goto (-71), 3) := by decide +kernel
theorem dX4_as_124 : decode cX4_as 124 = .ok (.aload_n 0, 1) := by decide +kernel
theorem dX4_as_125 : decode cX4_as 125 = .ok (.iload 4, 2) := by decide +kernel
theorem dX4_as_127 : decode cX4_as 127 = .ok (.invokevirtual 193, 3) := by decide +kernel
theorem dX4_as_130 : decode cX4_as 130 = .ok (.ireturn, 1) := by decide +kernel
theorem dX4_two_0 : decode cX4_two 0 = .ok (.iload_n 1, 1) := by decide +kernel
theorem dX4_two_1 : decode cX4_two 1 = .ok (.invokestatic 58, 3) := by decide +kernel
theorem dX4_two_4 : decode cX4_two 4 = .ok (.ifCond .eq 34, 3) := by decide +kernel
theorem dX4_two_7 : decode cX4_two 7 = .ok (.aload_n 0, 1) := by decide +kernel
theorem dX4_two_8 : decode cX4_two 8 = .ok (.iload_n 2, 1) := by decide +kernel
theorem dX4_two_9 : decode cX4_two 9 = .ok (.invokevirtual 258, 3) := by decide +kernel
theorem dX4_two_12 : decode cX4_two 12 = .ok (.ifCond .eq 26, 3) := by decide +kernel
theorem dX4_two_15 : decode cX4_two 15 = .ok (.aload_n 0, 1) := by decide +kernel
theorem dX4_two_16 : decode cX4_two 16 = .ok (.iload_n 3, 1) := by decide +kernel
theorem dX4_two_17 : decode cX4_two 17 = .ok (.invokevirtual 258, 3) := by decide +kernel
theorem dX4_two_20 : decode cX4_two 20 = .ok (.ifCond .eq 18, 3) := by decide +kernel
theorem dX4_two_23 : decode cX4_two 23 = .ok (.iload_n 2, 1) := by decide +kernel
theorem dX4_two_24 : decode cX4_two 24 = .ok (.iload_n 3, 1) := by decide +kernel
theorem dX4_two_25 : decode cX4_two 25 = .ok (.if_icmp .eq 13, 3) := by decide +kernel
theorem dX4_two_28 : decode cX4_two 28 = .ok (.iload 4, 2) := by decide +kernel
theorem dX4_two_30 : decode cX4_two 30 = .ok (.iconst 0, 1) := by decide +kernel
theorem dX4_two_31 : decode cX4_two 31 = .ok (.iconst 1, 1) := by decide +kernel
theorem dX4_two_32 : decode cX4_two 32 = .ok (.invokestatic 62, 3) := by decide +kernel
theorem dX4_two_35 : decode cX4_two 35 = .ok (.ifCond .ne 10, 3) := by decide +kernel
theorem dX4_two_38 : decode cX4_two 38 = .ok (.aload_n 0, 1) := by decide +kernel
theorem dX4_two_39 : decode cX4_two 39 = .ok (.bipush (-2), 2) := by decide +kernel
theorem dX4_two_41 : decode cX4_two 41 = .ok (.invokevirtual 66, 3) := by decide +kernel
theorem dX4_two_44 : decode cX4_two 44 = .ok (.ireturn, 1) := by decide +kernel
theorem dX4_two_45 : decode cX4_two 45 = .ok (.aload_n 0, 1) := by decide +kernel
theorem dX4_two_46 : decode cX4_two 46 = .ok (.iload_n 1, 1) := by decide +kernel
theorem dX4_two_47 : decode cX4_two 47 = .ok (.aload_n 0, 1) := by decide +kernel
theorem dX4_two_48 : decode cX4_two 48 = .ok (.getfield 10, 3) := by decide +kernel
theorem dX4_two_51 : decode cX4_two 51 = .ok (.getfield 123, 3) := by decide +kernel
theorem dX4_two_54 : decode cX4_two 54 = .ok (.invokevirtual 267, 3) := by decide +kernel
theorem dX4_two_57 : decode cX4_two 57 = .ok (.istore 5, 2) := by decide +kernel
theorem dX4_two_59 : decode cX4_two 59 = .ok (.iload 5, 2) := by decide +kernel
theorem dX4_two_61 : decode cX4_two 61 = .ok (.ifCond .eq 10, 3) := by decide +kernel
theorem dX4_two_64 : decode cX4_two 64 = .ok (.aload_n 0, 1) := by decide +kernel
theorem dX4_two_65 : decode cX4_two 65 = .ok (.iload 5, 2) := by decide +kernel
theorem dX4_two_67 : decode cX4_two 67 = .ok (.invokevirtual 66, 3) := by decide +kernel
theorem dX4_two_70 : decode cX4_two 70 = .ok (.ireturn, 1) := by decide +kernel
theorem dX4_two_71 : decode cX4_two 71 = .ok (.iconst 0, 1) := by decide +kernel
theorem dX4_two_72 : decode cX4_two 72 = .ok (.istore 6, 2) := by decide +kernel
theorem dX4_two_74 : decode cX4_two 74 = .ok (.iconst (-1), 1) := by decide +kernel
theorem dX4_two_75 : decode cX4_two 75 = .ok (.istore 7, 2) := by decide +kernel
theorem dX4_two_77 : decode cX4_two 77 = .ok (.iconst 0, 1) := by decide +kernel
theorem dX4_two_78 : decode cX4_two 78 = .ok (.istore 8, 2) := by decide +kernel
theorem dX4_two_80 : decode cX4_two 80 = .ok (.iload 8, 2) := by decide +kernel
theorem dX4_two_82 : decode cX4_two 82 = .ok (.aload_n 0, 1) := by decide +kernel
theorem dX4_two_83 : decode cX4_two 83 = .ok (.getfield 10, 3) := by decide +kernel
theorem dX4_two_86 : decode cX4_two 86 = .ok (.invokevirtual 249, 3) := by decide +kernel
theorem dX4_two_89 : decode cX4_two 89 = .ok (.if_icmp .ge 74, 3) := by decide +kernel
theorem dX4_two_92 : decode cX4_two 92 = .ok (.iconst 0, 1) := by decide +kernel
theorem dX4_two_93 : decode cX4_two 93 = .ok (.istore 9, 2) := by decide +kernel
theorem dX4_two_95 : decode cX4_two 95 = .ok (.iload 9, 2) := by decide +kernel
theorem dX4_two_97 : decode cX4_two 97 = .ok (.aload_n 0, 1) := by decide +kernel
theorem dX4_two_98 : decode cX4_two 98 = .ok (.getfield 10, 3) := by decide +kernel
theorem dX4_two_101 : decode cX4_two 101 = .ok (.invokevirtual 249, 3) := by decide +kernel
theorem dX4_two_104 : decode cX4_two 104 = .ok (.if_icmp .ge 53, 3) := by decide +kernel
theorem dX4_two_107 : decode cX4_two 107 = .ok (.iload 8, 2) := by decide +kernel
theorem dX4_two_109 : decode cX4_two 109 = .ok (.iload 9, 2) := by decide +kernel
theorem dX4_two_111 : decode cX4_two 111 = .ok (.if_icmp .eq 40, 3) := by decide +kernel
theorem dX4_two_114 : decode cX4_two 114 = .ok (.aload_n 0, 1) := by decide +kernel
theorem dX4_two_115 : decode cX4_two 115 = .ok (.iload_n 1, 1) := by decide +kernel
theorem dX4_two_116 : decode cX4_two 116 = .ok (.iload 8, 2) := by decide +kernel
theorem dX4_two_118 : decode cX4_two 118 = .ok (.iload_n 2, 1) := by decide +kernel
theorem dX4_two_119 : decode cX4_two 119 = .ok (.iload 9, 2) := by decide +kernel
theorem dX4_two_121 : decode cX4_two 121 = .ok (.iload_n 3, 1) := by decide +kernel
theorem dX4_two_122 : decode cX4_two 122 = .ok (.invokevirtual 295, 3) := by decide +kernel
theorem dX4_two_125 : decode cX4_two 125 = .ok (.ifCond .eq 26, 3) := by decide +kernel
theorem dX4_two_128 : decode cX4_two 128 = .ok (.iload 6, 2) := by decide +kernel
theorem dX4_two_130 : decode cX4_two 130 = .ok (.ifCond .ne 14, 3) := by decide +kernel
theorem dX4_two_133 : decode cX4_two 133 = .ok (.bipush 10, 2) := by decide +kernel
theorem dX4_two_135 : decode cX4_two 135 = .ok (.iload 8, 2) := by decide +kernel
theorem dX4_two_137 : decode cX4_two 137 = .ok (.imul, 1) := by decide +kernel
theorem dX4_two_138 : decode cX4_two 138 = .ok (.iload 9, 2) := by decide +kernel
theorem dX4_two_140 : decode cX4_two 140 = .ok (.iadd, 1) := by decide +kernel
theorem dX4_two_141 : decode cX4_two 141 = .ok (.goto 5, 3) := by decide +kernel
theorem dX4_two_144 : decode cX4_two 144 = .ok (.iload 7, 2) := by decide +kernel
theorem dX4_two_146 : decode cX4_two 146 = .ok (.istore 7, 2) := by decide +kernel
theorem dX4_two_148 : decode cX4_two 148 = .ok (.iinc 6 1, 3) := by decide +kernel
theorem dX4_two_151 : decode cX4_two 151 = .ok (.iinc 9 1, 3) := by decide +kernel
theorem dX4_two_154 : decode cX4_two 154 = .ok (.goto (-59), 3) := by decide +kernel
theorem dX4_two_157 : decode cX4_two 157 = .ok (.iinc 8 1, 3) := by decide +kernel
theorem dX4_two_160 : decode cX4_two 160 = .ok (.goto (-80), 3) := by decide +kernel
theorem dX4_two_163 : decode cX4_two 163 = .ok (.iload 4, 2) := by decide +kernel
theorem dX4_two_165 : decode cX4_two 165 = .ok (.ifCond .ne 8, 3) := by decide +kernel
theorem dX4_two_168 : decode cX4_two 168 = .ok (.iload 6, 2) := by decide +kernel
theorem dX4_two_170 : decode cX4_two 170 = .ok (.goto 5, 3) := by decide +kernel
theorem dX4_two_173 : decode cX4_two 173 = .ok (.iload 7, 2) := by decide +kernel
theorem dX4_two_175 : decode cX4_two 175 = .ok (.ireturn, 1) := by decide +kernel
theorem dX4_meant_0 : decode cX4_meant 0 = .ok (.iload_n 1, 1) := by decide +kernel
theorem dX4_meant_1 : decode cX4_meant 1 = .ok (.invokestatic 58, 3) := by decide +kernel
theorem dX4_meant_4 : decode cX4_meant 4 = .ok (.ifCond .eq 29, 3) := by decide +kernel
theorem dX4_meant_7 : decode cX4_meant 7 = .ok (.aload_n 0, 1) := by decide +kernel
theorem dX4_meant_8 : decode cX4_meant 8 = .ok (.iload_n 2, 1) := by decide +kernel
theorem dX4_meant_9 : decode cX4_meant 9 = .ok (.invokevirtual 102, 3) := by decide +kernel
theorem dX4_meant_12 : decode cX4_meant 12 = .ok (.ifCond .eq 21, 3) := by decide +kernel
theorem dX4_meant_15 : decode cX4_meant 15 = .ok (.aload_n 0, 1) := by decide +kernel
theorem dX4_meant_16 : decode cX4_meant 16 = .ok (.iload_n 3, 1) := by decide +kernel
theorem dX4_meant_17 : decode cX4_meant 17 = .ok (.invokevirtual 258, 3) := by decide +kernel
theorem dX4_meant_20 : decode cX4_meant 20 = .ok (.ifCond .eq 13, 3) := by decide +kernel
theorem dX4_meant_23 : decode cX4_meant 23 = .ok (.iload 4, 2) := by decide +kernel
theorem dX4_meant_25 : decode cX4_meant 25 = .ok (.iconst 0, 1) := by decide +kernel
theorem dX4_meant_26 : decode cX4_meant 26 = .ok (.iconst 1, 1) := by decide +kernel
theorem dX4_meant_27 : decode cX4_meant 27 = .ok (.invokestatic 62, 3) := by decide +kernel
theorem dX4_meant_30 : decode cX4_meant 30 = .ok (.ifCond .ne 10, 3) := by decide +kernel
theorem dX4_meant_33 : decode cX4_meant 33 = .ok (.aload_n 0, 1) := by decide +kernel
theorem dX4_meant_34 : decode cX4_meant 34 = .ok (.bipush (-2), 2) := by decide +kernel
theorem dX4_meant_36 : decode cX4_meant 36 = .ok (.invokevirtual 66, 3) := by decide +kernel
theorem dX4_meant_39 : decode cX4_meant 39 = .ok (.ireturn, 1) := by decide +kernel
theorem dX4_meant_40 : decode cX4_meant 40 = .ok (.aload_n 0, 1) := by decide +kernel
theorem dX4_meant_41 : decode cX4_meant 41 = .ok (.iload_n 1, 1) := by decide +kernel
theorem dX4_meant_42 : decode cX4_meant 42 = .ok (.aload_n 0, 1) := by decide +kernel
theorem dX4_meant_43 : decode cX4_meant 43 = .ok (.getfield 10, 3) := by decide +kernel
theorem dX4_meant_46 : decode cX4_meant 46 = .ok (.getfield 123, 3) := by decide +kernel
theorem dX4_meant_49 : decode cX4_meant 49 = .ok (.invokevirtual 267, 3) := by decide +kernel
theorem dX4_meant_52 : decode cX4_meant 52 = .ok (.istore 5, 2) := by decide +kernel
theorem dX4_meant_54 : decode cX4_meant 54 = .ok (.iload 5, 2) := by decide +kernel
theorem dX4_meant_56 : decode cX4_meant 56 = .ok (.ifCond .eq 10, 3) := by decide +kernel
theorem dX4_meant_59 : decode cX4_meant 59 = .ok (.aload_n 0, 1) := by decide +kernel
theorem dX4_meant_60 : decode cX4_meant 60 = .ok (.iload 5, 2) := by decide +kernel
theorem dX4_meant_62 : decode cX4_meant 62 = .ok (.invokevirtual 66, 3) := by decide +kernel
theorem dX4_meant_65 : decode cX4_meant 65 = .ok (.ireturn, 1) := by decide +kernel
theorem dX4_meant_66 : decode cX4_meant 66 = .ok (.iload 4, 2) := by decide +kernel
theorem dX4_meant_68 : decode cX4_meant 68 = .ok (.ifCond .ne 13, 3) := by decide +kernel
theorem dX4_meant_71 : decode cX4_meant 71 = .ok (.aload_n 0, 1) := by decide +kernel
theorem dX4_meant_72 : decode cX4_meant 72 = .ok (.iload_n 1, 1) := by decide +kernel
theorem dX4_meant_73 : decode cX4_meant 73 = .ok (.iload_n 2, 1) := by decide +kernel
theorem dX4_meant_74 : decode cX4_meant 74 = .ok (.iload_n 3, 1) := by decide +kernel
theorem dX4_meant_75 : decode cX4_meant 75 = .ok (.invokevirtual 299, 3) := by decide +kernel
theorem dX4_meant_78 : decode cX4_meant 78 = .ok (.goto 10, 3) := by decide +kernel
theorem dX4_meant_81 : decode cX4_meant 81 = .ok (.aload_n 0, 1) := by decide +kernel
theorem dX4_meant_82 : decode cX4_meant 82 = .ok (.iload_n 1, 1) := by decide +kernel
theorem dX4_meant_83 : decode cX4_meant 83 = .ok (.iload_n 2, 1) := by decide +kernel
theorem dX4_meant_84 : decode cX4_meant 84 = .ok (.iload_n 3, 1) := by decide +kernel
theorem dX4_meant_85 : decode cX4_meant 85 = .ok (.invokevirtual 302, 3) := by decide +kernel
theorem dX4_meant_88 : decode cX4_meant 88 = .ok (.ireturn, 1) := by decide +kernel
theorem dX4_judge_0 : decode cX4_judge 0 = .ok (.iload_n 1, 1) := by decide +kernel
theorem dX4_judge_1 : decode cX4_judge 1 = .ok (.invokestatic 58, 3) := by decide +kernel
theorem dX4_judge_4 : decode cX4_judge 4 = .ok (.ifCond .eq 13, 3) := by decide +kernel
theorem dX4_judge_7 : decode cX4_judge 7 = .ok (.iload_n 2, 1) := by decide +kernel
theorem dX4_judge_8 : decode cX4_judge 8 = .ok (.iconst 0, 1) := by decide +kernel
theorem dX4_judge_9 : decode cX4_judge 9 = .ok (.bipush 40, 2) := by decide +kernel
theorem dX4_judge_11 : decode cX4_judge 11 = .ok (.invokestatic 62, 3) := by decide +kernel
theorem dX4_judge_14 : decode cX4_judge 14 = .ok (.ifCond .ne 10, 3) := by decide +kernel
theorem dX4_judge_17 : decode cX4_judge 17 = .ok (.aload_n 0, 1) := by decide +kernel
theorem dX4_judge_18 : decode cX4_judge 18 = .ok (.bipush (-2), 2) := by decide +kernel
theorem dX4_judge_20 : decode cX4_judge 20 = .ok (.invokevirtual 66, 3) := by decide +kernel
theorem dX4_judge_23 : decode cX4_judge 23 = .ok (.ireturn, 1) := by decide +kernel
theorem dX4_judge_24 : decode cX4_judge 24 = .ok (.aload_n 0, 1) := by decide +kernel
theorem dX4_judge_25 : decode cX4_judge 25 = .ok (.iload_n 1, 1) := by decide +kernel
theorem dX4_judge_26 : decode cX4_judge 26 = .ok (.iload_n 2, 1) := by decide +kernel
theorem dX4_judge_27 : decode cX4_judge 27 = .ok (.invokevirtual 267, 3) := by decide +kernel
theorem dX4_judge_30 : decode cX4_judge 30 = .ok (.istore_n 3, 1) := by decide +kernel
theorem dX4_judge_31 : decode cX4_judge 31 = .ok (.iload_n 3, 1) := by decide +kernel
theorem dX4_judge_32 : decode cX4_judge 32 = .ok (.ifCond .eq 11, 3) := by decide +kernel
theorem dX4_judge_35 : decode cX4_judge 35 = .ok (.aload_n 0, 1) := by decide +kernel
theorem dX4_judge_36 : decode cX4_judge 36 = .ok (.iload_n 3, 1) := by decide +kernel
theorem dX4_judge_37 : decode cX4_judge 37 = .ok (.invokevirtual 66, 3) := by decide +kernel
theorem dX4_judge_40 : decode cX4_judge 40 = .ok (.goto 9, 3) := by decide +kernel
theorem dX4_judge_43 : decode cX4_judge 43 = .ok (.aload_n 0, 1) := by decide +kernel
theorem dX4_judge_44 : decode cX4_judge 44 = .ok (.iload_n 1, 1) := by decide +kernel
theorem dX4_judge_45 : decode cX4_judge 45 = .ok (.iload_n 2, 1) := by decide +kernel
theorem dX4_judge_46 : decode cX4_judge 46 = .ok (.invokevirtual 305, 3) := by decide +kernel
theorem dX4_judge_49 : decode cX4_judge 49 = .ok (.ireturn, 1) := by decide +kernel
theorem dX4_loud_0 : decode cX4_loud 0 = .ok (.iload_n 1, 1) := by decide +kernel
theorem dX4_loud_1 : decode cX4_loud 1 = .ok (.invokestatic 58, 3) := by decide +kernel
theorem dX4_loud_4 : decode cX4_loud 4 = .ok (.ifCond .eq 31, 3) := by decide +kernel
theorem dX4_loud_7 : decode cX4_loud 7 = .ok (.iload_n 2, 1) := by decide +kernel
theorem dX4_loud_8 : decode cX4_loud 8 = .ok (.iconst 0, 1) := by decide +kernel
theorem dX4_loud_9 : decode cX4_loud 9 = .ok (.bipush 40, 2) := by decide +kernel
theorem dX4_loud_11 : decode cX4_loud 11 = .ok (.invokestatic 62, 3) := by decide +kernel
theorem dX4_loud_14 : decode cX4_loud 14 = .ok (.ifCond .eq 21, 3) := by decide +kernel
theorem dX4_loud_17 : decode cX4_loud 17 = .ok (.aload_n 0, 1) := by decide +kernel
theorem dX4_loud_18 : decode cX4_loud 18 = .ok (.iload_n 3, 1) := by decide +kernel
theorem dX4_loud_19 : decode cX4_loud 19 = .ok (.invokevirtual 102, 3) := by decide +kernel
theorem dX4_loud_22 : decode cX4_loud 22 = .ok (.ifCond .eq 13, 3) := by decide +kernel
theorem dX4_loud_25 : decode cX4_loud 25 = .ok (.iload 4, 2) := by decide +kernel
theorem dX4_loud_27 : decode cX4_loud 27 = .ok (.iconst 0, 1) := by decide +kernel
theorem dX4_loud_28 : decode cX4_loud 28 = .ok (.iconst 1, 1) := by decide +kernel
theorem dX4_loud_29 : decode cX4_loud 29 = .ok (.invokestatic 62, 3) := by decide +kernel
theorem dX4_loud_32 : decode cX4_loud 32 = .ok (.ifCond .ne 10, 3) := by decide +kernel
theorem dX4_loud_35 : decode cX4_loud 35 = .ok (.aload_n 0, 1) := by decide +kernel
theorem dX4_loud_36 : decode cX4_loud 36 = .ok (.bipush (-2), 2) := by decide +kernel
theorem dX4_loud_38 : decode cX4_loud 38 = .ok (.invokevirtual 66, 3) := by decide +kernel
theorem dX4_loud_41 : decode cX4_loud 41 = .ok (.ireturn, 1) := by decide +kernel
theorem dX4_loud_42 : decode cX4_loud 42 = .ok (.aload_n 0, 1) := by decide +kernel
theorem dX4_loud_43 : decode cX4_loud 43 = .ok (.iload_n 1, 1) := by decide +kernel
theorem dX4_loud_44 : decode cX4_loud 44 = .ok (.iload_n 2, 1) := by decide +kernel
theorem dX4_loud_45 : decode cX4_loud 45 = .ok (.invokevirtual 308, 3) := by decide +kernel
theorem dX4_loud_48 : decode cX4_loud 48 = .ok (.istore 5, 2) := by decide +kernel
theorem dX4_loud_50 : decode cX4_loud 50 = .ok (.iload 5, 2) := by decide +kernel
theorem dX4_loud_52 : decode cX4_loud 52 = .ok (.ifCond .eq 10, 3) := by decide +kernel
theorem dX4_loud_55 : decode cX4_loud 55 = .ok (.aload_n 0, 1) := by decide +kernel
theorem dX4_loud_56 : decode cX4_loud 56 = .ok (.iload 5, 2) := by decide +kernel
theorem dX4_loud_58 : decode cX4_loud 58 = .ok (.invokevirtual 66, 3) := by decide +kernel
theorem dX4_loud_61 : decode cX4_loud 61 = .ok (.ireturn, 1) := by decide +kernel
theorem dX4_loud_62 : decode cX4_loud 62 = .ok (.iload 4, 2) := by decide +kernel
theorem dX4_loud_64 : decode cX4_loud 64 = .ok (.ifCond .ne 12, 3) := by decide +kernel
theorem dX4_loud_67 : decode cX4_loud 67 = .ok (.aload_n 0, 1) := by decide +kernel
theorem dX4_loud_68 : decode cX4_loud 68 = .ok (.iload_n 1, 1) := by decide +kernel
theorem dX4_loud_69 : decode cX4_loud 69 = .ok (.iload_n 3, 1) := by decide +kernel
theorem dX4_loud_70 : decode cX4_loud 70 = .ok (.invokevirtual 311, 3) := by decide +kernel
theorem dX4_loud_73 : decode cX4_loud 73 = .ok (.goto 9, 3) := by decide +kernel
theorem dX4_loud_76 : decode cX4_loud 76 = .ok (.aload_n 0, 1) := by decide +kernel
theorem dX4_loud_77 : decode cX4_loud 77 = .ok (.iload_n 1, 1) := by decide +kernel
theorem dX4_loud_78 : decode cX4_loud 78 = .ok (.iload_n 3, 1) := by decide +kernel
theorem dX4_loud_79 : decode cX4_loud 79 = .ok (.invokevirtual 314, 3) := by decide +kernel
theorem dX4_loud_82 : decode cX4_loud 82 = .ok (.ireturn, 1) := by decide +kernel
theorem dX4_done_0 : decode cX4_done 0 = .ok (.iload_n 1, 1) := by decide +kernel
theorem dX4_done_1 : decode cX4_done 1 = .ok (.invokestatic 58, 3) := by decide +kernel
theorem dX4_done_4 : decode cX4_done 4 = .ok (.ifCond .eq 21, 3) := by decide +kernel
theorem dX4_done_7 : decode cX4_done 7 = .ok (.iload_n 2, 1) := by decide +kernel
theorem dX4_done_8 : decode cX4_done 8 = .ok (.iconst 0, 1) := by decide +kernel
theorem dX4_done_9 : decode cX4_done 9 = .ok (.bipush 40, 2) := by decide +kernel
theorem dX4_done_11 : decode cX4_done 11 = .ok (.invokestatic 62, 3) := by decide +kernel
theorem dX4_done_14 : decode cX4_done 14 = .ok (.ifCond .eq 11, 3) := by decide +kernel
theorem dX4_done_17 : decode cX4_done 17 = .ok (.aload_n 0, 1) := by decide +kernel
theorem dX4_done_18 : decode cX4_done 18 = .ok (.iload_n 3, 1) := by decide +kernel
theorem dX4_done_19 : decode cX4_done 19 = .ok (.invokevirtual 102, 3) := by decide +kernel
theorem dX4_done_22 : decode cX4_done 22 = .ok (.ifCond .ne 10, 3) := by decide +kernel
theorem dX4_done_25 : decode cX4_done 25 = .ok (.aload_n 0, 1) := by decide +kernel
theorem dX4_done_26 : decode cX4_done 26 = .ok (.bipush (-2), 2) := by decide +kernel
theorem dX4_done_28 : decode cX4_done 28 = .ok (.invokevirtual 66, 3) := by decide +kernel
theorem dX4_done_31 : decode cX4_done 31 = .ok (.ireturn, 1) := by decide +kernel
theorem dX4_done_32 : decode cX4_done 32 = .ok (.aload_n 0, 1) := by decide +kernel
theorem dX4_done_33 : decode cX4_done 33 = .ok (.iload_n 1, 1) := by decide +kernel
theorem dX4_done_34 : decode cX4_done 34 = .ok (.iload_n 2, 1) := by decide +kernel
theorem dX4_done_35 : decode cX4_done 35 = .ok (.invokevirtual 308, 3) := by decide +kernel
theorem dX4_done_38 : decode cX4_done 38 = .ok (.istore 4, 2) := by decide +kernel
theorem dX4_done_40 : decode cX4_done 40 = .ok (.iload 4, 2) := by decide +kernel
theorem dX4_done_42 : decode cX4_done 42 = .ok (.ifCond .eq 10, 3) := by decide +kernel
theorem dX4_done_45 : decode cX4_done 45 = .ok (.aload_n 0, 1) := by decide +kernel
theorem dX4_done_46 : decode cX4_done 46 = .ok (.iload 4, 2) := by decide +kernel
theorem dX4_done_48 : decode cX4_done 48 = .ok (.invokevirtual 66, 3) := by decide +kernel
theorem dX4_done_51 : decode cX4_done 51 = .ok (.ireturn, 1) := by decide +kernel
theorem dX4_done_52 : decode cX4_done 52 = .ok (.aload_n 0, 1) := by decide +kernel
theorem dX4_done_53 : decode cX4_done 53 = .ok (.iload_n 1, 1) := by decide +kernel
theorem dX4_done_54 : decode cX4_done 54 = .ok (.iload_n 3, 1) := by decide +kernel
theorem dX4_done_55 : decode cX4_done 55 = .ok (.invokevirtual 311, 3) := by decide +kernel
theorem dX4_done_58 : decode cX4_done 58 = .ok (.istore 5, 2) := by decide +kernel
theorem dX4_done_60 : decode cX4_done 60 = .ok (.iconst 0, 1) := by decide +kernel
theorem dX4_done_61 : decode cX4_done 61 = .ok (.istore 6, 2) := by decide +kernel
theorem dX4_done_63 : decode cX4_done 63 = .ok (.iload 6, 2) := by decide +kernel
theorem dX4_done_65 : decode cX4_done 65 = .ok (.aload_n 0, 1) := by decide +kernel
theorem dX4_done_66 : decode cX4_done 66 = .ok (.getfield 10, 3) := by decide +kernel
theorem dX4_done_69 : decode cX4_done 69 = .ok (.getfield 123, 3) := by decide +kernel
theorem dX4_done_72 : decode cX4_done 72 = .ok (.if_icmp .ge 46, 3) := by decide +kernel
theorem dX4_done_75 : decode cX4_done 75 = .ok (.aload_n 0, 1) := by decide +kernel
theorem dX4_done_76 : decode cX4_done 76 = .ok (.getfield 25, 3) := by decide +kernel
theorem dX4_done_79 : decode cX4_done 79 = .ok (.iload_n 1, 1) := by decide +kernel
theorem dX4_done_80 : decode cX4_done 80 = .ok (.iload 6, 2) := by decide +kernel
theorem dX4_done_82 : decode cX4_done 82 = .ok (.invokevirtual 95, 3) := by decide +kernel
theorem dX4_done_85 : decode cX4_done 85 = .ok (.l2i, 1) := by decide +kernel
theorem dX4_done_86 : decode cX4_done 86 = .ok (.istore 7, 2) := by decide +kernel
theorem dX4_done_88 : decode cX4_done 88 = .ok (.aload_n 0, 1) := by decide +kernel
theorem dX4_done_89 : decode cX4_done 89 = .ok (.getfield 10, 3) := by decide +kernel
theorem dX4_done_92 : decode cX4_done 92 = .ok (.iload 7, 2) := by decide +kernel
theorem dX4_done_94 : decode cX4_done 94 = .ok (.iconst 0, 1) := by decide +kernel
theorem dX4_done_95 : decode cX4_done 95 = .ok (.aload_n 0, 1) := by decide +kernel
theorem dX4_done_96 : decode cX4_done 96 = .ok (.getfield 10, 3) := by decide +kernel
theorem dX4_done_99 : decode cX4_done 99 = .ok (.iload 7, 2) := by decide +kernel
theorem dX4_done_101 : decode cX4_done 101 = .ok (.invokevirtual 134, 3) := by decide +kernel
theorem dX4_done_104 : decode cX4_done 104 = .ok (.iconst 1, 1) := by decide +kernel
theorem dX4_done_105 : decode cX4_done 105 = .ok (.isub, 1) := by decide +kernel
theorem dX4_done_106 : decode cX4_done 106 = .ok (.invokestatic 317, 3) := by decide +kernel
theorem dX4_done_109 : decode cX4_done 109 = .ok (.invokevirtual 137, 3) := by decide +kernel
theorem dX4_done_112 : decode cX4_done 112 = .ok (.iinc 6 1, 3) := by decide +kernel
theorem dX4_done_115 : decode cX4_done 115 = .ok (.goto (-52), 3) := by decide +kernel
theorem dX4_done_118 : decode cX4_done 118 = .ok (.iload 5, 2) := by decide +kernel
theorem dX4_done_120 : decode cX4_done 120 = .ok (.ireturn, 1) := by decide +kernel
theorem dX4_rake_0 : decode cX4_rake 0 = .ok (.aload_n 0, 1) := by decide +kernel
theorem dX4_rake_1 : decode cX4_rake 1 = .ok (.getfield 10, 3) := by decide +kernel
theorem dX4_rake_4 : decode cX4_rake 4 = .ok (.invokevirtual 322, 3) := by decide +kernel
theorem dX4_rake_7 : decode cX4_rake 7 = .ok (.aload_n 0, 1) := by decide +kernel
theorem dX4_rake_8 : decode cX4_rake 8 = .ok (.getfield 10, 3) := by decide +kernel
theorem dX4_rake_11 : decode cX4_rake 11 = .ok (.invokevirtual 325, 3) := by decide +kernel
theorem dX4_rake_14 : decode cX4_rake 14 = .ok (.ireturn, 1) := by decide +kernel
theorem dX4_sweep_0 : decode cX4_sweep 0 = .ok (.aload_n 0, 1) := by decide +kernel
theorem dX4_sweep_1 : decode cX4_sweep 1 = .ok (.iload_n 1, 1) := by decide +kernel
theorem dX4_sweep_2 : decode cX4_sweep 2 = .ok (.invokevirtual 258, 3) := by decide +kernel
theorem dX4_sweep_5 : decode cX4_sweep 5 = .ok (.ifCond .ne 10, 3) := by decide +kernel
theorem dX4_sweep_8 : decode cX4_sweep 8 = .ok (.aload_n 0, 1) := by decide +kernel
theorem dX4_sweep_9 : decode cX4_sweep 9 = .ok (.bipush (-2), 2) := by decide +kernel
theorem dX4_sweep_11 : decode cX4_sweep 11 = .ok (.invokevirtual 66, 3) := by decide +kernel
theorem dX4_sweep_14 : decode cX4_sweep 14 = .ok (.ireturn, 1) := by decide +kernel
theorem dX4_sweep_15 : decode cX4_sweep 15 = .ok (.iconst 0, 1) := by decide +kernel
theorem dX4_sweep_16 : decode cX4_sweep 16 = .ok (.istore_n 2, 1) := by decide +kernel
theorem dX4_sweep_17 : decode cX4_sweep 17 = .ok (.iconst 0, 1) := by decide +kernel
theorem dX4_sweep_18 : decode cX4_sweep 18 = .ok (.istore_n 3, 1) := by decide +kernel
theorem dX4_sweep_19 : decode cX4_sweep 19 = .ok (.iload_n 3, 1) := by decide +kernel
theorem dX4_sweep_20 : decode cX4_sweep 20 = .ok (.aload_n 0, 1) := by decide +kernel
theorem dX4_sweep_21 : decode cX4_sweep 21 = .ok (.getfield 10, 3) := by decide +kernel
theorem dX4_sweep_24 : decode cX4_sweep 24 = .ok (.getfield 123, 3) := by decide +kernel
theorem dX4_sweep_27 : decode cX4_sweep 27 = .ok (.if_icmp .ge 42, 3) := by decide +kernel
theorem dX4_sweep_30 : decode cX4_sweep 30 = .ok (.aload_n 0, 1) := by decide +kernel
theorem dX4_sweep_31 : decode cX4_sweep 31 = .ok (.getfield 10, 3) := by decide +kernel
theorem dX4_sweep_34 : decode cX4_sweep 34 = .ok (.iload_n 3, 1) := by decide +kernel
theorem dX4_sweep_35 : decode cX4_sweep 35 = .ok (.iload_n 1, 1) := by decide +kernel
theorem dX4_sweep_36 : decode cX4_sweep 36 = .ok (.invokevirtual 244, 3) := by decide +kernel
theorem dX4_sweep_39 : decode cX4_sweep 39 = .ok (.istore 4, 2) := by decide +kernel
theorem dX4_sweep_41 : decode cX4_sweep 41 = .ok (.iload_n 2, 1) := by decide +kernel
theorem dX4_sweep_42 : decode cX4_sweep 42 = .ok (.aload_n 0, 1) := by decide +kernel
theorem dX4_sweep_43 : decode cX4_sweep 43 = .ok (.getfield 10, 3) := by decide +kernel
theorem dX4_sweep_46 : decode cX4_sweep 46 = .ok (.iload 4, 2) := by decide +kernel
theorem dX4_sweep_48 : decode cX4_sweep 48 = .ok (.invokevirtual 134, 3) := by decide +kernel
theorem dX4_sweep_51 : decode cX4_sweep 51 = .ok (.iadd, 1) := by decide +kernel
theorem dX4_sweep_52 : decode cX4_sweep 52 = .ok (.istore_n 2, 1) := by decide +kernel
theorem dX4_sweep_53 : decode cX4_sweep 53 = .ok (.aload_n 0, 1) := by decide +kernel
theorem dX4_sweep_54 : decode cX4_sweep 54 = .ok (.getfield 10, 3) := by decide +kernel
theorem dX4_sweep_57 : decode cX4_sweep 57 = .ok (.iload 4, 2) := by decide +kernel
theorem dX4_sweep_59 : decode cX4_sweep 59 = .ok (.iconst 0, 1) := by decide +kernel
theorem dX4_sweep_60 : decode cX4_sweep 60 = .ok (.invokevirtual 137, 3) := by decide +kernel
theorem dX4_sweep_63 : decode cX4_sweep 63 = .ok (.iinc 3 1, 3) := by decide +kernel
theorem dX4_sweep_66 : decode cX4_sweep 66 = .ok (.goto (-47), 3) := by decide +kernel
theorem dX4_sweep_69 : decode cX4_sweep 69 = .ok (.iload_n 2, 1) := by decide +kernel
theorem dX4_sweep_70 : decode cX4_sweep 70 = .ok (.ireturn, 1) := by decide +kernel
theorem dX4_arrivals_0 : decode cX4_arrivals 0 = .ok (.iload_n 1, 1) := by decide +kernel
theorem dX4_arrivals_1 : decode cX4_arrivals 1 = .ok (.iconst 1, 1) := by decide +kernel
theorem dX4_arrivals_2 : decode cX4_arrivals 2 = .ok (.bipush 60, 2) := by decide +kernel
theorem dX4_arrivals_4 : decode cX4_arrivals 4 = .ok (.invokestatic 62, 3) := by decide +kernel
theorem dX4_arrivals_7 : decode cX4_arrivals 7 = .ok (.ifCond .ne 10, 3) := by decide +kernel
theorem dX4_arrivals_10 : decode cX4_arrivals 10 = .ok (.aload_n 0, 1) := by decide +kernel
theorem dX4_arrivals_11 : decode cX4_arrivals 11 = .ok (.bipush (-2), 2) := by decide +kernel
theorem dX4_arrivals_13 : decode cX4_arrivals 13 = .ok (.invokevirtual 66, 3) := by decide +kernel
theorem dX4_arrivals_16 : decode cX4_arrivals 16 = .ok (.ireturn, 1) := by decide +kernel
theorem dX4_arrivals_17 : decode cX4_arrivals 17 = .ok (.aload_n 0, 1) := by decide +kernel
theorem dX4_arrivals_18 : decode cX4_arrivals 18 = .ok (.getfield 10, 3) := by decide +kernel
theorem dX4_arrivals_21 : decode cX4_arrivals 21 = .ok (.invokevirtual 249, 3) := by decide +kernel
theorem dX4_arrivals_24 : decode cX4_arrivals 24 = .ok (.ifCond .ne 10, 3) := by decide +kernel
theorem dX4_arrivals_27 : decode cX4_arrivals 27 = .ok (.aload_n 0, 1) := by decide +kernel
theorem dX4_arrivals_28 : decode cX4_arrivals 28 = .ok (.bipush (-5), 2) := by decide +kernel
theorem dX4_arrivals_30 : decode cX4_arrivals 30 = .ok (.invokevirtual 66, 3) := by decide +kernel
theorem dX4_arrivals_33 : decode cX4_arrivals 33 = .ok (.ireturn, 1) := by decide +kernel
theorem dX4_arrivals_34 : decode cX4_arrivals 34 = .ok (.iconst 0, 1) := by decide +kernel
theorem dX4_arrivals_35 : decode cX4_arrivals 35 = .ok (.istore_n 2, 1) := by decide +kernel
theorem dX4_arrivals_36 : decode cX4_arrivals 36 = .ok (.iconst 0, 1) := by decide +kernel
theorem dX4_arrivals_37 : decode cX4_arrivals 37 = .ok (.istore_n 3, 1) := by decide +kernel
theorem dX4_arrivals_38 : decode cX4_arrivals 38 = .ok (.iload_n 3, 1) := by decide +kernel
theorem dX4_arrivals_39 : decode cX4_arrivals 39 = .ok (.iload_n 1, 1) := by decide +kernel
theorem dX4_arrivals_40 : decode cX4_arrivals 40 = .ok (.if_icmp .ge 61, 3) := by decide +kernel
theorem dX4_arrivals_43 : decode cX4_arrivals 43 = .ok (.aload_n 0, 1) := by decide +kernel
theorem dX4_arrivals_44 : decode cX4_arrivals 44 = .ok (.getfield 10, 3) := by decide +kernel
theorem dX4_arrivals_47 : decode cX4_arrivals 47 = .ok (.invokevirtual 328, 3) := by decide +kernel
theorem dX4_arrivals_50 : decode cX4_arrivals 50 = .ok (.istore 4, 2) := by decide +kernel
theorem dX4_arrivals_52 : decode cX4_arrivals 52 = .ok (.aload_n 0, 1) := by decide +kernel
theorem dX4_arrivals_53 : decode cX4_arrivals 53 = .ok (.aload_n 0, 1) := by decide +kernel
theorem dX4_arrivals_54 : decode cX4_arrivals 54 = .ok (.getfield 10, 3) := by decide +kernel
theorem dX4_arrivals_57 : decode cX4_arrivals 57 = .ok (.aload_n 0, 1) := by decide +kernel
theorem dX4_arrivals_58 : decode cX4_arrivals 58 = .ok (.getfield 10, 3) := by decide +kernel
theorem dX4_arrivals_61 : decode cX4_arrivals 61 = .ok (.getfield 123, 3) := by decide +kernel
theorem dX4_arrivals_64 : decode cX4_arrivals 64 = .ok (.invokevirtual 331, 3) := by decide +kernel
theorem dX4_arrivals_67 : decode cX4_arrivals 67 = .ok (.aload_n 0, 1) := by decide +kernel
theorem dX4_arrivals_68 : decode cX4_arrivals 68 = .ok (.getfield 10, 3) := by decide +kernel
theorem dX4_arrivals_71 : decode cX4_arrivals 71 = .ok (.getfield 140, 3) := by decide +kernel
theorem dX4_arrivals_74 : decode cX4_arrivals 74 = .ok (.invokevirtual 261, 3) := by decide +kernel
theorem dX4_arrivals_77 : decode cX4_arrivals 77 = .ok (.iload 4, 2) := by decide +kernel
theorem dX4_arrivals_79 : decode cX4_arrivals 79 = .ok (.aload_n 0, 1) := by decide +kernel
theorem dX4_arrivals_80 : decode cX4_arrivals 80 = .ok (.aload_n 0, 1) := by decide +kernel
theorem dX4_arrivals_81 : decode cX4_arrivals 81 = .ok (.iload 4, 2) := by decide +kernel
theorem dX4_arrivals_83 : decode cX4_arrivals 83 = .ok (.invokevirtual 334, 3) := by decide +kernel
theorem dX4_arrivals_86 : decode cX4_arrivals 86 = .ok (.invokevirtual 276, 3) := by decide +kernel
theorem dX4_arrivals_89 : decode cX4_arrivals 89 = .ok (.if_icmp .ne 6, 3) := by decide +kernel
theorem dX4_arrivals_92 : decode cX4_arrivals 92 = .ok (.iinc 2 1, 3) := by decide +kernel
theorem dX4_arrivals_95 : decode cX4_arrivals 95 = .ok (.iinc 3 1, 3) := by decide +kernel
theorem dX4_arrivals_98 : decode cX4_arrivals 98 = .ok (.goto (-60), 3) := by decide +kernel
theorem dX4_arrivals_101 : decode cX4_arrivals 101 = .ok (.iload_n 2, 1) := by decide +kernel
theorem dX4_arrivals_102 : decode cX4_arrivals 102 = .ok (.ireturn, 1) := by decide +kernel
theorem dX4_seed_0 : decode cX4_seed 0 = .ok (.aload_n 0, 1) := by decide +kernel
theorem dX4_seed_1 : decode cX4_seed 1 = .ok (.getfield 10, 3) := by decide +kernel
theorem dX4_seed_4 : decode cX4_seed 4 = .ok (.getfield 337, 3) := by decide +kernel
theorem dX4_seed_7 : decode cX4_seed 7 = .ok (.istore_n 2, 1) := by decide +kernel
theorem dX4_seed_8 : decode cX4_seed 8 = .ok (.aload_n 0, 1) := by decide +kernel
theorem dX4_seed_9 : decode cX4_seed 9 = .ok (.getfield 10, 3) := by decide +kernel
theorem dX4_seed_12 : decode cX4_seed 12 = .ok (.iload_n 1, 1) := by decide +kernel
theorem dX4_seed_13 : decode cX4_seed 13 = .ok (.putfield 337, 3) := by decide +kernel
theorem dX4_seed_16 : decode cX4_seed 16 = .ok (.iload_n 2, 1) := by decide +kernel
theorem dX4_seed_17 : decode cX4_seed 17 = .ok (.ireturn, 1) := by decide +kernel
theorem dX4_image_0 : decode cX4_image 0 = .ok (.aload_n 0, 1) := by decide +kernel
theorem dX4_image_1 : decode cX4_image 1 = .ok (.getfield 16, 3) := by decide +kernel
theorem dX4_image_4 : decode cX4_image 4 = .ok (.aload_n 0, 1) := by decide +kernel
theorem dX4_image_5 : decode cX4_image 5 = .ok (.getfield 10, 3) := by decide +kernel
theorem dX4_image_8 : decode cX4_image 8 = .ok (.invokevirtual 161, 3) := by decide +kernel
theorem dX4_image_11 : decode cX4_image 11 = .ok (.aload_n 0, 1) := by decide +kernel
theorem dX4_image_12 : decode cX4_image 12 = .ok (.iconst 1, 1) := by decide +kernel
theorem dX4_image_13 : decode cX4_image 13 = .ok (.putfield 54, 3) := by decide +kernel
theorem dX4_image_16 : decode cX4_image 16 = .ok (.iconst 1, 1) := by decide +kernel
theorem dX4_image_17 : decode cX4_image 17 = .ok (.ireturn, 1) := by decide +kernel
theorem dX4_back_0 : decode cX4_back 0 = .ok (.aload_n 0, 1) := by decide +kernel
theorem dX4_back_1 : decode cX4_back 1 = .ok (.getfield 54, 3) := by decide +kernel
theorem dX4_back_4 : decode cX4_back 4 = .ok (.ifCond .ne 10, 3) := by decide +kernel
theorem dX4_back_7 : decode cX4_back 7 = .ok (.aload_n 0, 1) := by decide +kernel
theorem dX4_back_8 : decode cX4_back 8 = .ok (.bipush (-5), 2) := by decide +kernel
theorem dX4_back_10 : decode cX4_back 10 = .ok (.invokevirtual 66, 3) := by decide +kernel
theorem dX4_back_13 : decode cX4_back 13 = .ok (.ireturn, 1) := by decide +kernel
theorem dX4_back_14 : decode cX4_back 14 = .ok (.aload_n 0, 1) := by decide +kernel
theorem dX4_back_15 : decode cX4_back 15 = .ok (.getfield 10, 3) := by decide +kernel
theorem dX4_back_18 : decode cX4_back 18 = .ok (.aload_n 0, 1) := by decide +kernel
theorem dX4_back_19 : decode cX4_back 19 = .ok (.getfield 16, 3) := by decide +kernel
theorem dX4_back_22 : decode cX4_back 22 = .ok (.invokevirtual 161, 3) := by decide +kernel
theorem dX4_back_25 : decode cX4_back 25 = .ok (.aload_n 0, 1) := by decide +kernel
theorem dX4_back_26 : decode cX4_back 26 = .ok (.getfield 25, 3) := by decide +kernel
theorem dX4_back_29 : decode cX4_back 29 = .ok (.aload_n 0, 1) := by decide +kernel
theorem dX4_back_30 : decode cX4_back 30 = .ok (.getfield 10, 3) := by decide +kernel
theorem dX4_back_33 : decode cX4_back 33 = .ok (.invokevirtual 249, 3) := by decide +kernel
theorem dX4_back_36 : decode cX4_back 36 = .ok (.invokevirtual 340, 3) := by decide +kernel
theorem dX4_back_39 : decode cX4_back 39 = .ok (.iconst 1, 1) := by decide +kernel
theorem dX4_back_40 : decode cX4_back 40 = .ok (.ireturn, 1) := by decide +kernel
theorem dX4_status_0 : decode cX4_status 0 = .ok (.iload_n 1, 1) := by decide +kernel
theorem dX4_status_1 : decode cX4_status 1 = .ok (.tableswitch 123 0 8 #[51, 59, 67, 75, 83, 91, 99, 107, 115], 51) := by decide +kernel
theorem dX4_status_52 : decode cX4_status 52 = .ok (.aload_n 0, 1) := by decide +kernel
theorem dX4_status_53 : decode cX4_status 53 = .ok (.getfield 10, 3) := by decide +kernel
theorem dX4_status_56 : decode cX4_status 56 = .ok (.invokevirtual 249, 3) := by decide +kernel
theorem dX4_status_59 : decode cX4_status 59 = .ok (.ireturn, 1) := by decide +kernel
theorem dX4_status_60 : decode cX4_status 60 = .ok (.aload_n 0, 1) := by decide +kernel
theorem dX4_status_61 : decode cX4_status 61 = .ok (.getfield 10, 3) := by decide +kernel
theorem dX4_status_64 : decode cX4_status 64 = .ok (.getfield 123, 3) := by decide +kernel
theorem dX4_status_67 : decode cX4_status 67 = .ok (.ireturn, 1) := by decide +kernel
theorem dX4_status_68 : decode cX4_status 68 = .ok (.aload_n 0, 1) := by decide +kernel
theorem dX4_status_69 : decode cX4_status 69 = .ok (.getfield 10, 3) := by decide +kernel
theorem dX4_status_72 : decode cX4_status 72 = .ok (.getfield 140, 3) := by decide +kernel
theorem dX4_status_75 : decode cX4_status 75 = .ok (.ireturn, 1) := by decide +kernel
theorem dX4_status_76 : decode cX4_status 76 = .ok (.aload_n 0, 1) := by decide +kernel
theorem dX4_status_77 : decode cX4_status 77 = .ok (.getfield 10, 3) := by decide +kernel
theorem dX4_status_80 : decode cX4_status 80 = .ok (.getfield 143, 3) := by decide +kernel
theorem dX4_status_83 : decode cX4_status 83 = .ok (.ireturn, 1) := by decide +kernel
theorem dX4_status_84 : decode cX4_status 84 = .ok (.aload_n 0, 1) := by decide +kernel
theorem dX4_status_85 : decode cX4_status 85 = .ok (.getfield 10, 3) := by decide +kernel
theorem dX4_status_88 : decode cX4_status 88 = .ok (.invokevirtual 325, 3) := by decide +kernel
theorem dX4_status_91 : decode cX4_status 91 = .ok (.ireturn, 1) := by decide +kernel
theorem dX4_status_92 : decode cX4_status 92 = .ok (.aload_n 0, 1) := by decide +kernel
theorem dX4_status_93 : decode cX4_status 93 = .ok (.getfield 10, 3) := by decide +kernel
theorem dX4_status_96 : decode cX4_status 96 = .ok (.invokevirtual 264, 3) := by decide +kernel
theorem dX4_status_99 : decode cX4_status 99 = .ok (.ireturn, 1) := by decide +kernel
theorem dX4_status_100 : decode cX4_status 100 = .ok (.aload_n 0, 1) := by decide +kernel
theorem dX4_status_101 : decode cX4_status 101 = .ok (.getfield 32, 3) := by decide +kernel
theorem dX4_status_104 : decode cX4_status 104 = .ok (.getfield 343, 3) := by decide +kernel
theorem dX4_status_107 : decode cX4_status 107 = .ok (.ireturn, 1) := by decide +kernel
theorem dX4_status_108 : decode cX4_status 108 = .ok (.aload_n 0, 1) := by decide +kernel
theorem dX4_status_109 : decode cX4_status 109 = .ok (.getfield 10, 3) := by decide +kernel
theorem dX4_status_112 : decode cX4_status 112 = .ok (.getfield 337, 3) := by decide +kernel
theorem dX4_status_115 : decode cX4_status 115 = .ok (.ireturn, 1) := by decide +kernel
theorem dX4_status_116 : decode cX4_status 116 = .ok (.aload_n 0, 1) := by decide +kernel
theorem dX4_status_117 : decode cX4_status 117 = .ok (.getfield 25, 3) := by decide +kernel
theorem dX4_status_120 : decode cX4_status 120 = .ok (.invokevirtual 346, 3) := by decide +kernel
theorem dX4_status_123 : decode cX4_status 123 = .ok (.ireturn, 1) := by decide +kernel
theorem dX4_status_124 : decode cX4_status 124 = .ok (.iload_n 1, 1) := by decide +kernel
theorem dX4_status_125 : decode cX4_status 125 = .ok (.bipush 12, 2) := by decide +kernel
theorem dX4_status_127 : decode cX4_status 127 = .ok (.bipush 16, 2) := by decide +kernel
theorem dX4_status_129 : decode cX4_status 129 = .ok (.invokestatic 62, 3) := by decide +kernel
theorem dX4_status_132 : decode cX4_status 132 = .ok (.ifCond .eq 15, 3) := by decide +kernel
theorem dX4_status_135 : decode cX4_status 135 = .ok (.aload_n 0, 1) := by decide +kernel
theorem dX4_status_136 : decode cX4_status 136 = .ok (.getfield 51, 3) := by decide +kernel
theorem dX4_status_139 : decode cX4_status 139 = .ok (.iload_n 1, 1) := by decide +kernel
theorem dX4_status_140 : decode cX4_status 140 = .ok (.bipush 12, 2) := by decide +kernel
theorem dX4_status_142 : decode cX4_status 142 = .ok (.isub, 1) := by decide +kernel
theorem dX4_status_143 : decode cX4_status 143 = .ok (.iaload, 1) := by decide +kernel
theorem dX4_status_144 : decode cX4_status 144 = .ok (.goto 4, 3) := by decide +kernel

theorem dX1_init_0 : decode cX1_init 0 = .ok (.aload_n 0, 1) := by decide +kernel
theorem dX1_init_1 : decode cX1_init 1 = .ok (.invokespecial 3, 3) := by decide +kernel
theorem dX1_init_4 : decode cX1_init 4 = .ok (.aload_n 0, 1) := by decide +kernel
theorem dX1_init_5 : decode cX1_init 5 = .ok (.bipush 36, 2) := by decide +kernel
theorem dX1_init_7 : decode cX1_init 7 = .ok (.newarray .int, 2) := by decide +kernel
theorem dX1_init_9 : decode cX1_init 9 = .ok (.putfield 9, 3) := by decide +kernel
theorem dX1_init_12 : decode cX1_init 12 = .ok (.aload_n 0, 1) := by decide +kernel
theorem dX1_init_13 : decode cX1_init 13 = .ok (.bipush 36, 2) := by decide +kernel
theorem dX1_init_15 : decode cX1_init 15 = .ok (.newarray .int, 2) := by decide +kernel
theorem dX1_init_17 : decode cX1_init 17 = .ok (.putfield 15, 3) := by decide +kernel
theorem dX1_init_20 : decode cX1_init 20 = .ok (.aload_n 0, 1) := by decide +kernel
theorem dX1_init_21 : decode cX1_init 21 = .ok (.bipush 36, 2) := by decide +kernel
theorem dX1_init_23 : decode cX1_init 23 = .ok (.newarray .int, 2) := by decide +kernel
theorem dX1_init_25 : decode cX1_init 25 = .ok (.putfield 18, 3) := by decide +kernel
theorem dX1_init_28 : decode cX1_init 28 = .ok (.aload_n 0, 1) := by decide +kernel
theorem dX1_init_29 : decode cX1_init 29 = .ok (.bipush 6, 2) := by decide +kernel
theorem dX1_init_31 : decode cX1_init 31 = .ok (.newarray .int, 2) := by decide +kernel
theorem dX1_init_33 : decode cX1_init 33 = .ok (.putfield 21, 3) := by decide +kernel
theorem dX1_init_36 : decode cX1_init 36 = .ok (.aload_n 0, 1) := by decide +kernel
theorem dX1_init_37 : decode cX1_init 37 = .ok (.bipush 6, 2) := by decide +kernel
theorem dX1_init_39 : decode cX1_init 39 = .ok (.newarray .int, 2) := by decide +kernel
theorem dX1_init_41 : decode cX1_init 41 = .ok (.putfield 24, 3) := by decide +kernel
theorem dX1_init_44 : decode cX1_init 44 = .ok (.aload_n 0, 1) := by decide +kernel
theorem dX1_init_45 : decode cX1_init 45 = .ok (.bipush 36, 2) := by decide +kernel
theorem dX1_init_47 : decode cX1_init 47 = .ok (.newarray .boolean, 2) := by decide +kernel
theorem dX1_init_49 : decode cX1_init 49 = .ok (.putfield 27, 3) := by decide +kernel
theorem dX1_init_52 : decode cX1_init 52 = .ok (.aload_n 0, 1) := by decide +kernel
theorem dX1_init_53 : decode cX1_init 53 = .ok (.iconst 2, 1) := by decide +kernel
theorem dX1_init_54 : decode cX1_init 54 = .ok (.newarray .int, 2) := by decide +kernel
theorem dX1_init_56 : decode cX1_init 56 = .ok (.putfield 31, 3) := by decide +kernel
theorem dX1_init_59 : decode cX1_init 59 = .ok (.return_, 1) := by decide +kernel
theorem dX1_length_0 : decode cX1_length 0 = .ok (.aload_n 0, 1) := by decide +kernel
theorem dX1_length_1 : decode cX1_length 1 = .ok (.getfield 34, 3) := by decide +kernel
theorem dX1_length_4 : decode cX1_length 4 = .ok (.bipush 6, 2) := by decide +kernel
theorem dX1_length_6 : decode cX1_length 6 = .ok (.invokestatic 38, 3) := by decide +kernel
theorem dX1_length_9 : decode cX1_length 9 = .ok (.ireturn, 1) := by decide +kernel
theorem dX1_cellIn_0 : decode cX1_cellIn 0 = .ok (.iload_n 1, 1) := by decide +kernel
theorem dX1_cellIn_1 : decode cX1_cellIn 1 = .ok (.aload_n 0, 1) := by decide +kernel
theorem dX1_cellIn_2 : decode cX1_cellIn 2 = .ok (.invokevirtual 44, 3) := by decide +kernel
theorem dX1_cellIn_5 : decode cX1_cellIn 5 = .ok (.imul, 1) := by decide +kernel
theorem dX1_cellIn_6 : decode cX1_cellIn 6 = .ok (.iload_n 2, 1) := by decide +kernel
theorem dX1_cellIn_7 : decode cX1_cellIn 7 = .ok (.iadd, 1) := by decide +kernel
theorem dX1_cellIn_8 : decode cX1_cellIn 8 = .ok (.istore_n 3, 1) := by decide +kernel
theorem dX1_cellIn_9 : decode cX1_cellIn 9 = .ok (.iload_n 3, 1) := by decide +kernel
theorem dX1_cellIn_10 : decode cX1_cellIn 10 = .ok (.iconst 0, 1) := by decide +kernel
theorem dX1_cellIn_11 : decode cX1_cellIn 11 = .ok (.bipush 35, 2) := by decide +kernel
theorem dX1_cellIn_13 : decode cX1_cellIn 13 = .ok (.invokestatic 48, 3) := by decide +kernel
theorem dX1_cellIn_16 : decode cX1_cellIn 16 = .ok (.ifCond .eq 7, 3) := by decide +kernel
theorem dX1_cellIn_19 : decode cX1_cellIn 19 = .ok (.iload_n 3, 1) := by decide +kernel
theorem dX1_cellIn_20 : decode cX1_cellIn 20 = .ok (.goto 4, 3) := by decide +kernel
theorem dX1_cellIn_23 : decode cX1_cellIn 23 = .ok (.iconst 0, 1) := by decide +kernel
theorem dX1_cellIn_24 : decode cX1_cellIn 24 = .ok (.ireturn, 1) := by decide +kernel
theorem dX1_stepOn_0 : decode cX1_stepOn 0 = .ok (.iload_n 1, 1) := by decide +kernel
theorem dX1_stepOn_1 : decode cX1_stepOn 1 = .ok (.iconst 0, 1) := by decide +kernel
theorem dX1_stepOn_2 : decode cX1_stepOn 2 = .ok (.bipush 35, 2) := by decide +kernel
theorem dX1_stepOn_4 : decode cX1_stepOn 4 = .ok (.invokestatic 48, 3) := by decide +kernel
theorem dX1_stepOn_7 : decode cX1_stepOn 7 = .ok (.ifCond .eq 12, 3) := by decide +kernel
theorem dX1_stepOn_10 : decode cX1_stepOn 10 = .ok (.aload_n 0, 1) := by decide +kernel
theorem dX1_stepOn_11 : decode cX1_stepOn 11 = .ok (.getfield 9, 3) := by decide +kernel
theorem dX1_stepOn_14 : decode cX1_stepOn 14 = .ok (.iload_n 1, 1) := by decide +kernel
theorem dX1_stepOn_15 : decode cX1_stepOn 15 = .ok (.iaload, 1) := by decide +kernel
theorem dX1_stepOn_16 : decode cX1_stepOn 16 = .ok (.goto 4, 3) := by decide +kernel
theorem dX1_stepOn_19 : decode cX1_stepOn 19 = .ok (.iconst 0, 1) := by decide +kernel
theorem dX1_stepOn_20 : decode cX1_stepOn 20 = .ok (.ireturn, 1) := by decide +kernel
theorem dX1_putStep_0 : decode cX1_putStep 0 = .ok (.iload_n 1, 1) := by decide +kernel
theorem dX1_putStep_1 : decode cX1_putStep 1 = .ok (.iconst 0, 1) := by decide +kernel
theorem dX1_putStep_2 : decode cX1_putStep 2 = .ok (.bipush 35, 2) := by decide +kernel
theorem dX1_putStep_4 : decode cX1_putStep 4 = .ok (.invokestatic 48, 3) := by decide +kernel
theorem dX1_putStep_7 : decode cX1_putStep 7 = .ok (.ifCond .eq 10, 3) := by decide +kernel
theorem dX1_putStep_10 : decode cX1_putStep 10 = .ok (.aload_n 0, 1) := by decide +kernel
theorem dX1_putStep_11 : decode cX1_putStep 11 = .ok (.getfield 9, 3) := by decide +kernel
theorem dX1_putStep_14 : decode cX1_putStep 14 = .ok (.iload_n 1, 1) := by decide +kernel
theorem dX1_putStep_15 : decode cX1_putStep 15 = .ok (.iload_n 2, 1) := by decide +kernel
theorem dX1_putStep_16 : decode cX1_putStep 16 = .ok (.iastore, 1) := by decide +kernel
theorem dX1_putStep_17 : decode cX1_putStep 17 = .ok (.return_, 1) := by decide +kernel
theorem dX1_cellOnWay_0 : decode cX1_cellOnWay 0 = .ok (.iload_n 1, 1) := by decide +kernel
theorem dX1_cellOnWay_1 : decode cX1_cellOnWay 1 = .ok (.iconst 0, 1) := by decide +kernel
theorem dX1_cellOnWay_2 : decode cX1_cellOnWay 2 = .ok (.iconst 5, 1) := by decide +kernel
theorem dX1_cellOnWay_3 : decode cX1_cellOnWay 3 = .ok (.invokestatic 48, 3) := by decide +kernel
theorem dX1_cellOnWay_6 : decode cX1_cellOnWay 6 = .ok (.ifCond .eq 12, 3) := by decide +kernel
theorem dX1_cellOnWay_9 : decode cX1_cellOnWay 9 = .ok (.aload_n 0, 1) := by decide +kernel
theorem dX1_cellOnWay_10 : decode cX1_cellOnWay 10 = .ok (.getfield 21, 3) := by decide +kernel
theorem dX1_cellOnWay_13 : decode cX1_cellOnWay 13 = .ok (.iload_n 1, 1) := by decide +kernel
theorem dX1_cellOnWay_14 : decode cX1_cellOnWay 14 = .ok (.iaload, 1) := by decide +kernel
theorem dX1_cellOnWay_15 : decode cX1_cellOnWay 15 = .ok (.goto 4, 3) := by decide +kernel
theorem dX1_cellOnWay_18 : decode cX1_cellOnWay 18 = .ok (.iconst (-1), 1) := by decide +kernel
theorem dX1_cellOnWay_19 : decode cX1_cellOnWay 19 = .ok (.ireturn, 1) := by decide +kernel
theorem dX1_turnedCell_0 : decode cX1_turnedCell 0 = .ok (.iload_n 1, 1) := by decide +kernel
theorem dX1_turnedCell_1 : decode cX1_turnedCell 1 = .ok (.iconst 0, 1) := by decide +kernel
theorem dX1_turnedCell_2 : decode cX1_turnedCell 2 = .ok (.iconst 1, 1) := by decide +kernel
theorem dX1_turnedCell_3 : decode cX1_turnedCell 3 = .ok (.invokestatic 48, 3) := by decide +kernel
theorem dX1_turnedCell_6 : decode cX1_turnedCell 6 = .ok (.ifCond .eq 12, 3) := by decide +kernel
theorem dX1_turnedCell_9 : decode cX1_turnedCell 9 = .ok (.aload_n 0, 1) := by decide +kernel
theorem dX1_turnedCell_10 : decode cX1_turnedCell 10 = .ok (.getfield 31, 3) := by decide +kernel
theorem dX1_turnedCell_13 : decode cX1_turnedCell 13 = .ok (.iload_n 1, 1) := by decide +kernel
theorem dX1_turnedCell_14 : decode cX1_turnedCell 14 = .ok (.iaload, 1) := by decide +kernel
theorem dX1_turnedCell_15 : decode cX1_turnedCell 15 = .ok (.goto 4, 3) := by decide +kernel
theorem dX1_turnedCell_18 : decode cX1_turnedCell 18 = .ok (.iconst (-1), 1) := by decide +kernel
theorem dX1_turnedCell_19 : decode cX1_turnedCell 19 = .ok (.ireturn, 1) := by decide +kernel
theorem dX1_leastBehind_0 : decode cX1_leastBehind 0 = .ok (.iload_n 1, 1) := by decide +kernel
theorem dX1_leastBehind_1 : decode cX1_leastBehind 1 = .ok (.iconst 1, 1) := by decide +kernel
theorem dX1_leastBehind_2 : decode cX1_leastBehind 2 = .ok (.iadd, 1) := by decide +kernel
theorem dX1_leastBehind_3 : decode cX1_leastBehind 3 = .ok (.aload_n 0, 1) := by decide +kernel
theorem dX1_leastBehind_4 : decode cX1_leastBehind 4 = .ok (.invokevirtual 44, 3) := by decide +kernel
theorem dX1_leastBehind_7 : decode cX1_leastBehind 7 = .ok (.if_icmp .lt 5, 3) := by decide +kernel
theorem dX1_leastBehind_10 : decode cX1_leastBehind 10 = .ok (.iconst 0, 1) := by decide +kernel
theorem dX1_leastBehind_11 : decode cX1_leastBehind 11 = .ok (.ireturn, 1) := by decide +kernel
theorem dX1_leastBehind_12 : decode cX1_leastBehind 12 = .ok (.ldc 52, 2) := by decide +kernel
theorem dX1_leastBehind_14 : decode cX1_leastBehind 14 = .ok (.istore_n 3, 1) := by decide +kernel
theorem dX1_leastBehind_15 : decode cX1_leastBehind 15 = .ok (.iconst 0, 1) := by decide +kernel
theorem dX1_leastBehind_16 : decode cX1_leastBehind 16 = .ok (.iload_n 2, 1) := by decide +kernel
theorem dX1_leastBehind_17 : decode cX1_leastBehind 17 = .ok (.iconst 1, 1) := by decide +kernel
theorem dX1_leastBehind_18 : decode cX1_leastBehind 18 = .ok (.isub, 1) := by decide +kernel
theorem dX1_leastBehind_19 : decode cX1_leastBehind 19 = .ok (.invokestatic 53, 3) := by decide +kernel
theorem dX1_leastBehind_22 : decode cX1_leastBehind 22 = .ok (.istore 4, 2) := by decide +kernel
theorem dX1_leastBehind_24 : decode cX1_leastBehind 24 = .ok (.iload 4, 2) := by decide +kernel
theorem dX1_leastBehind_26 : decode cX1_leastBehind 26 = .ok (.aload_n 0, 1) := by decide +kernel
theorem dX1_leastBehind_27 : decode cX1_leastBehind 27 = .ok (.invokevirtual 44, 3) := by decide +kernel
theorem dX1_leastBehind_30 : decode cX1_leastBehind 30 = .ok (.iconst 1, 1) := by decide +kernel
theorem dX1_leastBehind_31 : decode cX1_leastBehind 31 = .ok (.isub, 1) := by decide +kernel
theorem dX1_leastBehind_32 : decode cX1_leastBehind 32 = .ok (.iload_n 2, 1) := by decide +kernel
theorem dX1_leastBehind_33 : decode cX1_leastBehind 33 = .ok (.iconst 1, 1) := by decide +kernel
theorem dX1_leastBehind_34 : decode cX1_leastBehind 34 = .ok (.iadd, 1) := by decide +kernel
theorem dX1_leastBehind_35 : decode cX1_leastBehind 35 = .ok (.invokestatic 38, 3) := by decide +kernel
theorem dX1_leastBehind_38 : decode cX1_leastBehind 38 = .ok (.if_icmp .gt 28, 3) := by decide +kernel
theorem dX1_leastBehind_41 : decode cX1_leastBehind 41 = .ok (.iload_n 3, 1) := by decide +kernel
theorem dX1_leastBehind_42 : decode cX1_leastBehind 42 = .ok (.aload_n 0, 1) := by decide +kernel
theorem dX1_leastBehind_43 : decode cX1_leastBehind 43 = .ok (.getfield 15, 3) := by decide +kernel
theorem dX1_leastBehind_46 : decode cX1_leastBehind 46 = .ok (.aload_n 0, 1) := by decide +kernel
theorem dX1_leastBehind_47 : decode cX1_leastBehind 47 = .ok (.iload_n 1, 1) := by decide +kernel
theorem dX1_leastBehind_48 : decode cX1_leastBehind 48 = .ok (.iconst 1, 1) := by decide +kernel
theorem dX1_leastBehind_49 : decode cX1_leastBehind 49 = .ok (.iadd, 1) := by decide +kernel
theorem dX1_leastBehind_50 : decode cX1_leastBehind 50 = .ok (.iload 4, 2) := by decide +kernel
theorem dX1_leastBehind_52 : decode cX1_leastBehind 52 = .ok (.invokevirtual 56, 3) := by decide +kernel
theorem dX1_leastBehind_55 : decode cX1_leastBehind 55 = .ok (.iaload, 1) := by decide +kernel
theorem dX1_leastBehind_56 : decode cX1_leastBehind 56 = .ok (.invokestatic 38, 3) := by decide +kernel
theorem dX1_leastBehind_59 : decode cX1_leastBehind 59 = .ok (.istore_n 3, 1) := by decide +kernel
theorem dX1_leastBehind_60 : decode cX1_leastBehind 60 = .ok (.iinc 4 1, 3) := by decide +kernel
theorem dX1_leastBehind_63 : decode cX1_leastBehind 63 = .ok (.goto (-39), 3) := by decide +kernel
theorem dX1_leastBehind_66 : decode cX1_leastBehind 66 = .ok (.iload_n 3, 1) := by decide +kernel
theorem dX1_leastBehind_67 : decode cX1_leastBehind 67 = .ok (.ireturn, 1) := by decide +kernel
theorem dX1_sumBehind_0 : decode cX1_sumBehind 0 = .ok (.iconst 0, 1) := by decide +kernel
theorem dX1_sumBehind_1 : decode cX1_sumBehind 1 = .ok (.istore 4, 2) := by decide +kernel
theorem dX1_sumBehind_3 : decode cX1_sumBehind 3 = .ok (.iconst 0, 1) := by decide +kernel
theorem dX1_sumBehind_4 : decode cX1_sumBehind 4 = .ok (.iload_n 3, 1) := by decide +kernel
theorem dX1_sumBehind_5 : decode cX1_sumBehind 5 = .ok (.iconst 1, 1) := by decide +kernel
theorem dX1_sumBehind_6 : decode cX1_sumBehind 6 = .ok (.isub, 1) := by decide +kernel
theorem dX1_sumBehind_7 : decode cX1_sumBehind 7 = .ok (.invokestatic 53, 3) := by decide +kernel
theorem dX1_sumBehind_10 : decode cX1_sumBehind 10 = .ok (.istore 5, 2) := by decide +kernel
theorem dX1_sumBehind_12 : decode cX1_sumBehind 12 = .ok (.iload 5, 2) := by decide +kernel
theorem dX1_sumBehind_14 : decode cX1_sumBehind 14 = .ok (.aload_n 0, 1) := by decide +kernel
theorem dX1_sumBehind_15 : decode cX1_sumBehind 15 = .ok (.invokevirtual 44, 3) := by decide +kernel
theorem dX1_sumBehind_18 : decode cX1_sumBehind 18 = .ok (.iconst 1, 1) := by decide +kernel
theorem dX1_sumBehind_19 : decode cX1_sumBehind 19 = .ok (.isub, 1) := by decide +kernel
theorem dX1_sumBehind_20 : decode cX1_sumBehind 20 = .ok (.iload_n 3, 1) := by decide +kernel
theorem dX1_sumBehind_21 : decode cX1_sumBehind 21 = .ok (.iconst 1, 1) := by decide +kernel
theorem dX1_sumBehind_22 : decode cX1_sumBehind 22 = .ok (.iadd, 1) := by decide +kernel
theorem dX1_sumBehind_23 : decode cX1_sumBehind 23 = .ok (.invokestatic 38, 3) := by decide +kernel
theorem dX1_sumBehind_26 : decode cX1_sumBehind 26 = .ok (.if_icmp .gt 25, 3) := by decide +kernel
theorem dX1_sumBehind_29 : decode cX1_sumBehind 29 = .ok (.iload 4, 2) := by decide +kernel
theorem dX1_sumBehind_31 : decode cX1_sumBehind 31 = .ok (.aload_n 1, 1) := by decide +kernel
theorem dX1_sumBehind_32 : decode cX1_sumBehind 32 = .ok (.aload_n 0, 1) := by decide +kernel
theorem dX1_sumBehind_33 : decode cX1_sumBehind 33 = .ok (.iload_n 2, 1) := by decide +kernel
theorem dX1_sumBehind_34 : decode cX1_sumBehind 34 = .ok (.iconst 1, 1) := by decide +kernel
theorem dX1_sumBehind_35 : decode cX1_sumBehind 35 = .ok (.iadd, 1) := by decide +kernel
theorem dX1_sumBehind_36 : decode cX1_sumBehind 36 = .ok (.iload 5, 2) := by decide +kernel
theorem dX1_sumBehind_38 : decode cX1_sumBehind 38 = .ok (.invokevirtual 56, 3) := by decide +kernel
theorem dX1_sumBehind_41 : decode cX1_sumBehind 41 = .ok (.iaload, 1) := by decide +kernel
theorem dX1_sumBehind_42 : decode cX1_sumBehind 42 = .ok (.iadd, 1) := by decide +kernel
theorem dX1_sumBehind_43 : decode cX1_sumBehind 43 = .ok (.istore 4, 2) := by decide +kernel
theorem dX1_sumBehind_45 : decode cX1_sumBehind 45 = .ok (.iinc 5 1, 3) := by decide +kernel
theorem dX1_sumBehind_48 : decode cX1_sumBehind 48 = .ok (.goto (-36), 3) := by decide +kernel
theorem dX1_sumBehind_51 : decode cX1_sumBehind 51 = .ok (.iload 4, 2) := by decide +kernel
theorem dX1_sumBehind_53 : decode cX1_sumBehind 53 = .ok (.ireturn, 1) := by decide +kernel
theorem dX1_leastAtGate_0 : decode cX1_leastAtGate 0 = .ok (.aload_n 0, 1) := by decide +kernel
theorem dX1_leastAtGate_1 : decode cX1_leastAtGate 1 = .ok (.getfield 15, 3) := by decide +kernel
theorem dX1_leastAtGate_4 : decode cX1_leastAtGate 4 = .ok (.iconst 0, 1) := by decide +kernel
theorem dX1_leastAtGate_5 : decode cX1_leastAtGate 5 = .ok (.iaload, 1) := by decide +kernel
theorem dX1_leastAtGate_6 : decode cX1_leastAtGate 6 = .ok (.istore_n 1, 1) := by decide +kernel
theorem dX1_leastAtGate_7 : decode cX1_leastAtGate 7 = .ok (.iconst 1, 1) := by decide +kernel
theorem dX1_leastAtGate_8 : decode cX1_leastAtGate 8 = .ok (.istore_n 2, 1) := by decide +kernel
theorem dX1_leastAtGate_9 : decode cX1_leastAtGate 9 = .ok (.iload_n 2, 1) := by decide +kernel
theorem dX1_leastAtGate_10 : decode cX1_leastAtGate 10 = .ok (.aload_n 0, 1) := by decide +kernel
theorem dX1_leastAtGate_11 : decode cX1_leastAtGate 11 = .ok (.invokevirtual 44, 3) := by decide +kernel
theorem dX1_leastAtGate_14 : decode cX1_leastAtGate 14 = .ok (.if_icmp .ge 25, 3) := by decide +kernel
theorem dX1_leastAtGate_17 : decode cX1_leastAtGate 17 = .ok (.iload_n 1, 1) := by decide +kernel
theorem dX1_leastAtGate_18 : decode cX1_leastAtGate 18 = .ok (.aload_n 0, 1) := by decide +kernel
theorem dX1_leastAtGate_19 : decode cX1_leastAtGate 19 = .ok (.getfield 15, 3) := by decide +kernel
theorem dX1_leastAtGate_22 : decode cX1_leastAtGate 22 = .ok (.aload_n 0, 1) := by decide +kernel
theorem dX1_leastAtGate_23 : decode cX1_leastAtGate 23 = .ok (.iconst 0, 1) := by decide +kernel
theorem dX1_leastAtGate_24 : decode cX1_leastAtGate 24 = .ok (.iload_n 2, 1) := by decide +kernel
theorem dX1_leastAtGate_25 : decode cX1_leastAtGate 25 = .ok (.invokevirtual 56, 3) := by decide +kernel
theorem dX1_leastAtGate_28 : decode cX1_leastAtGate 28 = .ok (.iaload, 1) := by decide +kernel
theorem dX1_leastAtGate_29 : decode cX1_leastAtGate 29 = .ok (.invokestatic 38, 3) := by decide +kernel
theorem dX1_leastAtGate_32 : decode cX1_leastAtGate 32 = .ok (.istore_n 1, 1) := by decide +kernel
theorem dX1_leastAtGate_33 : decode cX1_leastAtGate 33 = .ok (.iinc 2 1, 3) := by decide +kernel
theorem dX1_leastAtGate_36 : decode cX1_leastAtGate 36 = .ok (.goto (-27), 3) := by decide +kernel
theorem dX1_leastAtGate_39 : decode cX1_leastAtGate 39 = .ok (.iload_n 1, 1) := by decide +kernel
theorem dX1_leastAtGate_40 : decode cX1_leastAtGate 40 = .ok (.ireturn, 1) := by decide +kernel
theorem dX1_leastTogether_0 : decode cX1_leastTogether 0 = .ok (.aload_n 0, 1) := by decide +kernel
theorem dX1_leastTogether_1 : decode cX1_leastTogether 1 = .ok (.invokevirtual 44, 3) := by decide +kernel
theorem dX1_leastTogether_4 : decode cX1_leastTogether 4 = .ok (.iconst 1, 1) := by decide +kernel
theorem dX1_leastTogether_5 : decode cX1_leastTogether 5 = .ok (.isub, 1) := by decide +kernel
theorem dX1_leastTogether_6 : decode cX1_leastTogether 6 = .ok (.istore_n 1, 1) := by decide +kernel
theorem dX1_leastTogether_7 : decode cX1_leastTogether 7 = .ok (.iload_n 1, 1) := by decide +kernel
theorem dX1_leastTogether_8 : decode cX1_leastTogether 8 = .ok (.ifCond .lt 51, 3) := by decide +kernel
theorem dX1_leastTogether_11 : decode cX1_leastTogether 11 = .ok (.iconst 0, 1) := by decide +kernel
theorem dX1_leastTogether_12 : decode cX1_leastTogether 12 = .ok (.istore_n 2, 1) := by decide +kernel
theorem dX1_leastTogether_13 : decode cX1_leastTogether 13 = .ok (.iload_n 2, 1) := by decide +kernel
theorem dX1_leastTogether_14 : decode cX1_leastTogether 14 = .ok (.aload_n 0, 1) := by decide +kernel
theorem dX1_leastTogether_15 : decode cX1_leastTogether 15 = .ok (.invokevirtual 44, 3) := by decide +kernel
theorem dX1_leastTogether_18 : decode cX1_leastTogether 18 = .ok (.if_icmp .ge 35, 3) := by decide +kernel
theorem dX1_leastTogether_21 : decode cX1_leastTogether 21 = .ok (.aload_n 0, 1) := by decide +kernel
theorem dX1_leastTogether_22 : decode cX1_leastTogether 22 = .ok (.iload_n 1, 1) := by decide +kernel
theorem dX1_leastTogether_23 : decode cX1_leastTogether 23 = .ok (.iload_n 2, 1) := by decide +kernel
theorem dX1_leastTogether_24 : decode cX1_leastTogether 24 = .ok (.invokevirtual 56, 3) := by decide +kernel
theorem dX1_leastTogether_27 : decode cX1_leastTogether 27 = .ok (.istore_n 3, 1) := by decide +kernel
theorem dX1_leastTogether_28 : decode cX1_leastTogether 28 = .ok (.aload_n 0, 1) := by decide +kernel
theorem dX1_leastTogether_29 : decode cX1_leastTogether 29 = .ok (.getfield 15, 3) := by decide +kernel
theorem dX1_leastTogether_32 : decode cX1_leastTogether 32 = .ok (.iload_n 3, 1) := by decide +kernel
theorem dX1_leastTogether_33 : decode cX1_leastTogether 33 = .ok (.aload_n 0, 1) := by decide +kernel
theorem dX1_leastTogether_34 : decode cX1_leastTogether 34 = .ok (.getfield 9, 3) := by decide +kernel
theorem dX1_leastTogether_37 : decode cX1_leastTogether 37 = .ok (.iload_n 3, 1) := by decide +kernel
theorem dX1_leastTogether_38 : decode cX1_leastTogether 38 = .ok (.iaload, 1) := by decide +kernel
theorem dX1_leastTogether_39 : decode cX1_leastTogether 39 = .ok (.aload_n 0, 1) := by decide +kernel
theorem dX1_leastTogether_40 : decode cX1_leastTogether 40 = .ok (.iload_n 1, 1) := by decide +kernel
theorem dX1_leastTogether_41 : decode cX1_leastTogether 41 = .ok (.iload_n 2, 1) := by decide +kernel
theorem dX1_leastTogether_42 : decode cX1_leastTogether 42 = .ok (.invokevirtual 59, 3) := by decide +kernel
theorem dX1_leastTogether_45 : decode cX1_leastTogether 45 = .ok (.iadd, 1) := by decide +kernel
theorem dX1_leastTogether_46 : decode cX1_leastTogether 46 = .ok (.iastore, 1) := by decide +kernel
theorem dX1_leastTogether_47 : decode cX1_leastTogether 47 = .ok (.iinc 2 1, 3) := by decide +kernel
theorem dX1_leastTogether_50 : decode cX1_leastTogether 50 = .ok (.goto (-37), 3) := by decide +kernel
theorem dX1_leastTogether_53 : decode cX1_leastTogether 53 = .ok (.iinc 1 (-1), 3) := by decide +kernel
theorem dX1_leastTogether_56 : decode cX1_leastTogether 56 = .ok (.goto (-49), 3) := by decide +kernel
theorem dX1_leastTogether_59 : decode cX1_leastTogether 59 = .ok (.aload_n 0, 1) := by decide +kernel
theorem dX1_leastTogether_60 : decode cX1_leastTogether 60 = .ok (.invokevirtual 62, 3) := by decide +kernel
theorem dX1_leastTogether_63 : decode cX1_leastTogether 63 = .ok (.istore_n 1, 1) := by decide +kernel
theorem dX1_leastTogether_64 : decode cX1_leastTogether 64 = .ok (.aload_n 0, 1) := by decide +kernel
theorem dX1_leastTogether_65 : decode cX1_leastTogether 65 = .ok (.iload_n 1, 1) := by decide +kernel
theorem dX1_leastTogether_66 : decode cX1_leastTogether 66 = .ok (.iconst 1, 1) := by decide +kernel
theorem dX1_leastTogether_67 : decode cX1_leastTogether 67 = .ok (.invokevirtual 65, 3) := by decide +kernel
theorem dX1_leastTogether_70 : decode cX1_leastTogether 70 = .ok (.iload_n 1, 1) := by decide +kernel
theorem dX1_leastTogether_71 : decode cX1_leastTogether 71 = .ok (.ireturn, 1) := by decide +kernel
theorem dX1_leastGreatest_0 : decode cX1_leastGreatest 0 = .ok (.aload_n 0, 1) := by decide +kernel
theorem dX1_leastGreatest_1 : decode cX1_leastGreatest 1 = .ok (.invokevirtual 44, 3) := by decide +kernel
theorem dX1_leastGreatest_4 : decode cX1_leastGreatest 4 = .ok (.iconst 1, 1) := by decide +kernel
theorem dX1_leastGreatest_5 : decode cX1_leastGreatest 5 = .ok (.isub, 1) := by decide +kernel
theorem dX1_leastGreatest_6 : decode cX1_leastGreatest 6 = .ok (.istore_n 1, 1) := by decide +kernel
theorem dX1_leastGreatest_7 : decode cX1_leastGreatest 7 = .ok (.iload_n 1, 1) := by decide +kernel
theorem dX1_leastGreatest_8 : decode cX1_leastGreatest 8 = .ok (.ifCond .lt 53, 3) := by decide +kernel
theorem dX1_leastGreatest_11 : decode cX1_leastGreatest 11 = .ok (.iconst 0, 1) := by decide +kernel
theorem dX1_leastGreatest_12 : decode cX1_leastGreatest 12 = .ok (.istore_n 2, 1) := by decide +kernel
theorem dX1_leastGreatest_13 : decode cX1_leastGreatest 13 = .ok (.iload_n 2, 1) := by decide +kernel
theorem dX1_leastGreatest_14 : decode cX1_leastGreatest 14 = .ok (.aload_n 0, 1) := by decide +kernel
theorem dX1_leastGreatest_15 : decode cX1_leastGreatest 15 = .ok (.invokevirtual 44, 3) := by decide +kernel
theorem dX1_leastGreatest_18 : decode cX1_leastGreatest 18 = .ok (.if_icmp .ge 37, 3) := by decide +kernel
theorem dX1_leastGreatest_21 : decode cX1_leastGreatest 21 = .ok (.aload_n 0, 1) := by decide +kernel
theorem dX1_leastGreatest_22 : decode cX1_leastGreatest 22 = .ok (.iload_n 1, 1) := by decide +kernel
theorem dX1_leastGreatest_23 : decode cX1_leastGreatest 23 = .ok (.iload_n 2, 1) := by decide +kernel
theorem dX1_leastGreatest_24 : decode cX1_leastGreatest 24 = .ok (.invokevirtual 56, 3) := by decide +kernel
theorem dX1_leastGreatest_27 : decode cX1_leastGreatest 27 = .ok (.istore_n 3, 1) := by decide +kernel
theorem dX1_leastGreatest_28 : decode cX1_leastGreatest 28 = .ok (.aload_n 0, 1) := by decide +kernel
theorem dX1_leastGreatest_29 : decode cX1_leastGreatest 29 = .ok (.getfield 15, 3) := by decide +kernel
theorem dX1_leastGreatest_32 : decode cX1_leastGreatest 32 = .ok (.iload_n 3, 1) := by decide +kernel
theorem dX1_leastGreatest_33 : decode cX1_leastGreatest 33 = .ok (.aload_n 0, 1) := by decide +kernel
theorem dX1_leastGreatest_34 : decode cX1_leastGreatest 34 = .ok (.getfield 9, 3) := by decide +kernel
theorem dX1_leastGreatest_37 : decode cX1_leastGreatest 37 = .ok (.iload_n 3, 1) := by decide +kernel
theorem dX1_leastGreatest_38 : decode cX1_leastGreatest 38 = .ok (.iaload, 1) := by decide +kernel
theorem dX1_leastGreatest_39 : decode cX1_leastGreatest 39 = .ok (.aload_n 0, 1) := by decide +kernel
theorem dX1_leastGreatest_40 : decode cX1_leastGreatest 40 = .ok (.iload_n 1, 1) := by decide +kernel
theorem dX1_leastGreatest_41 : decode cX1_leastGreatest 41 = .ok (.iload_n 2, 1) := by decide +kernel
theorem dX1_leastGreatest_42 : decode cX1_leastGreatest 42 = .ok (.invokevirtual 59, 3) := by decide +kernel
theorem dX1_leastGreatest_45 : decode cX1_leastGreatest 45 = .ok (.invokestatic 53, 3) := by decide +kernel
theorem dX1_leastGreatest_48 : decode cX1_leastGreatest 48 = .ok (.iastore, 1) := by decide +kernel
theorem dX1_leastGreatest_49 : decode cX1_leastGreatest 49 = .ok (.iinc 2 1, 3) := by decide +kernel
theorem dX1_leastGreatest_52 : decode cX1_leastGreatest 52 = .ok (.goto (-39), 3) := by decide +kernel
theorem dX1_leastGreatest_55 : decode cX1_leastGreatest 55 = .ok (.iinc 1 (-1), 3) := by decide +kernel
theorem dX1_leastGreatest_58 : decode cX1_leastGreatest 58 = .ok (.goto (-51), 3) := by decide +kernel
theorem dX1_leastGreatest_61 : decode cX1_leastGreatest 61 = .ok (.aload_n 0, 1) := by decide +kernel
theorem dX1_leastGreatest_62 : decode cX1_leastGreatest 62 = .ok (.invokevirtual 62, 3) := by decide +kernel
theorem dX1_leastGreatest_65 : decode cX1_leastGreatest 65 = .ok (.istore_n 1, 1) := by decide +kernel
theorem dX1_leastGreatest_66 : decode cX1_leastGreatest 66 = .ok (.aload_n 0, 1) := by decide +kernel
theorem dX1_leastGreatest_67 : decode cX1_leastGreatest 67 = .ok (.iload_n 1, 1) := by decide +kernel
theorem dX1_leastGreatest_68 : decode cX1_leastGreatest 68 = .ok (.iconst 0, 1) := by decide +kernel
theorem dX1_leastGreatest_69 : decode cX1_leastGreatest 69 = .ok (.invokevirtual 65, 3) := by decide +kernel
theorem dX1_leastGreatest_72 : decode cX1_leastGreatest 72 = .ok (.iload_n 1, 1) := by decide +kernel
theorem dX1_leastGreatest_73 : decode cX1_leastGreatest 73 = .ok (.ireturn, 1) := by decide +kernel
theorem dX1_keepFirst_0 : decode cX1_keepFirst 0 = .ok (.iload_n 1, 1) := by decide +kernel
theorem dX1_keepFirst_1 : decode cX1_keepFirst 1 = .ok (.istore_n 3, 1) := by decide +kernel
theorem dX1_keepFirst_2 : decode cX1_keepFirst 2 = .ok (.iconst 0, 1) := by decide +kernel
theorem dX1_keepFirst_3 : decode cX1_keepFirst 3 = .ok (.istore 4, 2) := by decide +kernel
theorem dX1_keepFirst_5 : decode cX1_keepFirst 5 = .ok (.aload_n 0, 1) := by decide +kernel
theorem dX1_keepFirst_6 : decode cX1_keepFirst 6 = .ok (.invokevirtual 44, 3) := by decide +kernel
theorem dX1_keepFirst_9 : decode cX1_keepFirst 9 = .ok (.iconst 1, 1) := by decide +kernel
theorem dX1_keepFirst_10 : decode cX1_keepFirst 10 = .ok (.isub, 1) := by decide +kernel
theorem dX1_keepFirst_11 : decode cX1_keepFirst 11 = .ok (.istore 5, 2) := by decide +kernel
theorem dX1_keepFirst_13 : decode cX1_keepFirst 13 = .ok (.iconst 0, 1) := by decide +kernel
theorem dX1_keepFirst_14 : decode cX1_keepFirst 14 = .ok (.istore 6, 2) := by decide +kernel
theorem dX1_keepFirst_16 : decode cX1_keepFirst 16 = .ok (.iload 6, 2) := by decide +kernel
theorem dX1_keepFirst_18 : decode cX1_keepFirst 18 = .ok (.aload_n 0, 1) := by decide +kernel
theorem dX1_keepFirst_19 : decode cX1_keepFirst 19 = .ok (.invokevirtual 44, 3) := by decide +kernel
theorem dX1_keepFirst_22 : decode cX1_keepFirst 22 = .ok (.if_icmp .ge 105, 3) := by decide +kernel
theorem dX1_keepFirst_25 : decode cX1_keepFirst 25 = .ok (.iload 4, 2) := by decide +kernel
theorem dX1_keepFirst_27 : decode cX1_keepFirst 27 = .ok (.istore 7, 2) := by decide +kernel
theorem dX1_keepFirst_29 : decode cX1_keepFirst 29 = .ok (.iload 7, 2) := by decide +kernel
theorem dX1_keepFirst_31 : decode cX1_keepFirst 31 = .ok (.iload 5, 2) := by decide +kernel
theorem dX1_keepFirst_33 : decode cX1_keepFirst 33 = .ok (.if_icmp .ge 26, 3) := by decide +kernel
theorem dX1_keepFirst_36 : decode cX1_keepFirst 36 = .ok (.aload_n 0, 1) := by decide +kernel
theorem dX1_keepFirst_37 : decode cX1_keepFirst 37 = .ok (.getfield 15, 3) := by decide +kernel
theorem dX1_keepFirst_40 : decode cX1_keepFirst 40 = .ok (.aload_n 0, 1) := by decide +kernel
theorem dX1_keepFirst_41 : decode cX1_keepFirst 41 = .ok (.iload 6, 2) := by decide +kernel
theorem dX1_keepFirst_43 : decode cX1_keepFirst 43 = .ok (.iload 7, 2) := by decide +kernel
theorem dX1_keepFirst_45 : decode cX1_keepFirst 45 = .ok (.invokevirtual 56, 3) := by decide +kernel
theorem dX1_keepFirst_48 : decode cX1_keepFirst 48 = .ok (.iaload, 1) := by decide +kernel
theorem dX1_keepFirst_49 : decode cX1_keepFirst 49 = .ok (.iload_n 3, 1) := by decide +kernel
theorem dX1_keepFirst_50 : decode cX1_keepFirst 50 = .ok (.if_icmp .le 9, 3) := by decide +kernel
theorem dX1_keepFirst_53 : decode cX1_keepFirst 53 = .ok (.iinc 7 1, 3) := by decide +kernel
theorem dX1_keepFirst_56 : decode cX1_keepFirst 56 = .ok (.goto (-27), 3) := by decide +kernel
theorem dX1_keepFirst_59 : decode cX1_keepFirst 59 = .ok (.aload_n 0, 1) := by decide +kernel
theorem dX1_keepFirst_60 : decode cX1_keepFirst 60 = .ok (.iload 6, 2) := by decide +kernel
theorem dX1_keepFirst_62 : decode cX1_keepFirst 62 = .ok (.iload 7, 2) := by decide +kernel
theorem dX1_keepFirst_64 : decode cX1_keepFirst 64 = .ok (.invokevirtual 56, 3) := by decide +kernel
theorem dX1_keepFirst_67 : decode cX1_keepFirst 67 = .ok (.istore 8, 2) := by decide +kernel
theorem dX1_keepFirst_69 : decode cX1_keepFirst 69 = .ok (.aload_n 0, 1) := by decide +kernel
theorem dX1_keepFirst_70 : decode cX1_keepFirst 70 = .ok (.getfield 21, 3) := by decide +kernel
theorem dX1_keepFirst_73 : decode cX1_keepFirst 73 = .ok (.iload 6, 2) := by decide +kernel
theorem dX1_keepFirst_75 : decode cX1_keepFirst 75 = .ok (.iload 8, 2) := by decide +kernel
theorem dX1_keepFirst_77 : decode cX1_keepFirst 77 = .ok (.iastore, 1) := by decide +kernel
theorem dX1_keepFirst_78 : decode cX1_keepFirst 78 = .ok (.iload_n 3, 1) := by decide +kernel
theorem dX1_keepFirst_79 : decode cX1_keepFirst 79 = .ok (.iload_n 2, 1) := by decide +kernel
theorem dX1_keepFirst_80 : decode cX1_keepFirst 80 = .ok (.ifCond .eq 13, 3) := by decide +kernel
theorem dX1_keepFirst_83 : decode cX1_keepFirst 83 = .ok (.aload_n 0, 1) := by decide +kernel
theorem dX1_keepFirst_84 : decode cX1_keepFirst 84 = .ok (.getfield 9, 3) := by decide +kernel
theorem dX1_keepFirst_87 : decode cX1_keepFirst 87 = .ok (.iload 8, 2) := by decide +kernel
theorem dX1_keepFirst_89 : decode cX1_keepFirst 89 = .ok (.iaload, 1) := by decide +kernel
theorem dX1_keepFirst_90 : decode cX1_keepFirst 90 = .ok (.goto 4, 3) := by decide +kernel
theorem dX1_keepFirst_93 : decode cX1_keepFirst 93 = .ok (.iconst 0, 1) := by decide +kernel
theorem dX1_keepFirst_94 : decode cX1_keepFirst 94 = .ok (.isub, 1) := by decide +kernel
theorem dX1_keepFirst_95 : decode cX1_keepFirst 95 = .ok (.istore_n 3, 1) := by decide +kernel
theorem dX1_keepFirst_96 : decode cX1_keepFirst 96 = .ok (.iconst 0, 1) := by decide +kernel
theorem dX1_keepFirst_97 : decode cX1_keepFirst 97 = .ok (.iload 7, 2) := by decide +kernel
theorem dX1_keepFirst_99 : decode cX1_keepFirst 99 = .ok (.iconst 1, 1) := by decide +kernel
theorem dX1_keepFirst_100 : decode cX1_keepFirst 100 = .ok (.isub, 1) := by decide +kernel
theorem dX1_keepFirst_101 : decode cX1_keepFirst 101 = .ok (.invokestatic 53, 3) := by decide +kernel
theorem dX1_keepFirst_104 : decode cX1_keepFirst 104 = .ok (.istore 4, 2) := by decide +kernel
theorem dX1_keepFirst_106 : decode cX1_keepFirst 106 = .ok (.aload_n 0, 1) := by decide +kernel
theorem dX1_keepFirst_107 : decode cX1_keepFirst 107 = .ok (.invokevirtual 44, 3) := by decide +kernel
theorem dX1_keepFirst_110 : decode cX1_keepFirst 110 = .ok (.iconst 1, 1) := by decide +kernel
theorem dX1_keepFirst_111 : decode cX1_keepFirst 111 = .ok (.isub, 1) := by decide +kernel
theorem dX1_keepFirst_112 : decode cX1_keepFirst 112 = .ok (.iload 7, 2) := by decide +kernel
theorem dX1_keepFirst_114 : decode cX1_keepFirst 114 = .ok (.iconst 1, 1) := by decide +kernel
theorem dX1_keepFirst_115 : decode cX1_keepFirst 115 = .ok (.iadd, 1) := by decide +kernel
theorem dX1_keepFirst_116 : decode cX1_keepFirst 116 = .ok (.invokestatic 38, 3) := by decide +kernel
theorem dX1_keepFirst_119 : decode cX1_keepFirst 119 = .ok (.istore 5, 2) := by decide +kernel
theorem dX1_keepFirst_121 : decode cX1_keepFirst 121 = .ok (.iinc 6 1, 3) := by decide +kernel
theorem dX1_keepFirst_124 : decode cX1_keepFirst 124 = .ok (.goto (-108), 3) := by decide +kernel
theorem dX1_keepFirst_127 : decode cX1_keepFirst 127 = .ok (.return_, 1) := by decide +kernel
theorem dX1_openWays_0 : decode cX1_openWays 0 = .ok (.aload_n 0, 1) := by decide +kernel
theorem dX1_openWays_1 : decode cX1_openWays 1 = .ok (.invokevirtual 44, 3) := by decide +kernel
theorem dX1_openWays_4 : decode cX1_openWays 4 = .ok (.iconst 1, 1) := by decide +kernel
theorem dX1_openWays_5 : decode cX1_openWays 5 = .ok (.isub, 1) := by decide +kernel
theorem dX1_openWays_6 : decode cX1_openWays 6 = .ok (.istore_n 1, 1) := by decide +kernel
theorem dX1_openWays_7 : decode cX1_openWays 7 = .ok (.iload_n 1, 1) := by decide +kernel
theorem dX1_openWays_8 : decode cX1_openWays 8 = .ok (.ifCond .lt 79, 3) := by decide +kernel
theorem dX1_openWays_11 : decode cX1_openWays 11 = .ok (.iconst 0, 1) := by decide +kernel
theorem dX1_openWays_12 : decode cX1_openWays 12 = .ok (.istore_n 2, 1) := by decide +kernel
theorem dX1_openWays_13 : decode cX1_openWays 13 = .ok (.iload_n 2, 1) := by decide +kernel
theorem dX1_openWays_14 : decode cX1_openWays 14 = .ok (.aload_n 0, 1) := by decide +kernel
theorem dX1_openWays_15 : decode cX1_openWays 15 = .ok (.invokevirtual 44, 3) := by decide +kernel
theorem dX1_openWays_18 : decode cX1_openWays 18 = .ok (.if_icmp .ge 63, 3) := by decide +kernel
theorem dX1_openWays_21 : decode cX1_openWays 21 = .ok (.aload_n 0, 1) := by decide +kernel
theorem dX1_openWays_22 : decode cX1_openWays 22 = .ok (.iload_n 1, 1) := by decide +kernel
theorem dX1_openWays_23 : decode cX1_openWays 23 = .ok (.iload_n 2, 1) := by decide +kernel
theorem dX1_openWays_24 : decode cX1_openWays 24 = .ok (.invokevirtual 56, 3) := by decide +kernel
theorem dX1_openWays_27 : decode cX1_openWays 27 = .ok (.istore_n 3, 1) := by decide +kernel
theorem dX1_openWays_28 : decode cX1_openWays 28 = .ok (.iload_n 1, 1) := by decide +kernel
theorem dX1_openWays_29 : decode cX1_openWays 29 = .ok (.iconst 1, 1) := by decide +kernel
theorem dX1_openWays_30 : decode cX1_openWays 30 = .ok (.iadd, 1) := by decide +kernel
theorem dX1_openWays_31 : decode cX1_openWays 31 = .ok (.aload_n 0, 1) := by decide +kernel
theorem dX1_openWays_32 : decode cX1_openWays 32 = .ok (.invokevirtual 44, 3) := by decide +kernel
theorem dX1_openWays_35 : decode cX1_openWays 35 = .ok (.if_icmp .ge 16, 3) := by decide +kernel
theorem dX1_openWays_38 : decode cX1_openWays 38 = .ok (.aload_n 0, 1) := by decide +kernel
theorem dX1_openWays_39 : decode cX1_openWays 39 = .ok (.aload_n 0, 1) := by decide +kernel
theorem dX1_openWays_40 : decode cX1_openWays 40 = .ok (.getfield 18, 3) := by decide +kernel
theorem dX1_openWays_43 : decode cX1_openWays 43 = .ok (.iload_n 1, 1) := by decide +kernel
theorem dX1_openWays_44 : decode cX1_openWays 44 = .ok (.iload_n 2, 1) := by decide +kernel
theorem dX1_openWays_45 : decode cX1_openWays 45 = .ok (.invokevirtual 69, 3) := by decide +kernel
theorem dX1_openWays_48 : decode cX1_openWays 48 = .ok (.goto 4, 3) := by decide +kernel
theorem dX1_openWays_51 : decode cX1_openWays 51 = .ok (.iconst 1, 1) := by decide +kernel
theorem dX1_openWays_52 : decode cX1_openWays 52 = .ok (.istore 4, 2) := by decide +kernel
theorem dX1_openWays_54 : decode cX1_openWays 54 = .ok (.aload_n 0, 1) := by decide +kernel
theorem dX1_openWays_55 : decode cX1_openWays 55 = .ok (.getfield 18, 3) := by decide +kernel
theorem dX1_openWays_58 : decode cX1_openWays 58 = .ok (.iload_n 3, 1) := by decide +kernel
theorem dX1_openWays_59 : decode cX1_openWays 59 = .ok (.aload_n 0, 1) := by decide +kernel
theorem dX1_openWays_60 : decode cX1_openWays 60 = .ok (.getfield 9, 3) := by decide +kernel
theorem dX1_openWays_63 : decode cX1_openWays 63 = .ok (.iload_n 3, 1) := by decide +kernel
theorem dX1_openWays_64 : decode cX1_openWays 64 = .ok (.iaload, 1) := by decide +kernel
theorem dX1_openWays_65 : decode cX1_openWays 65 = .ok (.ifCond .ne 8, 3) := by decide +kernel
theorem dX1_openWays_68 : decode cX1_openWays 68 = .ok (.iload 4, 2) := by decide +kernel
theorem dX1_openWays_70 : decode cX1_openWays 70 = .ok (.goto 4, 3) := by decide +kernel
theorem dX1_openWays_73 : decode cX1_openWays 73 = .ok (.iconst 0, 1) := by decide +kernel
theorem dX1_openWays_74 : decode cX1_openWays 74 = .ok (.iastore, 1) := by decide +kernel
theorem dX1_openWays_75 : decode cX1_openWays 75 = .ok (.iinc 2 1, 3) := by decide +kernel
theorem dX1_openWays_78 : decode cX1_openWays 78 = .ok (.goto (-65), 3) := by decide +kernel
theorem dX1_openWays_81 : decode cX1_openWays 81 = .ok (.iinc 1 (-1), 3) := by decide +kernel
theorem dX1_openWays_84 : decode cX1_openWays 84 = .ok (.goto (-77), 3) := by decide +kernel
theorem dX1_openWays_87 : decode cX1_openWays 87 = .ok (.aload_n 0, 1) := by decide +kernel
theorem dX1_openWays_88 : decode cX1_openWays 88 = .ok (.aload_n 0, 1) := by decide +kernel
theorem dX1_openWays_89 : decode cX1_openWays 89 = .ok (.getfield 18, 3) := by decide +kernel
theorem dX1_openWays_92 : decode cX1_openWays 92 = .ok (.invokevirtual 73, 3) := by decide +kernel
theorem dX1_openWays_95 : decode cX1_openWays 95 = .ok (.ireturn, 1) := by decide +kernel
theorem dX1_allTogether_0 : decode cX1_allTogether 0 = .ok (.aload_n 0, 1) := by decide +kernel
theorem dX1_allTogether_1 : decode cX1_allTogether 1 = .ok (.invokevirtual 44, 3) := by decide +kernel
theorem dX1_allTogether_4 : decode cX1_allTogether 4 = .ok (.iconst 1, 1) := by decide +kernel
theorem dX1_allTogether_5 : decode cX1_allTogether 5 = .ok (.isub, 1) := by decide +kernel
theorem dX1_allTogether_6 : decode cX1_allTogether 6 = .ok (.istore_n 1, 1) := by decide +kernel
theorem dX1_allTogether_7 : decode cX1_allTogether 7 = .ok (.iload_n 1, 1) := by decide +kernel
theorem dX1_allTogether_8 : decode cX1_allTogether 8 = .ok (.ifCond .lt 113, 3) := by decide +kernel
theorem dX1_allTogether_11 : decode cX1_allTogether 11 = .ok (.iconst 0, 1) := by decide +kernel
theorem dX1_allTogether_12 : decode cX1_allTogether 12 = .ok (.istore_n 2, 1) := by decide +kernel
theorem dX1_allTogether_13 : decode cX1_allTogether 13 = .ok (.iload_n 2, 1) := by decide +kernel
theorem dX1_allTogether_14 : decode cX1_allTogether 14 = .ok (.aload_n 0, 1) := by decide +kernel
theorem dX1_allTogether_15 : decode cX1_allTogether 15 = .ok (.invokevirtual 44, 3) := by decide +kernel
theorem dX1_allTogether_18 : decode cX1_allTogether 18 = .ok (.if_icmp .ge 97, 3) := by decide +kernel
theorem dX1_allTogether_21 : decode cX1_allTogether 21 = .ok (.aload_n 0, 1) := by decide +kernel
theorem dX1_allTogether_22 : decode cX1_allTogether 22 = .ok (.iload_n 1, 1) := by decide +kernel
theorem dX1_allTogether_23 : decode cX1_allTogether 23 = .ok (.iload_n 2, 1) := by decide +kernel
theorem dX1_allTogether_24 : decode cX1_allTogether 24 = .ok (.invokevirtual 56, 3) := by decide +kernel
theorem dX1_allTogether_27 : decode cX1_allTogether 27 = .ok (.istore_n 3, 1) := by decide +kernel
theorem dX1_allTogether_28 : decode cX1_allTogether 28 = .ok (.iload_n 1, 1) := by decide +kernel
theorem dX1_allTogether_29 : decode cX1_allTogether 29 = .ok (.iconst 1, 1) := by decide +kernel
theorem dX1_allTogether_30 : decode cX1_allTogether 30 = .ok (.iadd, 1) := by decide +kernel
theorem dX1_allTogether_31 : decode cX1_allTogether 31 = .ok (.aload_n 0, 1) := by decide +kernel
theorem dX1_allTogether_32 : decode cX1_allTogether 32 = .ok (.invokevirtual 44, 3) := by decide +kernel
theorem dX1_allTogether_35 : decode cX1_allTogether 35 = .ok (.if_icmp .lt 7, 3) := by decide +kernel
theorem dX1_allTogether_38 : decode cX1_allTogether 38 = .ok (.iconst 1, 1) := by decide +kernel
theorem dX1_allTogether_39 : decode cX1_allTogether 39 = .ok (.goto 4, 3) := by decide +kernel
theorem dX1_allTogether_42 : decode cX1_allTogether 42 = .ok (.iconst 0, 1) := by decide +kernel
theorem dX1_allTogether_43 : decode cX1_allTogether 43 = .ok (.istore 4, 2) := by decide +kernel
theorem dX1_allTogether_45 : decode cX1_allTogether 45 = .ok (.aload_n 0, 1) := by decide +kernel
theorem dX1_allTogether_46 : decode cX1_allTogether 46 = .ok (.getfield 18, 3) := by decide +kernel
theorem dX1_allTogether_49 : decode cX1_allTogether 49 = .ok (.iload_n 3, 1) := by decide +kernel
theorem dX1_allTogether_50 : decode cX1_allTogether 50 = .ok (.iload 4, 2) := by decide +kernel
theorem dX1_allTogether_52 : decode cX1_allTogether 52 = .ok (.ifCond .eq 7, 3) := by decide +kernel
theorem dX1_allTogether_55 : decode cX1_allTogether 55 = .ok (.iconst 1, 1) := by decide +kernel
theorem dX1_allTogether_56 : decode cX1_allTogether 56 = .ok (.goto 13, 3) := by decide +kernel
theorem dX1_allTogether_59 : decode cX1_allTogether 59 = .ok (.aload_n 0, 1) := by decide +kernel
theorem dX1_allTogether_60 : decode cX1_allTogether 60 = .ok (.aload_n 0, 1) := by decide +kernel
theorem dX1_allTogether_61 : decode cX1_allTogether 61 = .ok (.getfield 18, 3) := by decide +kernel
theorem dX1_allTogether_64 : decode cX1_allTogether 64 = .ok (.iload_n 1, 1) := by decide +kernel
theorem dX1_allTogether_65 : decode cX1_allTogether 65 = .ok (.iload_n 2, 1) := by decide +kernel
theorem dX1_allTogether_66 : decode cX1_allTogether 66 = .ok (.invokevirtual 69, 3) := by decide +kernel
theorem dX1_allTogether_69 : decode cX1_allTogether 69 = .ok (.iastore, 1) := by decide +kernel
theorem dX1_allTogether_70 : decode cX1_allTogether 70 = .ok (.aload_n 0, 1) := by decide +kernel
theorem dX1_allTogether_71 : decode cX1_allTogether 71 = .ok (.getfield 15, 3) := by decide +kernel
theorem dX1_allTogether_74 : decode cX1_allTogether 74 = .ok (.iload_n 3, 1) := by decide +kernel
theorem dX1_allTogether_75 : decode cX1_allTogether 75 = .ok (.aload_n 0, 1) := by decide +kernel
theorem dX1_allTogether_76 : decode cX1_allTogether 76 = .ok (.getfield 9, 3) := by decide +kernel
theorem dX1_allTogether_79 : decode cX1_allTogether 79 = .ok (.iload_n 3, 1) := by decide +kernel
theorem dX1_allTogether_80 : decode cX1_allTogether 80 = .ok (.iaload, 1) := by decide +kernel
theorem dX1_allTogether_81 : decode cX1_allTogether 81 = .ok (.aload_n 0, 1) := by decide +kernel
theorem dX1_allTogether_82 : decode cX1_allTogether 82 = .ok (.getfield 18, 3) := by decide +kernel
theorem dX1_allTogether_85 : decode cX1_allTogether 85 = .ok (.iload_n 3, 1) := by decide +kernel
theorem dX1_allTogether_86 : decode cX1_allTogether 86 = .ok (.iaload, 1) := by decide +kernel
theorem dX1_allTogether_87 : decode cX1_allTogether 87 = .ok (.imul, 1) := by decide +kernel
theorem dX1_allTogether_88 : decode cX1_allTogether 88 = .ok (.iload 4, 2) := by decide +kernel
theorem dX1_allTogether_90 : decode cX1_allTogether 90 = .ok (.ifCond .eq 7, 3) := by decide +kernel
theorem dX1_allTogether_93 : decode cX1_allTogether 93 = .ok (.iconst 0, 1) := by decide +kernel
theorem dX1_allTogether_94 : decode cX1_allTogether 94 = .ok (.goto 13, 3) := by decide +kernel
theorem dX1_allTogether_97 : decode cX1_allTogether 97 = .ok (.aload_n 0, 1) := by decide +kernel
theorem dX1_allTogether_98 : decode cX1_allTogether 98 = .ok (.aload_n 0, 1) := by decide +kernel
theorem dX1_allTogether_99 : decode cX1_allTogether 99 = .ok (.getfield 15, 3) := by decide +kernel
theorem dX1_allTogether_102 : decode cX1_allTogether 102 = .ok (.iload_n 1, 1) := by decide +kernel
theorem dX1_allTogether_103 : decode cX1_allTogether 103 = .ok (.iload_n 2, 1) := by decide +kernel
theorem dX1_allTogether_104 : decode cX1_allTogether 104 = .ok (.invokevirtual 69, 3) := by decide +kernel
theorem dX1_allTogether_107 : decode cX1_allTogether 107 = .ok (.iadd, 1) := by decide +kernel
theorem dX1_allTogether_108 : decode cX1_allTogether 108 = .ok (.iastore, 1) := by decide +kernel
theorem dX1_allTogether_109 : decode cX1_allTogether 109 = .ok (.iinc 2 1, 3) := by decide +kernel
theorem dX1_allTogether_112 : decode cX1_allTogether 112 = .ok (.goto (-99), 3) := by decide +kernel
theorem dX1_allTogether_115 : decode cX1_allTogether 115 = .ok (.iinc 1 (-1), 3) := by decide +kernel
theorem dX1_allTogether_118 : decode cX1_allTogether 118 = .ok (.goto (-111), 3) := by decide +kernel
theorem dX1_allTogether_121 : decode cX1_allTogether 121 = .ok (.aload_n 0, 1) := by decide +kernel
theorem dX1_allTogether_122 : decode cX1_allTogether 122 = .ok (.aload_n 0, 1) := by decide +kernel
theorem dX1_allTogether_123 : decode cX1_allTogether 123 = .ok (.getfield 15, 3) := by decide +kernel
theorem dX1_allTogether_126 : decode cX1_allTogether 126 = .ok (.invokevirtual 73, 3) := by decide +kernel
theorem dX1_allTogether_129 : decode cX1_allTogether 129 = .ok (.ireturn, 1) := by decide +kernel
theorem dX1_gateSum_0 : decode cX1_gateSum 0 = .ok (.iconst 0, 1) := by decide +kernel
theorem dX1_gateSum_1 : decode cX1_gateSum 1 = .ok (.istore_n 2, 1) := by decide +kernel
theorem dX1_gateSum_2 : decode cX1_gateSum 2 = .ok (.iconst 0, 1) := by decide +kernel
theorem dX1_gateSum_3 : decode cX1_gateSum 3 = .ok (.istore_n 3, 1) := by decide +kernel
theorem dX1_gateSum_4 : decode cX1_gateSum 4 = .ok (.iload_n 3, 1) := by decide +kernel
theorem dX1_gateSum_5 : decode cX1_gateSum 5 = .ok (.aload_n 0, 1) := by decide +kernel
theorem dX1_gateSum_6 : decode cX1_gateSum 6 = .ok (.invokevirtual 44, 3) := by decide +kernel
theorem dX1_gateSum_9 : decode cX1_gateSum 9 = .ok (.if_icmp .ge 20, 3) := by decide +kernel
theorem dX1_gateSum_12 : decode cX1_gateSum 12 = .ok (.iload_n 2, 1) := by decide +kernel
theorem dX1_gateSum_13 : decode cX1_gateSum 13 = .ok (.aload_n 1, 1) := by decide +kernel
theorem dX1_gateSum_14 : decode cX1_gateSum 14 = .ok (.aload_n 0, 1) := by decide +kernel
theorem dX1_gateSum_15 : decode cX1_gateSum 15 = .ok (.iconst 0, 1) := by decide +kernel
theorem dX1_gateSum_16 : decode cX1_gateSum 16 = .ok (.iload_n 3, 1) := by decide +kernel
theorem dX1_gateSum_17 : decode cX1_gateSum 17 = .ok (.invokevirtual 56, 3) := by decide +kernel
theorem dX1_gateSum_20 : decode cX1_gateSum 20 = .ok (.iaload, 1) := by decide +kernel
theorem dX1_gateSum_21 : decode cX1_gateSum 21 = .ok (.iadd, 1) := by decide +kernel
theorem dX1_gateSum_22 : decode cX1_gateSum 22 = .ok (.istore_n 2, 1) := by decide +kernel
theorem dX1_gateSum_23 : decode cX1_gateSum 23 = .ok (.iinc 3 1, 3) := by decide +kernel
theorem dX1_gateSum_26 : decode cX1_gateSum 26 = .ok (.goto (-22), 3) := by decide +kernel
theorem dX1_gateSum_29 : decode cX1_gateSum 29 = .ok (.iload_n 2, 1) := by decide +kernel
theorem dX1_gateSum_30 : decode cX1_gateSum 30 = .ok (.ireturn, 1) := by decide +kernel
theorem dX1_markOpen_0 : decode cX1_markOpen 0 = .ok (.iconst 0, 1) := by decide +kernel
theorem dX1_markOpen_1 : decode cX1_markOpen 1 = .ok (.istore_n 1, 1) := by decide +kernel
theorem dX1_markOpen_2 : decode cX1_markOpen 2 = .ok (.iload_n 1, 1) := by decide +kernel
theorem dX1_markOpen_3 : decode cX1_markOpen 3 = .ok (.aload_n 0, 1) := by decide +kernel
theorem dX1_markOpen_4 : decode cX1_markOpen 4 = .ok (.invokevirtual 44, 3) := by decide +kernel
theorem dX1_markOpen_7 : decode cX1_markOpen 7 = .ok (.if_icmp .ge 58, 3) := by decide +kernel
theorem dX1_markOpen_10 : decode cX1_markOpen 10 = .ok (.iconst 0, 1) := by decide +kernel
theorem dX1_markOpen_11 : decode cX1_markOpen 11 = .ok (.istore_n 2, 1) := by decide +kernel
theorem dX1_markOpen_12 : decode cX1_markOpen 12 = .ok (.iconst 0, 1) := by decide +kernel
theorem dX1_markOpen_13 : decode cX1_markOpen 13 = .ok (.istore_n 3, 1) := by decide +kernel
theorem dX1_markOpen_14 : decode cX1_markOpen 14 = .ok (.iload_n 3, 1) := by decide +kernel
theorem dX1_markOpen_15 : decode cX1_markOpen 15 = .ok (.aload_n 0, 1) := by decide +kernel
theorem dX1_markOpen_16 : decode cX1_markOpen 16 = .ok (.invokevirtual 44, 3) := by decide +kernel
theorem dX1_markOpen_19 : decode cX1_markOpen 19 = .ok (.if_icmp .ge 33, 3) := by decide +kernel
theorem dX1_markOpen_22 : decode cX1_markOpen 22 = .ok (.iload_n 2, 1) := by decide +kernel
theorem dX1_markOpen_23 : decode cX1_markOpen 23 = .ok (.aload_n 0, 1) := by decide +kernel
theorem dX1_markOpen_24 : decode cX1_markOpen 24 = .ok (.getfield 9, 3) := by decide +kernel
theorem dX1_markOpen_27 : decode cX1_markOpen 27 = .ok (.aload_n 0, 1) := by decide +kernel
theorem dX1_markOpen_28 : decode cX1_markOpen 28 = .ok (.iload_n 1, 1) := by decide +kernel
theorem dX1_markOpen_29 : decode cX1_markOpen 29 = .ok (.iload_n 3, 1) := by decide +kernel
theorem dX1_markOpen_30 : decode cX1_markOpen 30 = .ok (.invokevirtual 56, 3) := by decide +kernel
theorem dX1_markOpen_33 : decode cX1_markOpen 33 = .ok (.iaload, 1) := by decide +kernel
theorem dX1_markOpen_34 : decode cX1_markOpen 34 = .ok (.ifCond .ne 9, 3) := by decide +kernel
theorem dX1_markOpen_37 : decode cX1_markOpen 37 = .ok (.iconst 1, 1) := by decide +kernel
theorem dX1_markOpen_38 : decode cX1_markOpen 38 = .ok (.iload_n 3, 1) := by decide +kernel
theorem dX1_markOpen_39 : decode cX1_markOpen 39 = .ok (.ishl, 1) := by decide +kernel
theorem dX1_markOpen_40 : decode cX1_markOpen 40 = .ok (.goto 4, 3) := by decide +kernel
theorem dX1_markOpen_43 : decode cX1_markOpen 43 = .ok (.iconst 0, 1) := by decide +kernel
theorem dX1_markOpen_44 : decode cX1_markOpen 44 = .ok (.ior, 1) := by decide +kernel
theorem dX1_markOpen_45 : decode cX1_markOpen 45 = .ok (.istore_n 2, 1) := by decide +kernel
theorem dX1_markOpen_46 : decode cX1_markOpen 46 = .ok (.iinc 3 1, 3) := by decide +kernel
theorem dX1_markOpen_49 : decode cX1_markOpen 49 = .ok (.goto (-35), 3) := by decide +kernel
theorem dX1_markOpen_52 : decode cX1_markOpen 52 = .ok (.aload_n 0, 1) := by decide +kernel
theorem dX1_markOpen_53 : decode cX1_markOpen 53 = .ok (.getfield 24, 3) := by decide +kernel
theorem dX1_markOpen_56 : decode cX1_markOpen 56 = .ok (.iload_n 1, 1) := by decide +kernel
theorem dX1_markOpen_57 : decode cX1_markOpen 57 = .ok (.iload_n 2, 1) := by decide +kernel
theorem dX1_markOpen_58 : decode cX1_markOpen 58 = .ok (.iastore, 1) := by decide +kernel
theorem dX1_markOpen_59 : decode cX1_markOpen 59 = .ok (.iinc 1 1, 3) := by decide +kernel
theorem dX1_markOpen_62 : decode cX1_markOpen 62 = .ok (.goto (-60), 3) := by decide +kernel
theorem dX1_markOpen_65 : decode cX1_markOpen 65 = .ok (.return_, 1) := by decide +kernel
theorem dX1_markTurnable_0 : decode cX1_markTurnable 0 = .ok (.iload_n 1, 1) := by decide +kernel
theorem dX1_markTurnable_1 : decode cX1_markTurnable 1 = .ok (.iconst 0, 1) := by decide +kernel
theorem dX1_markTurnable_2 : decode cX1_markTurnable 2 = .ok (.bipush 35, 2) := by decide +kernel
theorem dX1_markTurnable_4 : decode cX1_markTurnable 4 = .ok (.invokestatic 48, 3) := by decide +kernel
theorem dX1_markTurnable_7 : decode cX1_markTurnable 7 = .ok (.ifCond .eq 10, 3) := by decide +kernel
theorem dX1_markTurnable_10 : decode cX1_markTurnable 10 = .ok (.aload_n 0, 1) := by decide +kernel
theorem dX1_markTurnable_11 : decode cX1_markTurnable 11 = .ok (.getfield 27, 3) := by decide +kernel
theorem dX1_markTurnable_14 : decode cX1_markTurnable 14 = .ok (.iload_n 1, 1) := by decide +kernel
theorem dX1_markTurnable_15 : decode cX1_markTurnable 15 = .ok (.iload_n 2, 1) := by decide +kernel
theorem dX1_markTurnable_16 : decode cX1_markTurnable 16 = .ok (.bastore, 1) := by decide +kernel
theorem dX1_markTurnable_17 : decode cX1_markTurnable 17 = .ok (.return_, 1) := by decide +kernel
theorem dX1_isPassable_0 : decode cX1_isPassable 0 = .ok (.aload_n 0, 1) := by decide +kernel
theorem dX1_isPassable_1 : decode cX1_isPassable 1 = .ok (.getfield 24, 3) := by decide +kernel
theorem dX1_isPassable_4 : decode cX1_isPassable 4 = .ok (.iconst 0, 1) := by decide +kernel
theorem dX1_isPassable_5 : decode cX1_isPassable 5 = .ok (.iaload, 1) := by decide +kernel
theorem dX1_isPassable_6 : decode cX1_isPassable 6 = .ok (.istore_n 1, 1) := by decide +kernel
theorem dX1_isPassable_7 : decode cX1_isPassable 7 = .ok (.iconst 1, 1) := by decide +kernel
theorem dX1_isPassable_8 : decode cX1_isPassable 8 = .ok (.istore_n 2, 1) := by decide +kernel
theorem dX1_isPassable_9 : decode cX1_isPassable 9 = .ok (.iload_n 2, 1) := by decide +kernel
theorem dX1_isPassable_10 : decode cX1_isPassable 10 = .ok (.aload_n 0, 1) := by decide +kernel
theorem dX1_isPassable_11 : decode cX1_isPassable 11 = .ok (.invokevirtual 44, 3) := by decide +kernel
theorem dX1_isPassable_14 : decode cX1_isPassable 14 = .ok (.if_icmp .ge 26, 3) := by decide +kernel
theorem dX1_isPassable_17 : decode cX1_isPassable 17 = .ok (.iload_n 1, 1) := by decide +kernel
theorem dX1_isPassable_18 : decode cX1_isPassable 18 = .ok (.iload_n 1, 1) := by decide +kernel
theorem dX1_isPassable_19 : decode cX1_isPassable 19 = .ok (.iconst 1, 1) := by decide +kernel
theorem dX1_isPassable_20 : decode cX1_isPassable 20 = .ok (.ishl, 1) := by decide +kernel
theorem dX1_isPassable_21 : decode cX1_isPassable 21 = .ok (.ior, 1) := by decide +kernel
theorem dX1_isPassable_22 : decode cX1_isPassable 22 = .ok (.iload_n 1, 1) := by decide +kernel
theorem dX1_isPassable_23 : decode cX1_isPassable 23 = .ok (.iconst 1, 1) := by decide +kernel
theorem dX1_isPassable_24 : decode cX1_isPassable 24 = .ok (.ishr, 1) := by decide +kernel
theorem dX1_isPassable_25 : decode cX1_isPassable 25 = .ok (.ior, 1) := by decide +kernel
theorem dX1_isPassable_26 : decode cX1_isPassable 26 = .ok (.aload_n 0, 1) := by decide +kernel
theorem dX1_isPassable_27 : decode cX1_isPassable 27 = .ok (.getfield 24, 3) := by decide +kernel
theorem dX1_isPassable_30 : decode cX1_isPassable 30 = .ok (.iload_n 2, 1) := by decide +kernel
theorem dX1_isPassable_31 : decode cX1_isPassable 31 = .ok (.iaload, 1) := by decide +kernel
theorem dX1_isPassable_32 : decode cX1_isPassable 32 = .ok (.iand, 1) := by decide +kernel
theorem dX1_isPassable_33 : decode cX1_isPassable 33 = .ok (.istore_n 1, 1) := by decide +kernel
theorem dX1_isPassable_34 : decode cX1_isPassable 34 = .ok (.iinc 2 1, 3) := by decide +kernel
theorem dX1_isPassable_37 : decode cX1_isPassable 37 = .ok (.goto (-28), 3) := by decide +kernel
theorem dX1_isPassable_40 : decode cX1_isPassable 40 = .ok (.iload_n 1, 1) := by decide +kernel
theorem dX1_isPassable_41 : decode cX1_isPassable 41 = .ok (.ifCond .eq 7, 3) := by decide +kernel
theorem dX1_isPassable_44 : decode cX1_isPassable 44 = .ok (.iconst 1, 1) := by decide +kernel
theorem dX1_isPassable_45 : decode cX1_isPassable 45 = .ok (.goto 4, 3) := by decide +kernel
theorem dX1_isPassable_48 : decode cX1_isPassable 48 = .ok (.iconst 0, 1) := by decide +kernel
theorem dX1_isPassable_49 : decode cX1_isPassable 49 = .ok (.ireturn, 1) := by decide +kernel
theorem dX1_turn_0 : decode cX1_turn 0 = .ok (.aload_n 0, 1) := by decide +kernel
theorem dX1_turn_1 : decode cX1_turn 1 = .ok (.invokevirtual 44, 3) := by decide +kernel
theorem dX1_turn_4 : decode cX1_turn 4 = .ok (.ifCond .le 12, 3) := by decide +kernel
theorem dX1_turn_7 : decode cX1_turn 7 = .ok (.iload_n 1, 1) := by decide +kernel
theorem dX1_turn_8 : decode cX1_turn 8 = .ok (.aload_n 0, 1) := by decide +kernel
theorem dX1_turn_9 : decode cX1_turn 9 = .ok (.invokevirtual 44, 3) := by decide +kernel
theorem dX1_turn_12 : decode cX1_turn 12 = .ok (.idiv, 1) := by decide +kernel
theorem dX1_turn_13 : decode cX1_turn 13 = .ok (.goto 4, 3) := by decide +kernel
theorem dX1_turn_16 : decode cX1_turn 16 = .ok (.iconst 0, 1) := by decide +kernel
theorem dX1_turn_17 : decode cX1_turn 17 = .ok (.istore_n 2, 1) := by decide +kernel
theorem dX1_turn_18 : decode cX1_turn 18 = .ok (.iload_n 2, 1) := by decide +kernel
theorem dX1_turn_19 : decode cX1_turn 19 = .ok (.iconst 0, 1) := by decide +kernel
theorem dX1_turn_20 : decode cX1_turn 20 = .ok (.iconst 5, 1) := by decide +kernel
theorem dX1_turn_21 : decode cX1_turn 21 = .ok (.invokestatic 48, 3) := by decide +kernel
theorem dX1_turn_24 : decode cX1_turn 24 = .ok (.ifCond .eq 22, 3) := by decide +kernel
theorem dX1_turn_27 : decode cX1_turn 27 = .ok (.aload_n 0, 1) := by decide +kernel
theorem dX1_turn_28 : decode cX1_turn 28 = .ok (.getfield 24, 3) := by decide +kernel
theorem dX1_turn_31 : decode cX1_turn 31 = .ok (.iload_n 2, 1) := by decide +kernel
theorem dX1_turn_32 : decode cX1_turn 32 = .ok (.dup2, 1) := by decide +kernel
theorem dX1_turn_33 : decode cX1_turn 33 = .ok (.iaload, 1) := by decide +kernel
theorem dX1_turn_34 : decode cX1_turn 34 = .ok (.iconst 1, 1) := by decide +kernel
theorem dX1_turn_35 : decode cX1_turn 35 = .ok (.iload_n 1, 1) := by decide +kernel
theorem dX1_turn_36 : decode cX1_turn 36 = .ok (.iload_n 2, 1) := by decide +kernel
theorem dX1_turn_37 : decode cX1_turn 37 = .ok (.aload_n 0, 1) := by decide +kernel
theorem dX1_turn_38 : decode cX1_turn 38 = .ok (.invokevirtual 44, 3) := by decide +kernel
theorem dX1_turn_41 : decode cX1_turn 41 = .ok (.imul, 1) := by decide +kernel
theorem dX1_turn_42 : decode cX1_turn 42 = .ok (.isub, 1) := by decide +kernel
theorem dX1_turn_43 : decode cX1_turn 43 = .ok (.ishl, 1) := by decide +kernel
theorem dX1_turn_44 : decode cX1_turn 44 = .ok (.ixor, 1) := by decide +kernel
theorem dX1_turn_45 : decode cX1_turn 45 = .ok (.iastore, 1) := by decide +kernel
theorem dX1_turn_46 : decode cX1_turn 46 = .ok (.return_, 1) := by decide +kernel
theorem dX1_fewestTurned_0 : decode cX1_fewestTurned 0 = .ok (.aload_n 0, 1) := by decide +kernel
theorem dX1_fewestTurned_1 : decode cX1_fewestTurned 1 = .ok (.invokevirtual 77, 3) := by decide +kernel
theorem dX1_fewestTurned_4 : decode cX1_fewestTurned 4 = .ok (.iload_n 1, 1) := by decide +kernel
theorem dX1_fewestTurned_5 : decode cX1_fewestTurned 5 = .ok (.if_icmp .ne 5, 3) := by decide +kernel
theorem dX1_fewestTurned_8 : decode cX1_fewestTurned 8 = .ok (.iconst 0, 1) := by decide +kernel
theorem dX1_fewestTurned_9 : decode cX1_fewestTurned 9 = .ok (.ireturn, 1) := by decide +kernel
theorem dX1_fewestTurned_10 : decode cX1_fewestTurned 10 = .ok (.aload_n 0, 1) := by decide +kernel
theorem dX1_fewestTurned_11 : decode cX1_fewestTurned 11 = .ok (.getfield 31, 3) := by decide +kernel
theorem dX1_fewestTurned_14 : decode cX1_fewestTurned 14 = .ok (.iconst 0, 1) := by decide +kernel
theorem dX1_fewestTurned_15 : decode cX1_fewestTurned 15 = .ok (.aload_n 0, 1) := by decide +kernel
theorem dX1_fewestTurned_16 : decode cX1_fewestTurned 16 = .ok (.iconst 0, 1) := by decide +kernel
theorem dX1_fewestTurned_17 : decode cX1_fewestTurned 17 = .ok (.iload_n 1, 1) := by decide +kernel
theorem dX1_fewestTurned_18 : decode cX1_fewestTurned 18 = .ok (.invokevirtual 81, 3) := by decide +kernel
theorem dX1_fewestTurned_21 : decode cX1_fewestTurned 21 = .ok (.iastore, 1) := by decide +kernel
theorem dX1_fewestTurned_22 : decode cX1_fewestTurned 22 = .ok (.aload_n 0, 1) := by decide +kernel
theorem dX1_fewestTurned_23 : decode cX1_fewestTurned 23 = .ok (.getfield 31, 3) := by decide +kernel
theorem dX1_fewestTurned_26 : decode cX1_fewestTurned 26 = .ok (.iconst 0, 1) := by decide +kernel
theorem dX1_fewestTurned_27 : decode cX1_fewestTurned 27 = .ok (.iaload, 1) := by decide +kernel
theorem dX1_fewestTurned_28 : decode cX1_fewestTurned 28 = .ok (.iconst (-1), 1) := by decide +kernel
theorem dX1_fewestTurned_29 : decode cX1_fewestTurned 29 = .ok (.if_icmp .eq 5, 3) := by decide +kernel
theorem dX1_fewestTurned_32 : decode cX1_fewestTurned 32 = .ok (.iconst 1, 1) := by decide +kernel
theorem dX1_fewestTurned_33 : decode cX1_fewestTurned 33 = .ok (.ireturn, 1) := by decide +kernel
theorem dX1_fewestTurned_34 : decode cX1_fewestTurned 34 = .ok (.iconst 0, 1) := by decide +kernel
theorem dX1_fewestTurned_35 : decode cX1_fewestTurned 35 = .ok (.istore_n 2, 1) := by decide +kernel
theorem dX1_fewestTurned_36 : decode cX1_fewestTurned 36 = .ok (.iload_n 2, 1) := by decide +kernel
theorem dX1_fewestTurned_37 : decode cX1_fewestTurned 37 = .ok (.aload_n 0, 1) := by decide +kernel
theorem dX1_fewestTurned_38 : decode cX1_fewestTurned 38 = .ok (.invokevirtual 44, 3) := by decide +kernel
theorem dX1_fewestTurned_41 : decode cX1_fewestTurned 41 = .ok (.aload_n 0, 1) := by decide +kernel
theorem dX1_fewestTurned_42 : decode cX1_fewestTurned 42 = .ok (.invokevirtual 44, 3) := by decide +kernel
theorem dX1_fewestTurned_45 : decode cX1_fewestTurned 45 = .ok (.imul, 1) := by decide +kernel
theorem dX1_fewestTurned_46 : decode cX1_fewestTurned 46 = .ok (.if_icmp .ge 66, 3) := by decide +kernel
theorem dX1_fewestTurned_49 : decode cX1_fewestTurned 49 = .ok (.aload_n 0, 1) := by decide +kernel
theorem dX1_fewestTurned_50 : decode cX1_fewestTurned 50 = .ok (.getfield 27, 3) := by decide +kernel
theorem dX1_fewestTurned_53 : decode cX1_fewestTurned 53 = .ok (.aload_n 0, 1) := by decide +kernel
theorem dX1_fewestTurned_54 : decode cX1_fewestTurned 54 = .ok (.iconst 0, 1) := by decide +kernel
theorem dX1_fewestTurned_55 : decode cX1_fewestTurned 55 = .ok (.iload_n 2, 1) := by decide +kernel
theorem dX1_fewestTurned_56 : decode cX1_fewestTurned 56 = .ok (.invokevirtual 56, 3) := by decide +kernel
theorem dX1_fewestTurned_59 : decode cX1_fewestTurned 59 = .ok (.baload, 1) := by decide +kernel
theorem dX1_fewestTurned_60 : decode cX1_fewestTurned 60 = .ok (.ifCond .eq 46, 3) := by decide +kernel
theorem dX1_fewestTurned_63 : decode cX1_fewestTurned 63 = .ok (.aload_n 0, 1) := by decide +kernel
theorem dX1_fewestTurned_64 : decode cX1_fewestTurned 64 = .ok (.iload_n 2, 1) := by decide +kernel
theorem dX1_fewestTurned_65 : decode cX1_fewestTurned 65 = .ok (.invokevirtual 85, 3) := by decide +kernel
theorem dX1_fewestTurned_68 : decode cX1_fewestTurned 68 = .ok (.aload_n 0, 1) := by decide +kernel
theorem dX1_fewestTurned_69 : decode cX1_fewestTurned 69 = .ok (.getfield 31, 3) := by decide +kernel
theorem dX1_fewestTurned_72 : decode cX1_fewestTurned 72 = .ok (.iconst 1, 1) := by decide +kernel
theorem dX1_fewestTurned_73 : decode cX1_fewestTurned 73 = .ok (.aload_n 0, 1) := by decide +kernel
theorem dX1_fewestTurned_74 : decode cX1_fewestTurned 74 = .ok (.iload_n 2, 1) := by decide +kernel
theorem dX1_fewestTurned_75 : decode cX1_fewestTurned 75 = .ok (.iconst 1, 1) := by decide +kernel
theorem dX1_fewestTurned_76 : decode cX1_fewestTurned 76 = .ok (.iadd, 1) := by decide +kernel
theorem dX1_fewestTurned_77 : decode cX1_fewestTurned 77 = .ok (.iload_n 1, 1) := by decide +kernel
theorem dX1_fewestTurned_78 : decode cX1_fewestTurned 78 = .ok (.invokevirtual 81, 3) := by decide +kernel
theorem dX1_fewestTurned_81 : decode cX1_fewestTurned 81 = .ok (.iastore, 1) := by decide +kernel
theorem dX1_fewestTurned_82 : decode cX1_fewestTurned 82 = .ok (.aload_n 0, 1) := by decide +kernel
theorem dX1_fewestTurned_83 : decode cX1_fewestTurned 83 = .ok (.iload_n 2, 1) := by decide +kernel
theorem dX1_fewestTurned_84 : decode cX1_fewestTurned 84 = .ok (.invokevirtual 85, 3) := by decide +kernel
theorem dX1_fewestTurned_87 : decode cX1_fewestTurned 87 = .ok (.aload_n 0, 1) := by decide +kernel
theorem dX1_fewestTurned_88 : decode cX1_fewestTurned 88 = .ok (.getfield 31, 3) := by decide +kernel
theorem dX1_fewestTurned_91 : decode cX1_fewestTurned 91 = .ok (.iconst 1, 1) := by decide +kernel
theorem dX1_fewestTurned_92 : decode cX1_fewestTurned 92 = .ok (.iaload, 1) := by decide +kernel
theorem dX1_fewestTurned_93 : decode cX1_fewestTurned 93 = .ok (.iconst (-1), 1) := by decide +kernel
theorem dX1_fewestTurned_94 : decode cX1_fewestTurned 94 = .ok (.if_icmp .eq 12, 3) := by decide +kernel
theorem dX1_fewestTurned_97 : decode cX1_fewestTurned 97 = .ok (.aload_n 0, 1) := by decide +kernel
theorem dX1_fewestTurned_98 : decode cX1_fewestTurned 98 = .ok (.getfield 31, 3) := by decide +kernel
theorem dX1_fewestTurned_101 : decode cX1_fewestTurned 101 = .ok (.iconst 0, 1) := by decide +kernel
theorem dX1_fewestTurned_102 : decode cX1_fewestTurned 102 = .ok (.iload_n 2, 1) := by decide +kernel
theorem dX1_fewestTurned_103 : decode cX1_fewestTurned 103 = .ok (.iastore, 1) := by decide +kernel
theorem dX1_fewestTurned_104 : decode cX1_fewestTurned 104 = .ok (.iconst 2, 1) := by decide +kernel
theorem dX1_fewestTurned_105 : decode cX1_fewestTurned 105 = .ok (.ireturn, 1) := by decide +kernel
theorem dX1_fewestTurned_106 : decode cX1_fewestTurned 106 = .ok (.iinc 2 1, 3) := by decide +kernel
theorem dX1_fewestTurned_109 : decode cX1_fewestTurned 109 = .ok (.goto (-73), 3) := by decide +kernel
theorem dX1_fewestTurned_112 : decode cX1_fewestTurned 112 = .ok (.iconst (-1), 1) := by decide +kernel
theorem dX1_fewestTurned_113 : decode cX1_fewestTurned 113 = .ok (.ireturn, 1) := by decide +kernel
theorem dX1_firstTurned_0 : decode cX1_firstTurned 0 = .ok (.iload_n 1, 1) := by decide +kernel
theorem dX1_firstTurned_1 : decode cX1_firstTurned 1 = .ok (.istore_n 3, 1) := by decide +kernel
theorem dX1_firstTurned_2 : decode cX1_firstTurned 2 = .ok (.iload_n 3, 1) := by decide +kernel
theorem dX1_firstTurned_3 : decode cX1_firstTurned 3 = .ok (.aload_n 0, 1) := by decide +kernel
theorem dX1_firstTurned_4 : decode cX1_firstTurned 4 = .ok (.invokevirtual 44, 3) := by decide +kernel
theorem dX1_firstTurned_7 : decode cX1_firstTurned 7 = .ok (.aload_n 0, 1) := by decide +kernel
theorem dX1_firstTurned_8 : decode cX1_firstTurned 8 = .ok (.invokevirtual 44, 3) := by decide +kernel
theorem dX1_firstTurned_11 : decode cX1_firstTurned 11 = .ok (.imul, 1) := by decide +kernel
theorem dX1_firstTurned_12 : decode cX1_firstTurned 12 = .ok (.if_icmp .ge 55, 3) := by decide +kernel
theorem dX1_firstTurned_15 : decode cX1_firstTurned 15 = .ok (.aload_n 0, 1) := by decide +kernel
theorem dX1_firstTurned_16 : decode cX1_firstTurned 16 = .ok (.getfield 27, 3) := by decide +kernel
theorem dX1_firstTurned_19 : decode cX1_firstTurned 19 = .ok (.aload_n 0, 1) := by decide +kernel
theorem dX1_firstTurned_20 : decode cX1_firstTurned 20 = .ok (.iconst 0, 1) := by decide +kernel
theorem dX1_firstTurned_21 : decode cX1_firstTurned 21 = .ok (.iload_n 3, 1) := by decide +kernel
theorem dX1_firstTurned_22 : decode cX1_firstTurned 22 = .ok (.invokevirtual 56, 3) := by decide +kernel
theorem dX1_firstTurned_25 : decode cX1_firstTurned 25 = .ok (.baload, 1) := by decide +kernel
theorem dX1_firstTurned_26 : decode cX1_firstTurned 26 = .ok (.ifCond .eq 35, 3) := by decide +kernel
theorem dX1_firstTurned_29 : decode cX1_firstTurned 29 = .ok (.aload_n 0, 1) := by decide +kernel
theorem dX1_firstTurned_30 : decode cX1_firstTurned 30 = .ok (.iload_n 3, 1) := by decide +kernel
theorem dX1_firstTurned_31 : decode cX1_firstTurned 31 = .ok (.invokevirtual 85, 3) := by decide +kernel
theorem dX1_firstTurned_34 : decode cX1_firstTurned 34 = .ok (.aload_n 0, 1) := by decide +kernel
theorem dX1_firstTurned_35 : decode cX1_firstTurned 35 = .ok (.invokevirtual 77, 3) := by decide +kernel
theorem dX1_firstTurned_38 : decode cX1_firstTurned 38 = .ok (.iload_n 2, 1) := by decide +kernel
theorem dX1_firstTurned_39 : decode cX1_firstTurned 39 = .ok (.if_icmp .ne 7, 3) := by decide +kernel
theorem dX1_firstTurned_42 : decode cX1_firstTurned 42 = .ok (.iconst 1, 1) := by decide +kernel
theorem dX1_firstTurned_43 : decode cX1_firstTurned 43 = .ok (.goto 4, 3) := by decide +kernel
theorem dX1_firstTurned_46 : decode cX1_firstTurned 46 = .ok (.iconst 0, 1) := by decide +kernel
theorem dX1_firstTurned_47 : decode cX1_firstTurned 47 = .ok (.istore 4, 2) := by decide +kernel
theorem dX1_firstTurned_49 : decode cX1_firstTurned 49 = .ok (.aload_n 0, 1) := by decide +kernel
theorem dX1_firstTurned_50 : decode cX1_firstTurned 50 = .ok (.iload_n 3, 1) := by decide +kernel
theorem dX1_firstTurned_51 : decode cX1_firstTurned 51 = .ok (.invokevirtual 85, 3) := by decide +kernel
theorem dX1_firstTurned_54 : decode cX1_firstTurned 54 = .ok (.iload 4, 2) := by decide +kernel
theorem dX1_firstTurned_56 : decode cX1_firstTurned 56 = .ok (.ifCond .eq 5, 3) := by decide +kernel
theorem dX1_firstTurned_59 : decode cX1_firstTurned 59 = .ok (.iload_n 3, 1) := by decide +kernel
theorem dX1_firstTurned_60 : decode cX1_firstTurned 60 = .ok (.ireturn, 1) := by decide +kernel
theorem dX1_firstTurned_61 : decode cX1_firstTurned 61 = .ok (.iinc 3 1, 3) := by decide +kernel
theorem dX1_firstTurned_64 : decode cX1_firstTurned 64 = .ok (.goto (-62), 3) := by decide +kernel
theorem dX1_firstTurned_67 : decode cX1_firstTurned 67 = .ok (.iconst (-1), 1) := by decide +kernel
theorem dX1_firstTurned_68 : decode cX1_firstTurned 68 = .ok (.ireturn, 1) := by decide +kernel

theorem dX4_status_147 : decode cX4_status 147 = .ok (.iconst (-1), 1) := by decide +kernel
theorem dX4_status_148 : decode cX4_status 148 = .ok (.ireturn, 1) := by decide +kernel
theorem dX4_refuse_0 : decode cX4_refuse 0 = .ok (.bipush (-2), 2) := by decide +kernel
theorem dX4_refuse_2 : decode cX4_refuse 2 = .ok (.iload_n 1, 1) := by decide +kernel
theorem dX4_refuse_3 : decode cX4_refuse 3 = .ok (.isub, 1) := by decide +kernel
theorem dX4_refuse_4 : decode cX4_refuse 4 = .ok (.istore_n 2, 1) := by decide +kernel
theorem dX4_refuse_5 : decode cX4_refuse 5 = .ok (.iload_n 2, 1) := by decide +kernel
theorem dX4_refuse_6 : decode cX4_refuse 6 = .ok (.iconst 0, 1) := by decide +kernel
theorem dX4_refuse_7 : decode cX4_refuse 7 = .ok (.iconst 4, 1) := by decide +kernel
theorem dX4_refuse_8 : decode cX4_refuse 8 = .ok (.invokestatic 62, 3) := by decide +kernel
theorem dX4_refuse_11 : decode cX4_refuse 11 = .ok (.ifCond .eq 13, 3) := by decide +kernel
theorem dX4_refuse_14 : decode cX4_refuse 14 = .ok (.aload_n 0, 1) := by decide +kernel
theorem dX4_refuse_15 : decode cX4_refuse 15 = .ok (.getfield 51, 3) := by decide +kernel
theorem dX4_refuse_18 : decode cX4_refuse 18 = .ok (.iload_n 2, 1) := by decide +kernel
theorem dX4_refuse_19 : decode cX4_refuse 19 = .ok (.dup2, 1) := by decide +kernel
theorem dX4_refuse_20 : decode cX4_refuse 20 = .ok (.iaload, 1) := by decide +kernel
theorem dX4_refuse_21 : decode cX4_refuse 21 = .ok (.iconst 1, 1) := by decide +kernel
theorem dX4_refuse_22 : decode cX4_refuse 22 = .ok (.iadd, 1) := by decide +kernel
theorem dX4_refuse_23 : decode cX4_refuse 23 = .ok (.iastore, 1) := by decide +kernel
theorem dX4_refuse_24 : decode cX4_refuse 24 = .ok (.iload_n 1, 1) := by decide +kernel
theorem dX4_refuse_25 : decode cX4_refuse 25 = .ok (.ireturn, 1) := by decide +kernel
theorem dX4_isWithin_0 : decode cX4_isWithin 0 = .ok (.iload_n 0, 1) := by decide +kernel
theorem dX4_isWithin_1 : decode cX4_isWithin 1 = .ok (.iload_n 1, 1) := by decide +kernel
theorem dX4_isWithin_2 : decode cX4_isWithin 2 = .ok (.if_icmp .lt 12, 3) := by decide +kernel
theorem dX4_isWithin_5 : decode cX4_isWithin 5 = .ok (.iload_n 0, 1) := by decide +kernel
theorem dX4_isWithin_6 : decode cX4_isWithin 6 = .ok (.iload_n 2, 1) := by decide +kernel
theorem dX4_isWithin_7 : decode cX4_isWithin 7 = .ok (.if_icmp .gt 7, 3) := by decide +kernel
theorem dX4_isWithin_10 : decode cX4_isWithin 10 = .ok (.iconst 1, 1) := by decide +kernel
theorem dX4_isWithin_11 : decode cX4_isWithin 11 = .ok (.goto 4, 3) := by decide +kernel
theorem dX4_isWithin_14 : decode cX4_isWithin 14 = .ok (.iconst 0, 1) := by decide +kernel
theorem dX4_isWithin_15 : decode cX4_isWithin 15 = .ok (.ireturn, 1) := by decide +kernel
theorem dX4_isPart_0 : decode cX4_isPart 0 = .ok (.iload_n 1, 1) := by decide +kernel
theorem dX4_isPart_1 : decode cX4_isPart 1 = .ok (.ifCond .lt 23, 3) := by decide +kernel
theorem dX4_isPart_4 : decode cX4_isPart 4 = .ok (.iload_n 0, 1) := by decide +kernel
theorem dX4_isPart_5 : decode cX4_isPart 5 = .ok (.ifCond .lt 19, 3) := by decide +kernel
theorem dX4_isPart_8 : decode cX4_isPart 8 = .ok (.iload_n 0, 1) := by decide +kernel
theorem dX4_isPart_9 : decode cX4_isPart 9 = .ok (.iload_n 2, 1) := by decide +kernel
theorem dX4_isPart_10 : decode cX4_isPart 10 = .ok (.if_icmp .gt 14, 3) := by decide +kernel
theorem dX4_isPart_13 : decode cX4_isPart 13 = .ok (.iload_n 1, 1) := by decide +kernel
theorem dX4_isPart_14 : decode cX4_isPart 14 = .ok (.iload_n 2, 1) := by decide +kernel
theorem dX4_isPart_15 : decode cX4_isPart 15 = .ok (.iload_n 0, 1) := by decide +kernel
theorem dX4_isPart_16 : decode cX4_isPart 16 = .ok (.isub, 1) := by decide +kernel
theorem dX4_isPart_17 : decode cX4_isPart 17 = .ok (.if_icmp .gt 7, 3) := by decide +kernel
theorem dX4_isPart_20 : decode cX4_isPart 20 = .ok (.iconst 1, 1) := by decide +kernel
theorem dX4_isPart_21 : decode cX4_isPart 21 = .ok (.goto 4, 3) := by decide +kernel
theorem dX4_isPart_24 : decode cX4_isPart 24 = .ok (.iconst 0, 1) := by decide +kernel
theorem dX4_isPart_25 : decode cX4_isPart 25 = .ok (.ireturn, 1) := by decide +kernel
theorem dX4_isShelf_0 : decode cX4_isShelf 0 = .ok (.iload_n 0, 1) := by decide +kernel
theorem dX4_isShelf_1 : decode cX4_isShelf 1 = .ok (.ifCond .lt 13, 3) := by decide +kernel
theorem dX4_isShelf_4 : decode cX4_isShelf 4 = .ok (.iload_n 0, 1) := by decide +kernel
theorem dX4_isShelf_5 : decode cX4_isShelf 5 = .ok (.bipush 8, 2) := by decide +kernel
theorem dX4_isShelf_7 : decode cX4_isShelf 7 = .ok (.if_icmp .ge 7, 3) := by decide +kernel
theorem dX4_isShelf_10 : decode cX4_isShelf 10 = .ok (.iconst 1, 1) := by decide +kernel
theorem dX4_isShelf_11 : decode cX4_isShelf 11 = .ok (.goto 4, 3) := by decide +kernel
theorem dX4_isShelf_14 : decode cX4_isShelf 14 = .ok (.iconst 0, 1) := by decide +kernel
theorem dX4_isShelf_15 : decode cX4_isShelf 15 = .ok (.ireturn, 1) := by decide +kernel
theorem dX4_isFeet_0 : decode cX4_isFeet 0 = .ok (.iload_n 1, 1) := by decide +kernel
theorem dX4_isFeet_1 : decode cX4_isFeet 1 = .ok (.iconst 0, 1) := by decide +kernel
theorem dX4_isFeet_2 : decode cX4_isFeet 2 = .ok (.aload_n 0, 1) := by decide +kernel
theorem dX4_isFeet_3 : decode cX4_isFeet 3 = .ok (.getfield 10, 3) := by decide +kernel
theorem dX4_isFeet_6 : decode cX4_isFeet 6 = .ok (.invokevirtual 249, 3) := by decide +kernel
theorem dX4_isFeet_9 : decode cX4_isFeet 9 = .ok (.iconst 1, 1) := by decide +kernel
theorem dX4_isFeet_10 : decode cX4_isFeet 10 = .ok (.isub, 1) := by decide +kernel
theorem dX4_isFeet_11 : decode cX4_isFeet 11 = .ok (.invokestatic 62, 3) := by decide +kernel
theorem dX4_isFeet_14 : decode cX4_isFeet 14 = .ok (.ireturn, 1) := by decide +kernel
theorem dX4_isPair_0 : decode cX4_isPair 0 = .ok (.aload_n 0, 1) := by decide +kernel
theorem dX4_isPair_1 : decode cX4_isPair 1 = .ok (.iload_n 1, 1) := by decide +kernel
theorem dX4_isPair_2 : decode cX4_isPair 2 = .ok (.invokevirtual 102, 3) := by decide +kernel
theorem dX4_isPair_5 : decode cX4_isPair 5 = .ok (.ifCond .eq 20, 3) := by decide +kernel
theorem dX4_isPair_8 : decode cX4_isPair 8 = .ok (.aload_n 0, 1) := by decide +kernel
theorem dX4_isPair_9 : decode cX4_isPair 9 = .ok (.iload_n 2, 1) := by decide +kernel
theorem dX4_isPair_10 : decode cX4_isPair 10 = .ok (.invokevirtual 102, 3) := by decide +kernel
theorem dX4_isPair_13 : decode cX4_isPair 13 = .ok (.ifCond .eq 12, 3) := by decide +kernel
theorem dX4_isPair_16 : decode cX4_isPair 16 = .ok (.iload_n 1, 1) := by decide +kernel
theorem dX4_isPair_17 : decode cX4_isPair 17 = .ok (.iload_n 2, 1) := by decide +kernel
theorem dX4_isPair_18 : decode cX4_isPair 18 = .ok (.if_icmp .eq 7, 3) := by decide +kernel
theorem dX4_isPair_21 : decode cX4_isPair 21 = .ok (.iconst 1, 1) := by decide +kernel
theorem dX4_isPair_22 : decode cX4_isPair 22 = .ok (.goto 4, 3) := by decide +kernel
theorem dX4_isPair_25 : decode cX4_isPair 25 = .ok (.iconst 0, 1) := by decide +kernel
theorem dX4_isPair_26 : decode cX4_isPair 26 = .ok (.ireturn, 1) := by decide +kernel
theorem dX4_isCell_0 : decode cX4_isCell 0 = .ok (.iload_n 1, 1) := by decide +kernel
theorem dX4_isCell_1 : decode cX4_isCell 1 = .ok (.iconst 0, 1) := by decide +kernel
theorem dX4_isCell_2 : decode cX4_isCell 2 = .ok (.aload_n 0, 1) := by decide +kernel
theorem dX4_isCell_3 : decode cX4_isCell 3 = .ok (.getfield 10, 3) := by decide +kernel
theorem dX4_isCell_6 : decode cX4_isCell 6 = .ok (.invokevirtual 199, 3) := by decide +kernel
theorem dX4_isCell_9 : decode cX4_isCell 9 = .ok (.iconst 1, 1) := by decide +kernel
theorem dX4_isCell_10 : decode cX4_isCell 10 = .ok (.isub, 1) := by decide +kernel
theorem dX4_isCell_11 : decode cX4_isCell 11 = .ok (.invokestatic 62, 3) := by decide +kernel
theorem dX4_isCell_14 : decode cX4_isCell 14 = .ok (.ireturn, 1) := by decide +kernel
theorem dX4_isColumn_0 : decode cX4_isColumn 0 = .ok (.iload_n 1, 1) := by decide +kernel
theorem dX4_isColumn_1 : decode cX4_isColumn 1 = .ok (.iconst 0, 1) := by decide +kernel
theorem dX4_isColumn_2 : decode cX4_isColumn 2 = .ok (.aload_n 0, 1) := by decide +kernel
theorem dX4_isColumn_3 : decode cX4_isColumn 3 = .ok (.getfield 10, 3) := by decide +kernel
theorem dX4_isColumn_6 : decode cX4_isColumn 6 = .ok (.getfield 123, 3) := by decide +kernel
theorem dX4_isColumn_9 : decode cX4_isColumn 9 = .ok (.iconst 1, 1) := by decide +kernel
theorem dX4_isColumn_10 : decode cX4_isColumn 10 = .ok (.isub, 1) := by decide +kernel
theorem dX4_isColumn_11 : decode cX4_isColumn 11 = .ok (.invokestatic 62, 3) := by decide +kernel
theorem dX4_isColumn_14 : decode cX4_isColumn 14 = .ok (.ireturn, 1) := by decide +kernel
theorem dX4_isStepOrNone_0 : decode cX4_isStepOrNone 0 = .ok (.iload_n 1, 1) := by decide +kernel
theorem dX4_isStepOrNone_1 : decode cX4_isStepOrNone 1 = .ok (.iconst (-1), 1) := by decide +kernel
theorem dX4_isStepOrNone_2 : decode cX4_isStepOrNone 2 = .ok (.aload_n 0, 1) := by decide +kernel
theorem dX4_isStepOrNone_3 : decode cX4_isStepOrNone 3 = .ok (.getfield 10, 3) := by decide +kernel
theorem dX4_isStepOrNone_6 : decode cX4_isStepOrNone 6 = .ok (.getfield 123, 3) := by decide +kernel
theorem dX4_isStepOrNone_9 : decode cX4_isStepOrNone 9 = .ok (.iconst 1, 1) := by decide +kernel
theorem dX4_isStepOrNone_10 : decode cX4_isStepOrNone 10 = .ok (.isub, 1) := by decide +kernel
theorem dX4_isStepOrNone_11 : decode cX4_isStepOrNone 11 = .ok (.invokestatic 62, 3) := by decide +kernel
theorem dX4_isStepOrNone_14 : decode cX4_isStepOrNone 14 = .ok (.ireturn, 1) := by decide +kernel
theorem dX4_isOfKind_0 : decode cX4_isOfKind 0 = .ok (.iload_n 0, 1) := by decide +kernel
theorem dX4_isOfKind_1 : decode cX4_isOfKind 1 = .ok (.istore_n 2, 1) := by decide +kernel
theorem dX4_isOfKind_2 : decode cX4_isOfKind 2 = .ok (.iconst 0, 1) := by decide +kernel
theorem dX4_isOfKind_3 : decode cX4_isOfKind 3 = .ok (.istore_n 3, 1) := by decide +kernel
theorem dX4_isOfKind_4 : decode cX4_isOfKind 4 = .ok (.iload_n 3, 1) := by decide +kernel
theorem dX4_isOfKind_5 : decode cX4_isOfKind 5 = .ok (.bipush 6, 2) := by decide +kernel
theorem dX4_isOfKind_7 : decode cX4_isOfKind 7 = .ok (.if_icmp .ge 31, 3) := by decide +kernel
theorem dX4_isOfKind_10 : decode cX4_isOfKind 10 = .ok (.iload_n 2, 1) := by decide +kernel
theorem dX4_isOfKind_11 : decode cX4_isOfKind 11 = .ok (.iconst 0, 1) := by decide +kernel
theorem dX4_isOfKind_12 : decode cX4_isOfKind 12 = .ok (.iconst 5, 1) := by decide +kernel
theorem dX4_isOfKind_13 : decode cX4_isOfKind 13 = .ok (.invokestatic 62, 3) := by decide +kernel
theorem dX4_isOfKind_16 : decode cX4_isOfKind 16 = .ok (.ifCond .eq 22, 3) := by decide +kernel
theorem dX4_isOfKind_19 : decode cX4_isOfKind 19 = .ok (.iload_n 2, 1) := by decide +kernel
theorem dX4_isOfKind_20 : decode cX4_isOfKind 20 = .ok (.iload_n 1, 1) := by decide +kernel
theorem dX4_isOfKind_21 : decode cX4_isOfKind 21 = .ok (.if_icmp .ne 5, 3) := by decide +kernel
theorem dX4_isOfKind_24 : decode cX4_isOfKind 24 = .ok (.iconst 1, 1) := by decide +kernel
theorem dX4_isOfKind_25 : decode cX4_isOfKind 25 = .ok (.ireturn, 1) := by decide +kernel
theorem dX4_isOfKind_26 : decode cX4_isOfKind 26 = .ok (.getstatic 349, 3) := by decide +kernel
theorem dX4_isOfKind_29 : decode cX4_isOfKind 29 = .ok (.iload_n 2, 1) := by decide +kernel
theorem dX4_isOfKind_30 : decode cX4_isOfKind 30 = .ok (.iaload, 1) := by decide +kernel
theorem dX4_isOfKind_31 : decode cX4_isOfKind 31 = .ok (.istore_n 2, 1) := by decide +kernel
theorem dX4_isOfKind_32 : decode cX4_isOfKind 32 = .ok (.iinc 3 1, 3) := by decide +kernel
theorem dX4_isOfKind_35 : decode cX4_isOfKind 35 = .ok (.goto (-31), 3) := by decide +kernel
theorem dX4_isOfKind_38 : decode cX4_isOfKind 38 = .ok (.iconst 0, 1) := by decide +kernel
theorem dX4_isOfKind_39 : decode cX4_isOfKind 39 = .ok (.ireturn, 1) := by decide +kernel
theorem dX4_whyNoRowOf_0 : decode cX4_whyNoRowOf 0 = .ok (.aload_n 0, 1) := by decide +kernel
theorem dX4_whyNoRowOf_1 : decode cX4_whyNoRowOf 1 = .ok (.getfield 25, 3) := by decide +kernel
theorem dX4_whyNoRowOf_4 : decode cX4_whyNoRowOf 4 = .ok (.iload_n 1, 1) := by decide +kernel
theorem dX4_whyNoRowOf_5 : decode cX4_whyNoRowOf 5 = .ok (.invokevirtual 74, 3) := by decide +kernel
theorem dX4_whyNoRowOf_8 : decode cX4_whyNoRowOf 8 = .ok (.istore_n 3, 1) := by decide +kernel
theorem dX4_whyNoRowOf_9 : decode cX4_whyNoRowOf 9 = .ok (.iload_n 3, 1) := by decide +kernel
theorem dX4_whyNoRowOf_10 : decode cX4_whyNoRowOf 10 = .ok (.ifCond .eq 5, 3) := by decide +kernel
theorem dX4_whyNoRowOf_13 : decode cX4_whyNoRowOf 13 = .ok (.iload_n 3, 1) := by decide +kernel
theorem dX4_whyNoRowOf_14 : decode cX4_whyNoRowOf 14 = .ok (.ireturn, 1) := by decide +kernel
theorem dX4_whyNoRowOf_15 : decode cX4_whyNoRowOf 15 = .ok (.aload_n 0, 1) := by decide +kernel
theorem dX4_whyNoRowOf_16 : decode cX4_whyNoRowOf 16 = .ok (.getfield 25, 3) := by decide +kernel
theorem dX4_whyNoRowOf_19 : decode cX4_whyNoRowOf 19 = .ok (.iload_n 1, 1) := by decide +kernel
theorem dX4_whyNoRowOf_20 : decode cX4_whyNoRowOf 20 = .ok (.invokevirtual 77, 3) := by decide +kernel
theorem dX4_whyNoRowOf_23 : decode cX4_whyNoRowOf 23 = .ok (.iload_n 2, 1) := by decide +kernel
theorem dX4_whyNoRowOf_24 : decode cX4_whyNoRowOf 24 = .ok (.if_icmp .ge 8, 3) := by decide +kernel
theorem dX4_whyNoRowOf_27 : decode cX4_whyNoRowOf 27 = .ok (.bipush (-2), 2) := by decide +kernel
theorem dX4_whyNoRowOf_29 : decode cX4_whyNoRowOf 29 = .ok (.goto 4, 3) := by decide +kernel
theorem dX4_whyNoRowOf_32 : decode cX4_whyNoRowOf 32 = .ok (.iconst 0, 1) := by decide +kernel
theorem dX4_whyNoRowOf_33 : decode cX4_whyNoRowOf 33 = .ok (.ireturn, 1) := by decide +kernel
theorem dX4_whyNoWay_0 : decode cX4_whyNoWay 0 = .ok (.aload_n 0, 1) := by decide +kernel
theorem dX4_whyNoWay_1 : decode cX4_whyNoWay 1 = .ok (.iload_n 1, 1) := by decide +kernel
theorem dX4_whyNoWay_2 : decode cX4_whyNoWay 2 = .ok (.iload_n 2, 1) := by decide +kernel
theorem dX4_whyNoWay_3 : decode cX4_whyNoWay 3 = .ok (.invokevirtual 267, 3) := by decide +kernel
theorem dX4_whyNoWay_6 : decode cX4_whyNoWay 6 = .ok (.istore_n 3, 1) := by decide +kernel
theorem dX4_whyNoWay_7 : decode cX4_whyNoWay 7 = .ok (.iload_n 3, 1) := by decide +kernel
theorem dX4_whyNoWay_8 : decode cX4_whyNoWay 8 = .ok (.ifCond .eq 5, 3) := by decide +kernel
theorem dX4_whyNoWay_11 : decode cX4_whyNoWay 11 = .ok (.iload_n 3, 1) := by decide +kernel
theorem dX4_whyNoWay_12 : decode cX4_whyNoWay 12 = .ok (.ireturn, 1) := by decide +kernel
theorem dX4_whyNoWay_13 : decode cX4_whyNoWay 13 = .ok (.aload_n 0, 1) := by decide +kernel
theorem dX4_whyNoWay_14 : decode cX4_whyNoWay 14 = .ok (.iload_n 1, 1) := by decide +kernel
theorem dX4_whyNoWay_15 : decode cX4_whyNoWay 15 = .ok (.iload_n 2, 1) := by decide +kernel
theorem dX4_whyNoWay_16 : decode cX4_whyNoWay 16 = .ok (.invokevirtual 305, 3) := by decide +kernel
theorem dX4_whyNoWay_19 : decode cX4_whyNoWay 19 = .ok (.iconst (-1), 1) := by decide +kernel
theorem dX4_whyNoWay_20 : decode cX4_whyNoWay 20 = .ok (.if_icmp .ne 7, 3) := by decide +kernel
theorem dX4_whyNoWay_23 : decode cX4_whyNoWay 23 = .ok (.iconst 0, 1) := by decide +kernel
theorem dX4_whyNoWay_24 : decode cX4_whyNoWay 24 = .ok (.goto 5, 3) := by decide +kernel
theorem dX4_whyNoWay_27 : decode cX4_whyNoWay 27 = .ok (.bipush (-5), 2) := by decide +kernel
theorem dX4_whyNoWay_29 : decode cX4_whyNoWay 29 = .ok (.ireturn, 1) := by decide +kernel
theorem dX4_thousandths_0 : decode cX4_thousandths 0 = .ok (.iload_n 1, 1) := by decide +kernel
theorem dX4_thousandths_1 : decode cX4_thousandths 1 = .ok (.ifCond .le 13, 3) := by decide +kernel
theorem dX4_thousandths_4 : decode cX4_thousandths 4 = .ok (.sipush 1000, 3) := by decide +kernel
theorem dX4_thousandths_7 : decode cX4_thousandths 7 = .ok (.iload_n 0, 1) := by decide +kernel
theorem dX4_thousandths_8 : decode cX4_thousandths 8 = .ok (.imul, 1) := by decide +kernel
theorem dX4_thousandths_9 : decode cX4_thousandths 9 = .ok (.iload_n 1, 1) := by decide +kernel
theorem dX4_thousandths_10 : decode cX4_thousandths 10 = .ok (.idiv, 1) := by decide +kernel
theorem dX4_thousandths_11 : decode cX4_thousandths 11 = .ok (.goto 4, 3) := by decide +kernel
theorem dX4_thousandths_14 : decode cX4_thousandths 14 = .ok (.iconst 0, 1) := by decide +kernel
theorem dX4_thousandths_15 : decode cX4_thousandths 15 = .ok (.ireturn, 1) := by decide +kernel
theorem dX4_layNothing_0 : decode cX4_layNothing 0 = .ok (.aload_n 0, 1) := by decide +kernel
theorem dX4_layNothing_1 : decode cX4_layNothing 1 = .ok (.getfield 39, 3) := by decide +kernel
theorem dX4_layNothing_4 : decode cX4_layNothing 4 = .ok (.aload_n 0, 1) := by decide +kernel
theorem dX4_layNothing_5 : decode cX4_layNothing 5 = .ok (.getfield 10, 3) := by decide +kernel
theorem dX4_layNothing_8 : decode cX4_layNothing 8 = .ok (.getfield 123, 3) := by decide +kernel
theorem dX4_layNothing_11 : decode cX4_layNothing 11 = .ok (.putfield 291, 3) := by decide +kernel
theorem dX4_layNothing_14 : decode cX4_layNothing 14 = .ok (.iconst 0, 1) := by decide +kernel
theorem dX4_layNothing_15 : decode cX4_layNothing 15 = .ok (.istore_n 1, 1) := by decide +kernel
theorem dX4_layNothing_16 : decode cX4_layNothing 16 = .ok (.iload_n 1, 1) := by decide +kernel
theorem dX4_layNothing_17 : decode cX4_layNothing 17 = .ok (.aload_n 0, 1) := by decide +kernel
theorem dX4_layNothing_18 : decode cX4_layNothing 18 = .ok (.getfield 10, 3) := by decide +kernel
theorem dX4_layNothing_21 : decode cX4_layNothing 21 = .ok (.invokevirtual 199, 3) := by decide +kernel
theorem dX4_layNothing_24 : decode cX4_layNothing 24 = .ok (.if_icmp .ge 18, 3) := by decide +kernel
theorem dX4_layNothing_27 : decode cX4_layNothing 27 = .ok (.aload_n 0, 1) := by decide +kernel
theorem dX4_layNothing_28 : decode cX4_layNothing 28 = .ok (.getfield 39, 3) := by decide +kernel
theorem dX4_layNothing_31 : decode cX4_layNothing 31 = .ok (.iload_n 1, 1) := by decide +kernel
theorem dX4_layNothing_32 : decode cX4_layNothing 32 = .ok (.iconst 0, 1) := by decide +kernel
theorem dX4_layNothing_33 : decode cX4_layNothing 33 = .ok (.invokevirtual 231, 3) := by decide +kernel
theorem dX4_layNothing_36 : decode cX4_layNothing 36 = .ok (.iinc 1 1, 3) := by decide +kernel
theorem dX4_layNothing_39 : decode cX4_layNothing 39 = .ok (.goto (-23), 3) := by decide +kernel
theorem dX4_layNothing_42 : decode cX4_layNothing 42 = .ok (.return_, 1) := by decide +kernel
theorem dX4_layCrunches_0 : decode cX4_layCrunches 0 = .ok (.aload_n 0, 1) := by decide +kernel
theorem dX4_layCrunches_1 : decode cX4_layCrunches 1 = .ok (.getfield 39, 3) := by decide +kernel
theorem dX4_layCrunches_4 : decode cX4_layCrunches 4 = .ok (.aload_n 0, 1) := by decide +kernel
theorem dX4_layCrunches_5 : decode cX4_layCrunches 5 = .ok (.getfield 10, 3) := by decide +kernel
theorem dX4_layCrunches_8 : decode cX4_layCrunches 8 = .ok (.getfield 123, 3) := by decide +kernel
theorem dX4_layCrunches_11 : decode cX4_layCrunches 11 = .ok (.putfield 291, 3) := by decide +kernel
theorem dX4_layCrunches_14 : decode cX4_layCrunches 14 = .ok (.iconst 0, 1) := by decide +kernel
theorem dX4_layCrunches_15 : decode cX4_layCrunches 15 = .ok (.istore_n 3, 1) := by decide +kernel
theorem dX4_layCrunches_16 : decode cX4_layCrunches 16 = .ok (.iload_n 3, 1) := by decide +kernel
theorem dX4_layCrunches_17 : decode cX4_layCrunches 17 = .ok (.aload_n 0, 1) := by decide +kernel
theorem dX4_layCrunches_18 : decode cX4_layCrunches 18 = .ok (.getfield 10, 3) := by decide +kernel
theorem dX4_layCrunches_21 : decode cX4_layCrunches 21 = .ok (.invokevirtual 199, 3) := by decide +kernel
theorem dX4_layCrunches_24 : decode cX4_layCrunches 24 = .ok (.if_icmp .ge 28, 3) := by decide +kernel
theorem dX4_layCrunches_27 : decode cX4_layCrunches 27 = .ok (.aload_n 0, 1) := by decide +kernel
theorem dX4_layCrunches_28 : decode cX4_layCrunches 28 = .ok (.getfield 39, 3) := by decide +kernel
theorem dX4_layCrunches_31 : decode cX4_layCrunches 31 = .ok (.iload_n 3, 1) := by decide +kernel
theorem dX4_layCrunches_32 : decode cX4_layCrunches 32 = .ok (.iload_n 2, 1) := by decide +kernel
theorem dX4_layCrunches_33 : decode cX4_layCrunches 33 = .ok (.aload_n 0, 1) := by decide +kernel
theorem dX4_layCrunches_34 : decode cX4_layCrunches 34 = .ok (.getfield 10, 3) := by decide +kernel
theorem dX4_layCrunches_37 : decode cX4_layCrunches 37 = .ok (.iload_n 1, 1) := by decide +kernel
theorem dX4_layCrunches_38 : decode cX4_layCrunches 38 = .ok (.iload_n 3, 1) := by decide +kernel
theorem dX4_layCrunches_39 : decode cX4_layCrunches 39 = .ok (.invokevirtual 247, 3) := by decide +kernel
theorem dX4_layCrunches_42 : decode cX4_layCrunches 42 = .ok (.imul, 1) := by decide +kernel
theorem dX4_layCrunches_43 : decode cX4_layCrunches 43 = .ok (.invokevirtual 231, 3) := by decide +kernel
theorem dX4_layCrunches_46 : decode cX4_layCrunches 46 = .ok (.iinc 3 1, 3) := by decide +kernel
theorem dX4_layCrunches_49 : decode cX4_layCrunches 49 = .ok (.goto (-33), 3) := by decide +kernel
theorem dX4_layCrunches_52 : decode cX4_layCrunches 52 = .ok (.return_, 1) := by decide +kernel
theorem dX4_layHeard_0 : decode cX4_layHeard 0 = .ok (.aload_n 0, 1) := by decide +kernel
theorem dX4_layHeard_1 : decode cX4_layHeard 1 = .ok (.getfield 39, 3) := by decide +kernel
theorem dX4_layHeard_4 : decode cX4_layHeard 4 = .ok (.aload_n 0, 1) := by decide +kernel
theorem dX4_layHeard_5 : decode cX4_layHeard 5 = .ok (.getfield 10, 3) := by decide +kernel
theorem dX4_layHeard_8 : decode cX4_layHeard 8 = .ok (.getfield 123, 3) := by decide +kernel
theorem dX4_layHeard_11 : decode cX4_layHeard 11 = .ok (.putfield 291, 3) := by decide +kernel
theorem dX4_layHeard_14 : decode cX4_layHeard 14 = .ok (.iconst 0, 1) := by decide +kernel
theorem dX4_layHeard_15 : decode cX4_layHeard 15 = .ok (.istore_n 3, 1) := by decide +kernel
theorem dX4_layHeard_16 : decode cX4_layHeard 16 = .ok (.iload_n 3, 1) := by decide +kernel
theorem dX4_layHeard_17 : decode cX4_layHeard 17 = .ok (.aload_n 0, 1) := by decide +kernel
theorem dX4_layHeard_18 : decode cX4_layHeard 18 = .ok (.getfield 10, 3) := by decide +kernel
theorem dX4_layHeard_21 : decode cX4_layHeard 21 = .ok (.invokevirtual 199, 3) := by decide +kernel
theorem dX4_layHeard_24 : decode cX4_layHeard 24 = .ok (.if_icmp .ge 54, 3) := by decide +kernel
theorem dX4_layHeard_27 : decode cX4_layHeard 27 = .ok (.aload_n 0, 1) := by decide +kernel
theorem dX4_layHeard_28 : decode cX4_layHeard 28 = .ok (.getfield 10, 3) := by decide +kernel
theorem dX4_layHeard_31 : decode cX4_layHeard 31 = .ok (.iload_n 1, 1) := by decide +kernel
theorem dX4_layHeard_32 : decode cX4_layHeard 32 = .ok (.iload_n 3, 1) := by decide +kernel
theorem dX4_layHeard_33 : decode cX4_layHeard 33 = .ok (.aload_n 0, 1) := by decide +kernel
theorem dX4_layHeard_34 : decode cX4_layHeard 34 = .ok (.getfield 10, 3) := by decide +kernel
theorem dX4_layHeard_37 : decode cX4_layHeard 37 = .ok (.iload_n 3, 1) := by decide +kernel
theorem dX4_layHeard_38 : decode cX4_layHeard 38 = .ok (.invokevirtual 292, 3) := by decide +kernel
theorem dX4_layHeard_41 : decode cX4_layHeard 41 = .ok (.iload_n 2, 1) := by decide +kernel
theorem dX4_layHeard_42 : decode cX4_layHeard 42 = .ok (.invokevirtual 352, 3) := by decide +kernel
theorem dX4_layHeard_45 : decode cX4_layHeard 45 = .ok (.istore 4, 2) := by decide +kernel
theorem dX4_layHeard_47 : decode cX4_layHeard 47 = .ok (.aload_n 0, 1) := by decide +kernel
theorem dX4_layHeard_48 : decode cX4_layHeard 48 = .ok (.getfield 39, 3) := by decide +kernel
theorem dX4_layHeard_51 : decode cX4_layHeard 51 = .ok (.iload_n 3, 1) := by decide +kernel
theorem dX4_layHeard_52 : decode cX4_layHeard 52 = .ok (.iload 4, 2) := by decide +kernel
theorem dX4_layHeard_54 : decode cX4_layHeard 54 = .ok (.aload_n 0, 1) := by decide +kernel
theorem dX4_layHeard_55 : decode cX4_layHeard 55 = .ok (.getfield 10, 3) := by decide +kernel
theorem dX4_layHeard_58 : decode cX4_layHeard 58 = .ok (.getfield 143, 3) := by decide +kernel
theorem dX4_layHeard_61 : decode cX4_layHeard 61 = .ok (.if_icmp .lt 7, 3) := by decide +kernel
theorem dX4_layHeard_64 : decode cX4_layHeard 64 = .ok (.iconst 1, 1) := by decide +kernel
theorem dX4_layHeard_65 : decode cX4_layHeard 65 = .ok (.goto 4, 3) := by decide +kernel
theorem dX4_layHeard_68 : decode cX4_layHeard 68 = .ok (.iconst 0, 1) := by decide +kernel
theorem dX4_layHeard_69 : decode cX4_layHeard 69 = .ok (.invokevirtual 231, 3) := by decide +kernel
theorem dX4_layHeard_72 : decode cX4_layHeard 72 = .ok (.iinc 3 1, 3) := by decide +kernel
theorem dX4_layHeard_75 : decode cX4_layHeard 75 = .ok (.goto (-59), 3) := by decide +kernel
theorem dX4_layHeard_78 : decode cX4_layHeard 78 = .ok (.return_, 1) := by decide +kernel
theorem dX4_leastOf_0 : decode cX4_leastOf 0 = .ok (.aload_n 0, 1) := by decide +kernel
theorem dX4_leastOf_1 : decode cX4_leastOf 1 = .ok (.iload_n 1, 1) := by decide +kernel
theorem dX4_leastOf_2 : decode cX4_leastOf 2 = .ok (.iconst 1, 1) := by decide +kernel
theorem dX4_leastOf_3 : decode cX4_leastOf 3 = .ok (.invokevirtual 184, 3) := by decide +kernel
theorem dX4_leastOf_6 : decode cX4_leastOf 6 = .ok (.aload_n 0, 1) := by decide +kernel
theorem dX4_leastOf_7 : decode cX4_leastOf 7 = .ok (.getfield 39, 3) := by decide +kernel
theorem dX4_leastOf_10 : decode cX4_leastOf 10 = .ok (.invokevirtual 219, 3) := by decide +kernel
theorem dX4_leastOf_13 : decode cX4_leastOf 13 = .ok (.ireturn, 1) := by decide +kernel
theorem dX4_toldOfOpenWays_0 : decode cX4_toldOfOpenWays 0 = .ok (.iload_n 1, 1) := by decide +kernel
theorem dX4_toldOfOpenWays_1 : decode cX4_toldOfOpenWays 1 = .ok (.iconst (-1), 1) := by decide +kernel
theorem dX4_toldOfOpenWays_2 : decode cX4_toldOfOpenWays 2 = .ok (.if_icmp .ne 11, 3) := by decide +kernel
theorem dX4_toldOfOpenWays_5 : decode cX4_toldOfOpenWays 5 = .ok (.aload_n 0, 1) := by decide +kernel
theorem dX4_toldOfOpenWays_6 : decode cX4_toldOfOpenWays 6 = .ok (.getfield 39, 3) := by decide +kernel
theorem dX4_toldOfOpenWays_9 : decode cX4_toldOfOpenWays 9 = .ok (.invokevirtual 225, 3) := by decide +kernel
theorem dX4_toldOfOpenWays_12 : decode cX4_toldOfOpenWays 12 = .ok (.ireturn, 1) := by decide +kernel
theorem dX4_toldOfOpenWays_13 : decode cX4_toldOfOpenWays 13 = .ok (.aload_n 0, 1) := by decide +kernel
theorem dX4_toldOfOpenWays_14 : decode cX4_toldOfOpenWays 14 = .ok (.getfield 39, 3) := by decide +kernel
theorem dX4_toldOfOpenWays_17 : decode cX4_toldOfOpenWays 17 = .ok (.invokevirtual 219, 3) := by decide +kernel
theorem dX4_toldOfOpenWays_20 : decode cX4_toldOfOpenWays 20 = .ok (.ifCond .ne 14, 3) := by decide +kernel
theorem dX4_toldOfOpenWays_23 : decode cX4_toldOfOpenWays 23 = .ok (.aload_n 0, 1) := by decide +kernel
theorem dX4_toldOfOpenWays_24 : decode cX4_toldOfOpenWays 24 = .ok (.getfield 39, 3) := by decide +kernel
theorem dX4_toldOfOpenWays_27 : decode cX4_toldOfOpenWays 27 = .ok (.iload_n 1, 1) := by decide +kernel
theorem dX4_toldOfOpenWays_28 : decode cX4_toldOfOpenWays 28 = .ok (.invokevirtual 181, 3) := by decide +kernel
theorem dX4_toldOfOpenWays_31 : decode cX4_toldOfOpenWays 31 = .ok (.goto 9, 3) := by decide +kernel
theorem dX4_toldOfOpenWays_34 : decode cX4_toldOfOpenWays 34 = .ok (.aload_n 0, 1) := by decide +kernel
theorem dX4_toldOfOpenWays_35 : decode cX4_toldOfOpenWays 35 = .ok (.bipush (-5), 2) := by decide +kernel
theorem dX4_toldOfOpenWays_37 : decode cX4_toldOfOpenWays 37 = .ok (.invokevirtual 66, 3) := by decide +kernel
theorem dX4_toldOfOpenWays_40 : decode cX4_toldOfOpenWays 40 = .ok (.ireturn, 1) := by decide +kernel
theorem dX4_toldOfFewest_0 : decode cX4_toldOfFewest 0 = .ok (.iload_n 2, 1) := by decide +kernel
theorem dX4_toldOfFewest_1 : decode cX4_toldOfFewest 1 = .ok (.iconst (-1), 1) := by decide +kernel
theorem dX4_toldOfFewest_2 : decode cX4_toldOfFewest 2 = .ok (.if_icmp .ne 5, 3) := by decide +kernel
theorem dX4_toldOfFewest_5 : decode cX4_toldOfFewest 5 = .ok (.iload_n 1, 1) := by decide +kernel
theorem dX4_toldOfFewest_6 : decode cX4_toldOfFewest 6 = .ok (.ireturn, 1) := by decide +kernel
theorem dX4_toldOfFewest_7 : decode cX4_toldOfFewest 7 = .ok (.iload_n 2, 1) := by decide +kernel
theorem dX4_toldOfFewest_8 : decode cX4_toldOfFewest 8 = .ok (.iload_n 1, 1) := by decide +kernel
theorem dX4_toldOfFewest_9 : decode cX4_toldOfFewest 9 = .ok (.if_icmp .ge 14, 3) := by decide +kernel
theorem dX4_toldOfFewest_12 : decode cX4_toldOfFewest 12 = .ok (.aload_n 0, 1) := by decide +kernel
theorem dX4_toldOfFewest_13 : decode cX4_toldOfFewest 13 = .ok (.getfield 39, 3) := by decide +kernel
theorem dX4_toldOfFewest_16 : decode cX4_toldOfFewest 16 = .ok (.iload_n 2, 1) := by decide +kernel
theorem dX4_toldOfFewest_17 : decode cX4_toldOfFewest 17 = .ok (.invokevirtual 356, 3) := by decide +kernel
theorem dX4_toldOfFewest_20 : decode cX4_toldOfFewest 20 = .ok (.goto 9, 3) := by decide +kernel
theorem dX4_toldOfFewest_23 : decode cX4_toldOfFewest 23 = .ok (.aload_n 0, 1) := by decide +kernel
theorem dX4_toldOfFewest_24 : decode cX4_toldOfFewest 24 = .ok (.bipush (-5), 2) := by decide +kernel
theorem dX4_toldOfFewest_26 : decode cX4_toldOfFewest 26 = .ok (.invokevirtual 66, 3) := by decide +kernel
theorem dX4_toldOfFewest_29 : decode cX4_toldOfFewest 29 = .ok (.ireturn, 1) := by decide +kernel
theorem dX4_placeOf_0 : decode cX4_placeOf 0 = .ok (.iconst 0, 1) := by decide +kernel
theorem dX4_placeOf_1 : decode cX4_placeOf 1 = .ok (.istore_n 2, 1) := by decide +kernel
theorem dX4_placeOf_2 : decode cX4_placeOf 2 = .ok (.iconst 0, 1) := by decide +kernel
theorem dX4_placeOf_3 : decode cX4_placeOf 3 = .ok (.istore_n 3, 1) := by decide +kernel
theorem dX4_placeOf_4 : decode cX4_placeOf 4 = .ok (.iload_n 3, 1) := by decide +kernel
theorem dX4_placeOf_5 : decode cX4_placeOf 5 = .ok (.aload_n 0, 1) := by decide +kernel
theorem dX4_placeOf_6 : decode cX4_placeOf 6 = .ok (.getfield 10, 3) := by decide +kernel
theorem dX4_placeOf_9 : decode cX4_placeOf 9 = .ok (.invokevirtual 249, 3) := by decide +kernel
theorem dX4_placeOf_12 : decode cX4_placeOf 12 = .ok (.if_icmp .ge 47, 3) := by decide +kernel
theorem dX4_placeOf_15 : decode cX4_placeOf 15 = .ok (.aload_n 0, 1) := by decide +kernel
theorem dX4_placeOf_16 : decode cX4_placeOf 16 = .ok (.getfield 47, 3) := by decide +kernel
theorem dX4_placeOf_19 : decode cX4_placeOf 19 = .ok (.iload_n 3, 1) := by decide +kernel
theorem dX4_placeOf_20 : decode cX4_placeOf 20 = .ok (.iaload, 1) := by decide +kernel
theorem dX4_placeOf_21 : decode cX4_placeOf 21 = .ok (.aload_n 0, 1) := by decide +kernel
theorem dX4_placeOf_22 : decode cX4_placeOf 22 = .ok (.getfield 47, 3) := by decide +kernel
theorem dX4_placeOf_25 : decode cX4_placeOf 25 = .ok (.iload_n 1, 1) := by decide +kernel
theorem dX4_placeOf_26 : decode cX4_placeOf 26 = .ok (.iaload, 1) := by decide +kernel
theorem dX4_placeOf_27 : decode cX4_placeOf 27 = .ok (.if_icmp .lt 23, 3) := by decide +kernel
theorem dX4_placeOf_30 : decode cX4_placeOf 30 = .ok (.aload_n 0, 1) := by decide +kernel
theorem dX4_placeOf_31 : decode cX4_placeOf 31 = .ok (.getfield 47, 3) := by decide +kernel
theorem dX4_placeOf_34 : decode cX4_placeOf 34 = .ok (.iload_n 3, 1) := by decide +kernel
theorem dX4_placeOf_35 : decode cX4_placeOf 35 = .ok (.iaload, 1) := by decide +kernel
theorem dX4_placeOf_36 : decode cX4_placeOf 36 = .ok (.aload_n 0, 1) := by decide +kernel
theorem dX4_placeOf_37 : decode cX4_placeOf 37 = .ok (.getfield 47, 3) := by decide +kernel
theorem dX4_placeOf_40 : decode cX4_placeOf 40 = .ok (.iload_n 1, 1) := by decide +kernel
theorem dX4_placeOf_41 : decode cX4_placeOf 41 = .ok (.iaload, 1) := by decide +kernel
theorem dX4_placeOf_42 : decode cX4_placeOf 42 = .ok (.if_icmp .ne 11, 3) := by decide +kernel
theorem dX4_placeOf_45 : decode cX4_placeOf 45 = .ok (.iload_n 3, 1) := by decide +kernel
theorem dX4_placeOf_46 : decode cX4_placeOf 46 = .ok (.iload_n 1, 1) := by decide +kernel
theorem dX4_placeOf_47 : decode cX4_placeOf 47 = .ok (.if_icmp .ge 6, 3) := by decide +kernel
theorem dX4_placeOf_50 : decode cX4_placeOf 50 = .ok (.iinc 2 1, 3) := by decide +kernel
theorem dX4_placeOf_53 : decode cX4_placeOf 53 = .ok (.iinc 3 1, 3) := by decide +kernel
theorem dX4_placeOf_56 : decode cX4_placeOf 56 = .ok (.goto (-52), 3) := by decide +kernel
theorem dX4_placeOf_59 : decode cX4_placeOf 59 = .ok (.iload_n 2, 1) := by decide +kernel
theorem dX4_placeOf_60 : decode cX4_placeOf 60 = .ok (.ireturn, 1) := by decide +kernel
theorem dX4_listen_0 : decode cX4_listen 0 = .ok (.iconst 0, 1) := by decide +kernel
theorem dX4_listen_1 : decode cX4_listen 1 = .ok (.istore_n 3, 1) := by decide +kernel
theorem dX4_listen_2 : decode cX4_listen 2 = .ok (.iload_n 3, 1) := by decide +kernel
theorem dX4_listen_3 : decode cX4_listen 3 = .ok (.aload_n 0, 1) := by decide +kernel
theorem dX4_listen_4 : decode cX4_listen 4 = .ok (.getfield 10, 3) := by decide +kernel
theorem dX4_listen_7 : decode cX4_listen 7 = .ok (.invokevirtual 249, 3) := by decide +kernel
theorem dX4_listen_10 : decode cX4_listen 10 = .ok (.if_icmp .ge 25, 3) := by decide +kernel
theorem dX4_listen_13 : decode cX4_listen 13 = .ok (.aload_n 0, 1) := by decide +kernel
theorem dX4_listen_14 : decode cX4_listen 14 = .ok (.getfield 43, 3) := by decide +kernel
theorem dX4_listen_17 : decode cX4_listen 17 = .ok (.iload_n 3, 1) := by decide +kernel
theorem dX4_listen_18 : decode cX4_listen 18 = .ok (.aload_n 0, 1) := by decide +kernel
theorem dX4_listen_19 : decode cX4_listen 19 = .ok (.getfield 10, 3) := by decide +kernel
theorem dX4_listen_22 : decode cX4_listen 22 = .ok (.iload_n 3, 1) := by decide +kernel
theorem dX4_listen_23 : decode cX4_listen 23 = .ok (.iload_n 1, 1) := by decide +kernel
theorem dX4_listen_24 : decode cX4_listen 24 = .ok (.iload_n 2, 1) := by decide +kernel
theorem dX4_listen_25 : decode cX4_listen 25 = .ok (.invokevirtual 359, 3) := by decide +kernel
theorem dX4_listen_28 : decode cX4_listen 28 = .ok (.lastore, 1) := by decide +kernel
theorem dX4_listen_29 : decode cX4_listen 29 = .ok (.iinc 3 1, 3) := by decide +kernel
theorem dX4_listen_32 : decode cX4_listen 32 = .ok (.goto (-30), 3) := by decide +kernel
theorem dX4_listen_35 : decode cX4_listen 35 = .ok (.return_, 1) := by decide +kernel
theorem dX4_soundingAs_0 : decode cX4_soundingAs 0 = .ok (.iconst 0, 1) := by decide +kernel
theorem dX4_soundingAs_1 : decode cX4_soundingAs 1 = .ok (.istore_n 2, 1) := by decide +kernel
theorem dX4_soundingAs_2 : decode cX4_soundingAs 2 = .ok (.iconst 0, 1) := by decide +kernel
theorem dX4_soundingAs_3 : decode cX4_soundingAs 3 = .ok (.istore_n 3, 1) := by decide +kernel
theorem dX4_soundingAs_4 : decode cX4_soundingAs 4 = .ok (.iload_n 3, 1) := by decide +kernel
theorem dX4_soundingAs_5 : decode cX4_soundingAs 5 = .ok (.aload_n 0, 1) := by decide +kernel
theorem dX4_soundingAs_6 : decode cX4_soundingAs 6 = .ok (.getfield 10, 3) := by decide +kernel
theorem dX4_soundingAs_9 : decode cX4_soundingAs 9 = .ok (.invokevirtual 249, 3) := by decide +kernel
theorem dX4_soundingAs_12 : decode cX4_soundingAs 12 = .ok (.if_icmp .ge 31, 3) := by decide +kernel
theorem dX4_soundingAs_15 : decode cX4_soundingAs 15 = .ok (.aload_n 0, 1) := by decide +kernel
theorem dX4_soundingAs_16 : decode cX4_soundingAs 16 = .ok (.getfield 43, 3) := by decide +kernel
theorem dX4_soundingAs_19 : decode cX4_soundingAs 19 = .ok (.iload_n 3, 1) := by decide +kernel
theorem dX4_soundingAs_20 : decode cX4_soundingAs 20 = .ok (.laload, 1) := by decide +kernel
theorem dX4_soundingAs_21 : decode cX4_soundingAs 21 = .ok (.aload_n 0, 1) := by decide +kernel
theorem dX4_soundingAs_22 : decode cX4_soundingAs 22 = .ok (.getfield 43, 3) := by decide +kernel
theorem dX4_soundingAs_25 : decode cX4_soundingAs 25 = .ok (.iload_n 1, 1) := by decide +kernel
theorem dX4_soundingAs_26 : decode cX4_soundingAs 26 = .ok (.laload, 1) := by decide +kernel
theorem dX4_soundingAs_27 : decode cX4_soundingAs 27 = .ok (.lcmp, 1) := by decide +kernel
theorem dX4_soundingAs_28 : decode cX4_soundingAs 28 = .ok (.ifCond .ne 9, 3) := by decide +kernel
theorem dX4_soundingAs_31 : decode cX4_soundingAs 31 = .ok (.iload_n 2, 1) := by decide +kernel
theorem dX4_soundingAs_32 : decode cX4_soundingAs 32 = .ok (.iconst 1, 1) := by decide +kernel
theorem dX4_soundingAs_33 : decode cX4_soundingAs 33 = .ok (.iload_n 3, 1) := by decide +kernel
theorem dX4_soundingAs_34 : decode cX4_soundingAs 34 = .ok (.ishl, 1) := by decide +kernel
theorem dX4_soundingAs_35 : decode cX4_soundingAs 35 = .ok (.ior, 1) := by decide +kernel
theorem dX4_soundingAs_36 : decode cX4_soundingAs 36 = .ok (.istore_n 2, 1) := by decide +kernel
theorem dX4_soundingAs_37 : decode cX4_soundingAs 37 = .ok (.iinc 3 1, 3) := by decide +kernel
theorem dX4_soundingAs_40 : decode cX4_soundingAs 40 = .ok (.goto (-36), 3) := by decide +kernel
theorem dX4_soundingAs_43 : decode cX4_soundingAs 43 = .ok (.iload_n 2, 1) := by decide +kernel
theorem dX4_soundingAs_44 : decode cX4_soundingAs 44 = .ok (.ireturn, 1) := by decide +kernel
theorem dX4_apartUnder_0 : decode cX4_apartUnder 0 = .ok (.aload_n 0, 1) := by decide +kernel
theorem dX4_apartUnder_1 : decode cX4_apartUnder 1 = .ok (.iload_n 1, 1) := by decide +kernel
theorem dX4_apartUnder_2 : decode cX4_apartUnder 2 = .ok (.iload_n 2, 1) := by decide +kernel
theorem dX4_apartUnder_3 : decode cX4_apartUnder 3 = .ok (.invokevirtual 261, 3) := by decide +kernel
theorem dX4_apartUnder_6 : decode cX4_apartUnder 6 = .ok (.iconst 0, 1) := by decide +kernel
theorem dX4_apartUnder_7 : decode cX4_apartUnder 7 = .ok (.istore_n 3, 1) := by decide +kernel
theorem dX4_apartUnder_8 : decode cX4_apartUnder 8 = .ok (.iconst 0, 1) := by decide +kernel
theorem dX4_apartUnder_9 : decode cX4_apartUnder 9 = .ok (.istore 4, 2) := by decide +kernel
theorem dX4_apartUnder_11 : decode cX4_apartUnder 11 = .ok (.iload 4, 2) := by decide +kernel
theorem dX4_apartUnder_13 : decode cX4_apartUnder 13 = .ok (.aload_n 0, 1) := by decide +kernel
theorem dX4_apartUnder_14 : decode cX4_apartUnder 14 = .ok (.getfield 10, 3) := by decide +kernel
theorem dX4_apartUnder_17 : decode cX4_apartUnder 17 = .ok (.invokevirtual 249, 3) := by decide +kernel
theorem dX4_apartUnder_20 : decode cX4_apartUnder 20 = .ok (.if_icmp .ge 25, 3) := by decide +kernel
theorem dX4_apartUnder_23 : decode cX4_apartUnder 23 = .ok (.aload_n 0, 1) := by decide +kernel
theorem dX4_apartUnder_24 : decode cX4_apartUnder 24 = .ok (.iload 4, 2) := by decide +kernel
theorem dX4_apartUnder_26 : decode cX4_apartUnder 26 = .ok (.invokevirtual 334, 3) := by decide +kernel
theorem dX4_apartUnder_29 : decode cX4_apartUnder 29 = .ok (.iconst 1, 1) := by decide +kernel
theorem dX4_apartUnder_30 : decode cX4_apartUnder 30 = .ok (.iload 4, 2) := by decide +kernel
theorem dX4_apartUnder_32 : decode cX4_apartUnder 32 = .ok (.ishl, 1) := by decide +kernel
theorem dX4_apartUnder_33 : decode cX4_apartUnder 33 = .ok (.if_icmp .ne 6, 3) := by decide +kernel
theorem dX4_apartUnder_36 : decode cX4_apartUnder 36 = .ok (.iinc 3 1, 3) := by decide +kernel
theorem dX4_apartUnder_39 : decode cX4_apartUnder 39 = .ok (.iinc 4 1, 3) := by decide +kernel
theorem dX4_apartUnder_42 : decode cX4_apartUnder 42 = .ok (.goto (-31), 3) := by decide +kernel
theorem dX4_apartUnder_45 : decode cX4_apartUnder 45 = .ok (.iload_n 3, 1) := by decide +kernel
theorem dX4_apartUnder_46 : decode cX4_apartUnder 46 = .ok (.ireturn, 1) := by decide +kernel
theorem dX4_mostApart_0 : decode cX4_mostApart 0 = .ok (.iconst 0, 1) := by decide +kernel
theorem dX4_mostApart_1 : decode cX4_mostApart 1 = .ok (.istore_n 1, 1) := by decide +kernel
theorem dX4_mostApart_2 : decode cX4_mostApart 2 = .ok (.iconst (-1), 1) := by decide +kernel
theorem dX4_mostApart_3 : decode cX4_mostApart 3 = .ok (.istore_n 2, 1) := by decide +kernel
theorem dX4_mostApart_4 : decode cX4_mostApart 4 = .ok (.iconst 0, 1) := by decide +kernel
theorem dX4_mostApart_5 : decode cX4_mostApart 5 = .ok (.istore_n 3, 1) := by decide +kernel
theorem dX4_mostApart_6 : decode cX4_mostApart 6 = .ok (.iload_n 3, 1) := by decide +kernel
theorem dX4_mostApart_7 : decode cX4_mostApart 7 = .ok (.aload_n 0, 1) := by decide +kernel
theorem dX4_mostApart_8 : decode cX4_mostApart 8 = .ok (.getfield 10, 3) := by decide +kernel
theorem dX4_mostApart_11 : decode cX4_mostApart 11 = .ok (.getfield 123, 3) := by decide +kernel
theorem dX4_mostApart_14 : decode cX4_mostApart 14 = .ok (.if_icmp .ge 34, 3) := by decide +kernel
theorem dX4_mostApart_17 : decode cX4_mostApart 17 = .ok (.aload_n 0, 1) := by decide +kernel
theorem dX4_mostApart_18 : decode cX4_mostApart 18 = .ok (.iload_n 3, 1) := by decide +kernel
theorem dX4_mostApart_19 : decode cX4_mostApart 19 = .ok (.aload_n 0, 1) := by decide +kernel
theorem dX4_mostApart_20 : decode cX4_mostApart 20 = .ok (.getfield 10, 3) := by decide +kernel
theorem dX4_mostApart_23 : decode cX4_mostApart 23 = .ok (.getfield 140, 3) := by decide +kernel
theorem dX4_mostApart_26 : decode cX4_mostApart 26 = .ok (.invokevirtual 282, 3) := by decide +kernel
theorem dX4_mostApart_29 : decode cX4_mostApart 29 = .ok (.istore 4, 2) := by decide +kernel
theorem dX4_mostApart_31 : decode cX4_mostApart 31 = .ok (.iload 4, 2) := by decide +kernel
theorem dX4_mostApart_33 : decode cX4_mostApart 33 = .ok (.iload_n 2, 1) := by decide +kernel
theorem dX4_mostApart_34 : decode cX4_mostApart 34 = .ok (.if_icmp .le 8, 3) := by decide +kernel
theorem dX4_mostApart_37 : decode cX4_mostApart 37 = .ok (.iload 4, 2) := by decide +kernel
theorem dX4_mostApart_39 : decode cX4_mostApart 39 = .ok (.istore_n 2, 1) := by decide +kernel
theorem dX4_mostApart_40 : decode cX4_mostApart 40 = .ok (.iload_n 3, 1) := by decide +kernel
theorem dX4_mostApart_41 : decode cX4_mostApart 41 = .ok (.istore_n 1, 1) := by decide +kernel
theorem dX4_mostApart_42 : decode cX4_mostApart 42 = .ok (.iinc 3 1, 3) := by decide +kernel
theorem dX4_mostApart_45 : decode cX4_mostApart 45 = .ok (.goto (-39), 3) := by decide +kernel
theorem dX4_mostApart_48 : decode cX4_mostApart 48 = .ok (.iload_n 1, 1) := by decide +kernel
theorem dX4_mostApart_49 : decode cX4_mostApart 49 = .ok (.ireturn, 1) := by decide +kernel
theorem dX4_leastRainApart_0 : decode cX4_leastRainApart 0 = .ok (.iconst 0, 1) := by decide +kernel
theorem dX4_leastRainApart_1 : decode cX4_leastRainApart 1 = .ok (.istore_n 1, 1) := by decide +kernel
theorem dX4_leastRainApart_2 : decode cX4_leastRainApart 2 = .ok (.iload_n 1, 1) := by decide +kernel
theorem dX4_leastRainApart_3 : decode cX4_leastRainApart 3 = .ok (.bipush 9, 2) := by decide +kernel
theorem dX4_leastRainApart_5 : decode cX4_leastRainApart 5 = .ok (.if_icmp .gt 46, 3) := by decide +kernel
theorem dX4_leastRainApart_8 : decode cX4_leastRainApart 8 = .ok (.iconst 0, 1) := by decide +kernel
theorem dX4_leastRainApart_9 : decode cX4_leastRainApart 9 = .ok (.istore_n 2, 1) := by decide +kernel
theorem dX4_leastRainApart_10 : decode cX4_leastRainApart 10 = .ok (.iload_n 2, 1) := by decide +kernel
theorem dX4_leastRainApart_11 : decode cX4_leastRainApart 11 = .ok (.aload_n 0, 1) := by decide +kernel
theorem dX4_leastRainApart_12 : decode cX4_leastRainApart 12 = .ok (.getfield 10, 3) := by decide +kernel
theorem dX4_leastRainApart_15 : decode cX4_leastRainApart 15 = .ok (.getfield 123, 3) := by decide +kernel
theorem dX4_leastRainApart_18 : decode cX4_leastRainApart 18 = .ok (.if_icmp .ge 27, 3) := by decide +kernel
theorem dX4_leastRainApart_21 : decode cX4_leastRainApart 21 = .ok (.aload_n 0, 1) := by decide +kernel
theorem dX4_leastRainApart_22 : decode cX4_leastRainApart 22 = .ok (.iload_n 2, 1) := by decide +kernel
theorem dX4_leastRainApart_23 : decode cX4_leastRainApart 23 = .ok (.iload_n 1, 1) := by decide +kernel
theorem dX4_leastRainApart_24 : decode cX4_leastRainApart 24 = .ok (.invokevirtual 282, 3) := by decide +kernel
theorem dX4_leastRainApart_27 : decode cX4_leastRainApart 27 = .ok (.aload_n 0, 1) := by decide +kernel
theorem dX4_leastRainApart_28 : decode cX4_leastRainApart 28 = .ok (.getfield 10, 3) := by decide +kernel
theorem dX4_leastRainApart_31 : decode cX4_leastRainApart 31 = .ok (.invokevirtual 249, 3) := by decide +kernel
theorem dX4_leastRainApart_34 : decode cX4_leastRainApart 34 = .ok (.if_icmp .ne 5, 3) := by decide +kernel
theorem dX4_leastRainApart_37 : decode cX4_leastRainApart 37 = .ok (.iload_n 1, 1) := by decide +kernel
theorem dX4_leastRainApart_38 : decode cX4_leastRainApart 38 = .ok (.ireturn, 1) := by decide +kernel
theorem dX4_leastRainApart_39 : decode cX4_leastRainApart 39 = .ok (.iinc 2 1, 3) := by decide +kernel
theorem dX4_leastRainApart_42 : decode cX4_leastRainApart 42 = .ok (.goto (-32), 3) := by decide +kernel
theorem dX4_leastRainApart_45 : decode cX4_leastRainApart 45 = .ok (.iinc 1 1, 3) := by decide +kernel
theorem dX4_leastRainApart_48 : decode cX4_leastRainApart 48 = .ok (.goto (-46), 3) := by decide +kernel
theorem dX4_leastRainApart_51 : decode cX4_leastRainApart 51 = .ok (.iconst (-1), 1) := by decide +kernel
theorem dX4_leastRainApart_52 : decode cX4_leastRainApart 52 = .ok (.ireturn, 1) := by decide +kernel
theorem dX4_isToldSo_0 : decode cX4_isToldSo 0 = .ok (.iconst 0, 1) := by decide +kernel
theorem dX4_isToldSo_1 : decode cX4_isToldSo 1 = .ok (.istore 6, 2) := by decide +kernel
theorem dX4_isToldSo_3 : decode cX4_isToldSo 3 = .ok (.iload 6, 2) := by decide +kernel
theorem dX4_isToldSo_5 : decode cX4_isToldSo 5 = .ok (.iload 5, 2) := by decide +kernel
theorem dX4_isToldSo_7 : decode cX4_isToldSo 7 = .ok (.if_icmp .ge 62, 3) := by decide +kernel
theorem dX4_isToldSo_10 : decode cX4_isToldSo 10 = .ok (.aload_n 0, 1) := by decide +kernel
theorem dX4_isToldSo_11 : decode cX4_isToldSo 11 = .ok (.getfield 10, 3) := by decide +kernel
theorem dX4_isToldSo_14 : decode cX4_isToldSo 14 = .ok (.aload_n 0, 1) := by decide +kernel
theorem dX4_isToldSo_15 : decode cX4_isToldSo 15 = .ok (.getfield 10, 3) := by decide +kernel
theorem dX4_isToldSo_18 : decode cX4_isToldSo 18 = .ok (.iload 6, 2) := by decide +kernel
theorem dX4_isToldSo_20 : decode cX4_isToldSo 20 = .ok (.iload 4, 2) := by decide +kernel
theorem dX4_isToldSo_22 : decode cX4_isToldSo 22 = .ok (.invokevirtual 244, 3) := by decide +kernel
theorem dX4_isToldSo_25 : decode cX4_isToldSo 25 = .ok (.aload_n 0, 1) := by decide +kernel
theorem dX4_isToldSo_26 : decode cX4_isToldSo 26 = .ok (.getfield 10, 3) := by decide +kernel
theorem dX4_isToldSo_29 : decode cX4_isToldSo 29 = .ok (.getfield 140, 3) := by decide +kernel
theorem dX4_isToldSo_32 : decode cX4_isToldSo 32 = .ok (.invokevirtual 172, 3) := by decide +kernel
theorem dX4_isToldSo_35 : decode cX4_isToldSo 35 = .ok (.istore 7, 2) := by decide +kernel
theorem dX4_isToldSo_37 : decode cX4_isToldSo 37 = .ok (.iload_n 2, 1) := by decide +kernel
theorem dX4_isToldSo_38 : decode cX4_isToldSo 38 = .ok (.iload_n 3, 1) := by decide +kernel
theorem dX4_isToldSo_39 : decode cX4_isToldSo 39 = .ok (.iload 7, 2) := by decide +kernel
theorem dX4_isToldSo_41 : decode cX4_isToldSo 41 = .ok (.iload 6, 2) := by decide +kernel
theorem dX4_isToldSo_43 : decode cX4_isToldSo 43 = .ok (.invokestatic 363, 3) := by decide +kernel
theorem dX4_isToldSo_46 : decode cX4_isToldSo 46 = .ok (.i2l, 1) := by decide +kernel
theorem dX4_isToldSo_47 : decode cX4_isToldSo 47 = .ok (.aload_n 0, 1) := by decide +kernel
theorem dX4_isToldSo_48 : decode cX4_isToldSo 48 = .ok (.getfield 25, 3) := by decide +kernel
theorem dX4_isToldSo_51 : decode cX4_isToldSo 51 = .ok (.iload_n 1, 1) := by decide +kernel
theorem dX4_isToldSo_52 : decode cX4_isToldSo 52 = .ok (.iload 6, 2) := by decide +kernel
theorem dX4_isToldSo_54 : decode cX4_isToldSo 54 = .ok (.invokevirtual 95, 3) := by decide +kernel
theorem dX4_isToldSo_57 : decode cX4_isToldSo 57 = .ok (.lcmp, 1) := by decide +kernel
theorem dX4_isToldSo_58 : decode cX4_isToldSo 58 = .ok (.ifCond .eq 5, 3) := by decide +kernel
theorem dX4_isToldSo_61 : decode cX4_isToldSo 61 = .ok (.iconst 0, 1) := by decide +kernel
theorem dX4_isToldSo_62 : decode cX4_isToldSo 62 = .ok (.ireturn, 1) := by decide +kernel
theorem dX4_isToldSo_63 : decode cX4_isToldSo 63 = .ok (.iinc 6 1, 3) := by decide +kernel
theorem dX4_isToldSo_66 : decode cX4_isToldSo 66 = .ok (.goto (-63), 3) := by decide +kernel
theorem dX4_isToldSo_69 : decode cX4_isToldSo 69 = .ok (.iconst 1, 1) := by decide +kernel
theorem dX4_isToldSo_70 : decode cX4_isToldSo 70 = .ok (.ireturn, 1) := by decide +kernel
theorem dX4_fitting_0 : decode cX4_fitting 0 = .ok (.iconst 0, 1) := by decide +kernel
theorem dX4_fitting_1 : decode cX4_fitting 1 = .ok (.istore 4, 2) := by decide +kernel
theorem dX4_fitting_3 : decode cX4_fitting 3 = .ok (.iconst 0, 1) := by decide +kernel
theorem dX4_fitting_4 : decode cX4_fitting 4 = .ok (.istore 5, 2) := by decide +kernel
theorem dX4_fitting_6 : decode cX4_fitting 6 = .ok (.iload 5, 2) := by decide +kernel
theorem dX4_fitting_8 : decode cX4_fitting 8 = .ok (.aload_n 0, 1) := by decide +kernel
theorem dX4_fitting_9 : decode cX4_fitting 9 = .ok (.getfield 10, 3) := by decide +kernel
theorem dX4_fitting_12 : decode cX4_fitting 12 = .ok (.invokevirtual 249, 3) := by decide +kernel
theorem dX4_fitting_15 : decode cX4_fitting 15 = .ok (.if_icmp .ge 46, 3) := by decide +kernel
theorem dX4_fitting_18 : decode cX4_fitting 18 = .ok (.aload_n 0, 1) := by decide +kernel
theorem dX4_fitting_19 : decode cX4_fitting 19 = .ok (.iload_n 1, 1) := by decide +kernel
theorem dX4_fitting_20 : decode cX4_fitting 20 = .ok (.aload_n 0, 1) := by decide +kernel
theorem dX4_fitting_21 : decode cX4_fitting 21 = .ok (.getfield 10, 3) := by decide +kernel
theorem dX4_fitting_24 : decode cX4_fitting 24 = .ok (.iload 5, 2) := by decide +kernel
theorem dX4_fitting_26 : decode cX4_fitting 26 = .ok (.invokevirtual 109, 3) := by decide +kernel
theorem dX4_fitting_29 : decode cX4_fitting 29 = .ok (.aload_n 0, 1) := by decide +kernel
theorem dX4_fitting_30 : decode cX4_fitting 30 = .ok (.getfield 10, 3) := by decide +kernel
theorem dX4_fitting_33 : decode cX4_fitting 33 = .ok (.iload 5, 2) := by decide +kernel
theorem dX4_fitting_35 : decode cX4_fitting 35 = .ok (.invokevirtual 169, 3) := by decide +kernel
theorem dX4_fitting_38 : decode cX4_fitting 38 = .ok (.iload_n 2, 1) := by decide +kernel
theorem dX4_fitting_39 : decode cX4_fitting 39 = .ok (.iload_n 3, 1) := by decide +kernel
theorem dX4_fitting_40 : decode cX4_fitting 40 = .ok (.invokevirtual 366, 3) := by decide +kernel
theorem dX4_fitting_43 : decode cX4_fitting 43 = .ok (.ifCond .eq 12, 3) := by decide +kernel
theorem dX4_fitting_46 : decode cX4_fitting 46 = .ok (.iload 4, 2) := by decide +kernel
theorem dX4_fitting_48 : decode cX4_fitting 48 = .ok (.iconst 1, 1) := by decide +kernel
theorem dX4_fitting_49 : decode cX4_fitting 49 = .ok (.iload 5, 2) := by decide +kernel
theorem dX4_fitting_51 : decode cX4_fitting 51 = .ok (.ishl, 1) := by decide +kernel
theorem dX4_fitting_52 : decode cX4_fitting 52 = .ok (.ior, 1) := by decide +kernel
theorem dX4_fitting_53 : decode cX4_fitting 53 = .ok (.istore 4, 2) := by decide +kernel
theorem dX4_fitting_55 : decode cX4_fitting 55 = .ok (.iinc 5 1, 3) := by decide +kernel
theorem dX4_fitting_58 : decode cX4_fitting 58 = .ok (.goto (-52), 3) := by decide +kernel
theorem dX4_fitting_61 : decode cX4_fitting 61 = .ok (.iload 4, 2) := by decide +kernel
theorem dX4_fitting_63 : decode cX4_fitting 63 = .ok (.ireturn, 1) := by decide +kernel
theorem dX4_sureBehind_0 : decode cX4_sureBehind 0 = .ok (.iconst 1, 1) := by decide +kernel
theorem dX4_sureBehind_1 : decode cX4_sureBehind 1 = .ok (.istore_n 3, 1) := by decide +kernel
theorem dX4_sureBehind_2 : decode cX4_sureBehind 2 = .ok (.iload_n 3, 1) := by decide +kernel
theorem dX4_sureBehind_3 : decode cX4_sureBehind 3 = .ok (.aload_n 0, 1) := by decide +kernel
theorem dX4_sureBehind_4 : decode cX4_sureBehind 4 = .ok (.getfield 10, 3) := by decide +kernel
theorem dX4_sureBehind_7 : decode cX4_sureBehind 7 = .ok (.getfield 123, 3) := by decide +kernel
theorem dX4_sureBehind_10 : decode cX4_sureBehind 10 = .ok (.if_icmp .gt 25, 3) := by decide +kernel
theorem dX4_sureBehind_13 : decode cX4_sureBehind 13 = .ok (.aload_n 0, 1) := by decide +kernel
theorem dX4_sureBehind_14 : decode cX4_sureBehind 14 = .ok (.iload_n 1, 1) := by decide +kernel
theorem dX4_sureBehind_15 : decode cX4_sureBehind 15 = .ok (.iload_n 2, 1) := by decide +kernel
theorem dX4_sureBehind_16 : decode cX4_sureBehind 16 = .ok (.iload_n 3, 1) := by decide +kernel
theorem dX4_sureBehind_17 : decode cX4_sureBehind 17 = .ok (.invokevirtual 270, 3) := by decide +kernel
theorem dX4_sureBehind_20 : decode cX4_sureBehind 20 = .ok (.invokestatic 369, 3) := by decide +kernel
theorem dX4_sureBehind_23 : decode cX4_sureBehind 23 = .ok (.iconst 1, 1) := by decide +kernel
theorem dX4_sureBehind_24 : decode cX4_sureBehind 24 = .ok (.if_icmp .ne 5, 3) := by decide +kernel
theorem dX4_sureBehind_27 : decode cX4_sureBehind 27 = .ok (.iload_n 3, 1) := by decide +kernel
theorem dX4_sureBehind_28 : decode cX4_sureBehind 28 = .ok (.ireturn, 1) := by decide +kernel
theorem dX4_sureBehind_29 : decode cX4_sureBehind 29 = .ok (.iinc 3 1, 3) := by decide +kernel
theorem dX4_sureBehind_32 : decode cX4_sureBehind 32 = .ok (.goto (-30), 3) := by decide +kernel
theorem dX4_sureBehind_35 : decode cX4_sureBehind 35 = .ok (.iconst (-1), 1) := by decide +kernel
theorem dX4_sureBehind_36 : decode cX4_sureBehind 36 = .ok (.ireturn, 1) := by decide +kernel
theorem dX4_likeliestOf_0 : decode cX4_likeliestOf 0 = .ok (.iconst (-1), 1) := by decide +kernel
theorem dX4_likeliestOf_1 : decode cX4_likeliestOf 1 = .ok (.istore_n 2, 1) := by decide +kernel
theorem dX4_likeliestOf_2 : decode cX4_likeliestOf 2 = .ok (.iconst 0, 1) := by decide +kernel
theorem dX4_likeliestOf_3 : decode cX4_likeliestOf 3 = .ok (.istore_n 3, 1) := by decide +kernel
theorem dX4_likeliestOf_4 : decode cX4_likeliestOf 4 = .ok (.iconst 0, 1) := by decide +kernel
theorem dX4_likeliestOf_5 : decode cX4_likeliestOf 5 = .ok (.istore 4, 2) := by decide +kernel
theorem dX4_likeliestOf_7 : decode cX4_likeliestOf 7 = .ok (.iload 4, 2) := by decide +kernel
theorem dX4_likeliestOf_9 : decode cX4_likeliestOf 9 = .ok (.aload_n 0, 1) := by decide +kernel
theorem dX4_likeliestOf_10 : decode cX4_likeliestOf 10 = .ok (.getfield 10, 3) := by decide +kernel
theorem dX4_likeliestOf_13 : decode cX4_likeliestOf 13 = .ok (.invokevirtual 249, 3) := by decide +kernel
theorem dX4_likeliestOf_16 : decode cX4_likeliestOf 16 = .ok (.if_icmp .ge 45, 3) := by decide +kernel
theorem dX4_likeliestOf_19 : decode cX4_likeliestOf 19 = .ok (.iload_n 1, 1) := by decide +kernel
theorem dX4_likeliestOf_20 : decode cX4_likeliestOf 20 = .ok (.iload 4, 2) := by decide +kernel
theorem dX4_likeliestOf_22 : decode cX4_likeliestOf 22 = .ok (.ishr, 1) := by decide +kernel
theorem dX4_likeliestOf_23 : decode cX4_likeliestOf 23 = .ok (.iconst 1, 1) := by decide +kernel
theorem dX4_likeliestOf_24 : decode cX4_likeliestOf 24 = .ok (.iand, 1) := by decide +kernel
theorem dX4_likeliestOf_25 : decode cX4_likeliestOf 25 = .ok (.iconst 1, 1) := by decide +kernel
theorem dX4_likeliestOf_26 : decode cX4_likeliestOf 26 = .ok (.if_icmp .ne 29, 3) := by decide +kernel
theorem dX4_likeliestOf_29 : decode cX4_likeliestOf 29 = .ok (.aload_n 0, 1) := by decide +kernel
theorem dX4_likeliestOf_30 : decode cX4_likeliestOf 30 = .ok (.getfield 10, 3) := by decide +kernel
theorem dX4_likeliestOf_33 : decode cX4_likeliestOf 33 = .ok (.iload 4, 2) := by decide +kernel
theorem dX4_likeliestOf_35 : decode cX4_likeliestOf 35 = .ok (.invokevirtual 116, 3) := by decide +kernel
theorem dX4_likeliestOf_38 : decode cX4_likeliestOf 38 = .ok (.iload_n 3, 1) := by decide +kernel
theorem dX4_likeliestOf_39 : decode cX4_likeliestOf 39 = .ok (.if_icmp .le 16, 3) := by decide +kernel
theorem dX4_likeliestOf_42 : decode cX4_likeliestOf 42 = .ok (.aload_n 0, 1) := by decide +kernel
theorem dX4_likeliestOf_43 : decode cX4_likeliestOf 43 = .ok (.getfield 10, 3) := by decide +kernel
theorem dX4_likeliestOf_46 : decode cX4_likeliestOf 46 = .ok (.iload 4, 2) := by decide +kernel
theorem dX4_likeliestOf_48 : decode cX4_likeliestOf 48 = .ok (.invokevirtual 116, 3) := by decide +kernel
theorem dX4_likeliestOf_51 : decode cX4_likeliestOf 51 = .ok (.istore_n 3, 1) := by decide +kernel
theorem dX4_likeliestOf_52 : decode cX4_likeliestOf 52 = .ok (.iload 4, 2) := by decide +kernel
theorem dX4_likeliestOf_54 : decode cX4_likeliestOf 54 = .ok (.istore_n 2, 1) := by decide +kernel
theorem dX4_likeliestOf_55 : decode cX4_likeliestOf 55 = .ok (.iinc 4 1, 3) := by decide +kernel
theorem dX4_likeliestOf_58 : decode cX4_likeliestOf 58 = .ok (.goto (-51), 3) := by decide +kernel
theorem dX4_likeliestOf_61 : decode cX4_likeliestOf 61 = .ok (.iload_n 2, 1) := by decide +kernel
theorem dX4_likeliestOf_62 : decode cX4_likeliestOf 62 = .ok (.ireturn, 1) := by decide +kernel
theorem dX4_chancesOf_0 : decode cX4_chancesOf 0 = .ok (.iconst 0, 1) := by decide +kernel
theorem dX4_chancesOf_1 : decode cX4_chancesOf 1 = .ok (.istore_n 2, 1) := by decide +kernel
theorem dX4_chancesOf_2 : decode cX4_chancesOf 2 = .ok (.iconst 0, 1) := by decide +kernel
theorem dX4_chancesOf_3 : decode cX4_chancesOf 3 = .ok (.istore_n 3, 1) := by decide +kernel
theorem dX4_chancesOf_4 : decode cX4_chancesOf 4 = .ok (.iload_n 3, 1) := by decide +kernel
theorem dX4_chancesOf_5 : decode cX4_chancesOf 5 = .ok (.aload_n 0, 1) := by decide +kernel
theorem dX4_chancesOf_6 : decode cX4_chancesOf 6 = .ok (.getfield 10, 3) := by decide +kernel
theorem dX4_chancesOf_9 : decode cX4_chancesOf 9 = .ok (.invokevirtual 249, 3) := by decide +kernel
theorem dX4_chancesOf_12 : decode cX4_chancesOf 12 = .ok (.if_icmp .ge 29, 3) := by decide +kernel
theorem dX4_chancesOf_15 : decode cX4_chancesOf 15 = .ok (.iload_n 1, 1) := by decide +kernel
theorem dX4_chancesOf_16 : decode cX4_chancesOf 16 = .ok (.iload_n 3, 1) := by decide +kernel
theorem dX4_chancesOf_17 : decode cX4_chancesOf 17 = .ok (.ishr, 1) := by decide +kernel
theorem dX4_chancesOf_18 : decode cX4_chancesOf 18 = .ok (.iconst 1, 1) := by decide +kernel
theorem dX4_chancesOf_19 : decode cX4_chancesOf 19 = .ok (.iand, 1) := by decide +kernel
theorem dX4_chancesOf_20 : decode cX4_chancesOf 20 = .ok (.iconst 1, 1) := by decide +kernel
theorem dX4_chancesOf_21 : decode cX4_chancesOf 21 = .ok (.if_icmp .ne 14, 3) := by decide +kernel
theorem dX4_chancesOf_24 : decode cX4_chancesOf 24 = .ok (.iload_n 2, 1) := by decide +kernel
theorem dX4_chancesOf_25 : decode cX4_chancesOf 25 = .ok (.aload_n 0, 1) := by decide +kernel
theorem dX4_chancesOf_26 : decode cX4_chancesOf 26 = .ok (.getfield 10, 3) := by decide +kernel
theorem dX4_chancesOf_29 : decode cX4_chancesOf 29 = .ok (.iload_n 3, 1) := by decide +kernel
theorem dX4_chancesOf_30 : decode cX4_chancesOf 30 = .ok (.invokevirtual 116, 3) := by decide +kernel
theorem dX4_chancesOf_33 : decode cX4_chancesOf 33 = .ok (.iadd, 1) := by decide +kernel
theorem dX4_chancesOf_34 : decode cX4_chancesOf 34 = .ok (.istore_n 2, 1) := by decide +kernel
theorem dX4_chancesOf_35 : decode cX4_chancesOf 35 = .ok (.iinc 3 1, 3) := by decide +kernel
theorem dX4_chancesOf_38 : decode cX4_chancesOf 38 = .ok (.goto (-34), 3) := by decide +kernel
theorem dX4_chancesOf_41 : decode cX4_chancesOf 41 = .ok (.iload_n 2, 1) := by decide +kernel
theorem dX4_chancesOf_42 : decode cX4_chancesOf 42 = .ok (.ireturn, 1) := by decide +kernel
theorem dX4_areTogether_0 : decode cX4_areTogether 0 = .ok (.iconst 0, 1) := by decide +kernel
theorem dX4_areTogether_1 : decode cX4_areTogether 1 = .ok (.istore 6, 2) := by decide +kernel
theorem dX4_areTogether_3 : decode cX4_areTogether 3 = .ok (.iload 6, 2) := by decide +kernel
theorem dX4_areTogether_5 : decode cX4_areTogether 5 = .ok (.aload_n 0, 1) := by decide +kernel
theorem dX4_areTogether_6 : decode cX4_areTogether 6 = .ok (.getfield 10, 3) := by decide +kernel
theorem dX4_areTogether_9 : decode cX4_areTogether 9 = .ok (.getfield 123, 3) := by decide +kernel
theorem dX4_areTogether_12 : decode cX4_areTogether 12 = .ok (.if_icmp .ge 69, 3) := by decide +kernel
theorem dX4_areTogether_15 : decode cX4_areTogether 15 = .ok (.aload_n 0, 1) := by decide +kernel
theorem dX4_areTogether_16 : decode cX4_areTogether 16 = .ok (.getfield 10, 3) := by decide +kernel
theorem dX4_areTogether_19 : decode cX4_areTogether 19 = .ok (.iload_n 2, 1) := by decide +kernel
theorem dX4_areTogether_20 : decode cX4_areTogether 20 = .ok (.aload_n 0, 1) := by decide +kernel
theorem dX4_areTogether_21 : decode cX4_areTogether 21 = .ok (.getfield 10, 3) := by decide +kernel
theorem dX4_areTogether_24 : decode cX4_areTogether 24 = .ok (.iload 6, 2) := by decide +kernel
theorem dX4_areTogether_26 : decode cX4_areTogether 26 = .ok (.iload_n 3, 1) := by decide +kernel
theorem dX4_areTogether_27 : decode cX4_areTogether 27 = .ok (.invokevirtual 244, 3) := by decide +kernel
theorem dX4_areTogether_30 : decode cX4_areTogether 30 = .ok (.invokevirtual 247, 3) := by decide +kernel
theorem dX4_areTogether_33 : decode cX4_areTogether 33 = .ok (.aload_n 0, 1) := by decide +kernel
theorem dX4_areTogether_34 : decode cX4_areTogether 34 = .ok (.getfield 10, 3) := by decide +kernel
theorem dX4_areTogether_37 : decode cX4_areTogether 37 = .ok (.iload 4, 2) := by decide +kernel
theorem dX4_areTogether_39 : decode cX4_areTogether 39 = .ok (.aload_n 0, 1) := by decide +kernel
theorem dX4_areTogether_40 : decode cX4_areTogether 40 = .ok (.getfield 10, 3) := by decide +kernel
theorem dX4_areTogether_43 : decode cX4_areTogether 43 = .ok (.iload 6, 2) := by decide +kernel
theorem dX4_areTogether_45 : decode cX4_areTogether 45 = .ok (.iload 5, 2) := by decide +kernel
theorem dX4_areTogether_47 : decode cX4_areTogether 47 = .ok (.invokevirtual 244, 3) := by decide +kernel
theorem dX4_areTogether_50 : decode cX4_areTogether 50 = .ok (.invokevirtual 247, 3) := by decide +kernel
theorem dX4_areTogether_53 : decode cX4_areTogether 53 = .ok (.iadd, 1) := by decide +kernel
theorem dX4_areTogether_54 : decode cX4_areTogether 54 = .ok (.istore 7, 2) := by decide +kernel
theorem dX4_areTogether_56 : decode cX4_areTogether 56 = .ok (.iload 7, 2) := by decide +kernel
theorem dX4_areTogether_58 : decode cX4_areTogether 58 = .ok (.i2l, 1) := by decide +kernel
theorem dX4_areTogether_59 : decode cX4_areTogether 59 = .ok (.aload_n 0, 1) := by decide +kernel
theorem dX4_areTogether_60 : decode cX4_areTogether 60 = .ok (.getfield 25, 3) := by decide +kernel
theorem dX4_areTogether_63 : decode cX4_areTogether 63 = .ok (.iload_n 1, 1) := by decide +kernel
theorem dX4_areTogether_64 : decode cX4_areTogether 64 = .ok (.iload 6, 2) := by decide +kernel
theorem dX4_areTogether_66 : decode cX4_areTogether 66 = .ok (.invokevirtual 95, 3) := by decide +kernel
theorem dX4_areTogether_69 : decode cX4_areTogether 69 = .ok (.lcmp, 1) := by decide +kernel
theorem dX4_areTogether_70 : decode cX4_areTogether 70 = .ok (.ifCond .eq 5, 3) := by decide +kernel
theorem dX4_areTogether_73 : decode cX4_areTogether 73 = .ok (.iconst 0, 1) := by decide +kernel
theorem dX4_areTogether_74 : decode cX4_areTogether 74 = .ok (.ireturn, 1) := by decide +kernel
theorem dX4_areTogether_75 : decode cX4_areTogether 75 = .ok (.iinc 6 1, 3) := by decide +kernel
theorem dX4_areTogether_78 : decode cX4_areTogether 78 = .ok (.goto (-75), 3) := by decide +kernel
theorem dX4_areTogether_81 : decode cX4_areTogether 81 = .ok (.iconst 1, 1) := by decide +kernel
theorem dX4_areTogether_82 : decode cX4_areTogether 82 = .ok (.ireturn, 1) := by decide +kernel
theorem dX4_kindsMeant_0 : decode cX4_kindsMeant 0 = .ok (.iconst 0, 1) := by decide +kernel
theorem dX4_kindsMeant_1 : decode cX4_kindsMeant 1 = .ok (.istore 4, 2) := by decide +kernel
theorem dX4_kindsMeant_3 : decode cX4_kindsMeant 3 = .ok (.iconst 0, 1) := by decide +kernel
theorem dX4_kindsMeant_4 : decode cX4_kindsMeant 4 = .ok (.istore 5, 2) := by decide +kernel
theorem dX4_kindsMeant_6 : decode cX4_kindsMeant 6 = .ok (.iload 5, 2) := by decide +kernel
theorem dX4_kindsMeant_8 : decode cX4_kindsMeant 8 = .ok (.bipush 6, 2) := by decide +kernel
theorem dX4_kindsMeant_10 : decode cX4_kindsMeant 10 = .ok (.if_icmp .ge 44, 3) := by decide +kernel
theorem dX4_kindsMeant_13 : decode cX4_kindsMeant 13 = .ok (.aload_n 0, 1) := by decide +kernel
theorem dX4_kindsMeant_14 : decode cX4_kindsMeant 14 = .ok (.iload_n 1, 1) := by decide +kernel
theorem dX4_kindsMeant_15 : decode cX4_kindsMeant 15 = .ok (.iload 5, 2) := by decide +kernel
theorem dX4_kindsMeant_17 : decode cX4_kindsMeant 17 = .ok (.aload_n 0, 1) := by decide +kernel
theorem dX4_kindsMeant_18 : decode cX4_kindsMeant 18 = .ok (.getfield 10, 3) := by decide +kernel
theorem dX4_kindsMeant_21 : decode cX4_kindsMeant 21 = .ok (.iload_n 2, 1) := by decide +kernel
theorem dX4_kindsMeant_22 : decode cX4_kindsMeant 22 = .ok (.invokevirtual 169, 3) := by decide +kernel
theorem dX4_kindsMeant_25 : decode cX4_kindsMeant 25 = .ok (.iload_n 3, 1) := by decide +kernel
theorem dX4_kindsMeant_26 : decode cX4_kindsMeant 26 = .ok (.aload_n 0, 1) := by decide +kernel
theorem dX4_kindsMeant_27 : decode cX4_kindsMeant 27 = .ok (.getfield 10, 3) := by decide +kernel
theorem dX4_kindsMeant_30 : decode cX4_kindsMeant 30 = .ok (.getfield 123, 3) := by decide +kernel
theorem dX4_kindsMeant_33 : decode cX4_kindsMeant 33 = .ok (.invokevirtual 366, 3) := by decide +kernel
theorem dX4_kindsMeant_36 : decode cX4_kindsMeant 36 = .ok (.ifCond .eq 12, 3) := by decide +kernel
theorem dX4_kindsMeant_39 : decode cX4_kindsMeant 39 = .ok (.iload 4, 2) := by decide +kernel
theorem dX4_kindsMeant_41 : decode cX4_kindsMeant 41 = .ok (.iconst 1, 1) := by decide +kernel
theorem dX4_kindsMeant_42 : decode cX4_kindsMeant 42 = .ok (.iload 5, 2) := by decide +kernel
theorem dX4_kindsMeant_44 : decode cX4_kindsMeant 44 = .ok (.ishl, 1) := by decide +kernel
theorem dX4_kindsMeant_45 : decode cX4_kindsMeant 45 = .ok (.ior, 1) := by decide +kernel
theorem dX4_kindsMeant_46 : decode cX4_kindsMeant 46 = .ok (.istore 4, 2) := by decide +kernel
theorem dX4_kindsMeant_48 : decode cX4_kindsMeant 48 = .ok (.iinc 5 1, 3) := by decide +kernel
theorem dX4_kindsMeant_51 : decode cX4_kindsMeant 51 = .ok (.goto (-45), 3) := by decide +kernel
theorem dX4_kindsMeant_54 : decode cX4_kindsMeant 54 = .ok (.iload 4, 2) := by decide +kernel
theorem dX4_kindsMeant_56 : decode cX4_kindsMeant 56 = .ok (.ireturn, 1) := by decide +kernel
theorem dX4_leastWeightMeant_0 : decode cX4_leastWeightMeant 0 = .ok (.iconst 0, 1) := by decide +kernel
theorem dX4_leastWeightMeant_1 : decode cX4_leastWeightMeant 1 = .ok (.istore 4, 2) := by decide +kernel
theorem dX4_leastWeightMeant_3 : decode cX4_leastWeightMeant 3 = .ok (.iload 4, 2) := by decide +kernel
theorem dX4_leastWeightMeant_5 : decode cX4_leastWeightMeant 5 = .ok (.bipush 9, 2) := by decide +kernel
theorem dX4_leastWeightMeant_7 : decode cX4_leastWeightMeant 7 = .ok (.if_icmp .gt 38, 3) := by decide +kernel
theorem dX4_leastWeightMeant_10 : decode cX4_leastWeightMeant 10 = .ok (.aload_n 0, 1) := by decide +kernel
theorem dX4_leastWeightMeant_11 : decode cX4_leastWeightMeant 11 = .ok (.iload_n 1, 1) := by decide +kernel
theorem dX4_leastWeightMeant_12 : decode cX4_leastWeightMeant 12 = .ok (.aload_n 0, 1) := by decide +kernel
theorem dX4_leastWeightMeant_13 : decode cX4_leastWeightMeant 13 = .ok (.getfield 10, 3) := by decide +kernel
theorem dX4_leastWeightMeant_16 : decode cX4_leastWeightMeant 16 = .ok (.iload_n 2, 1) := by decide +kernel
theorem dX4_leastWeightMeant_17 : decode cX4_leastWeightMeant 17 = .ok (.invokevirtual 109, 3) := by decide +kernel
theorem dX4_leastWeightMeant_20 : decode cX4_leastWeightMeant 20 = .ok (.iload 4, 2) := by decide +kernel
theorem dX4_leastWeightMeant_22 : decode cX4_leastWeightMeant 22 = .ok (.iload_n 3, 1) := by decide +kernel
theorem dX4_leastWeightMeant_23 : decode cX4_leastWeightMeant 23 = .ok (.aload_n 0, 1) := by decide +kernel
theorem dX4_leastWeightMeant_24 : decode cX4_leastWeightMeant 24 = .ok (.getfield 10, 3) := by decide +kernel
theorem dX4_leastWeightMeant_27 : decode cX4_leastWeightMeant 27 = .ok (.getfield 123, 3) := by decide +kernel
theorem dX4_leastWeightMeant_30 : decode cX4_leastWeightMeant 30 = .ok (.invokevirtual 366, 3) := by decide +kernel
theorem dX4_leastWeightMeant_33 : decode cX4_leastWeightMeant 33 = .ok (.ifCond .eq 6, 3) := by decide +kernel
theorem dX4_leastWeightMeant_36 : decode cX4_leastWeightMeant 36 = .ok (.iload 4, 2) := by decide +kernel
theorem dX4_leastWeightMeant_38 : decode cX4_leastWeightMeant 38 = .ok (.ireturn, 1) := by decide +kernel
theorem dX4_leastWeightMeant_39 : decode cX4_leastWeightMeant 39 = .ok (.iinc 4 1, 3) := by decide +kernel
theorem dX4_leastWeightMeant_42 : decode cX4_leastWeightMeant 42 = .ok (.goto (-39), 3) := by decide +kernel
theorem dX4_leastWeightMeant_45 : decode cX4_leastWeightMeant 45 = .ok (.iconst (-1), 1) := by decide +kernel
theorem dX4_leastWeightMeant_46 : decode cX4_leastWeightMeant 46 = .ok (.ireturn, 1) := by decide +kernel
theorem dX4_wrongIn_0 : decode cX4_wrongIn 0 = .ok (.iconst 0, 1) := by decide +kernel
theorem dX4_wrongIn_1 : decode cX4_wrongIn 1 = .ok (.istore_n 3, 1) := by decide +kernel
theorem dX4_wrongIn_2 : decode cX4_wrongIn 2 = .ok (.iload_n 3, 1) := by decide +kernel
theorem dX4_wrongIn_3 : decode cX4_wrongIn 3 = .ok (.iload_n 2, 1) := by decide +kernel
theorem dX4_wrongIn_4 : decode cX4_wrongIn 4 = .ok (.if_icmp .ge 119, 3) := by decide +kernel
theorem dX4_wrongIn_7 : decode cX4_wrongIn 7 = .ok (.iload_n 3, 1) := by decide +kernel
theorem dX4_wrongIn_8 : decode cX4_wrongIn 8 = .ok (.i2l, 1) := by decide +kernel
theorem dX4_wrongIn_9 : decode cX4_wrongIn 9 = .ok (.aload_n 0, 1) := by decide +kernel
theorem dX4_wrongIn_10 : decode cX4_wrongIn 10 = .ok (.getfield 10, 3) := by decide +kernel
theorem dX4_wrongIn_13 : decode cX4_wrongIn 13 = .ok (.getfield 123, 3) := by decide +kernel
theorem dX4_wrongIn_16 : decode cX4_wrongIn 16 = .ok (.i2l, 1) := by decide +kernel
theorem dX4_wrongIn_17 : decode cX4_wrongIn 17 = .ok (.lmul, 1) := by decide +kernel
theorem dX4_wrongIn_18 : decode cX4_wrongIn 18 = .ok (.lstore 4, 2) := by decide +kernel
theorem dX4_wrongIn_20 : decode cX4_wrongIn 20 = .ok (.aload_n 0, 1) := by decide +kernel
theorem dX4_wrongIn_21 : decode cX4_wrongIn 21 = .ok (.getfield 25, 3) := by decide +kernel
theorem dX4_wrongIn_24 : decode cX4_wrongIn 24 = .ok (.iload_n 1, 1) := by decide +kernel
theorem dX4_wrongIn_25 : decode cX4_wrongIn 25 = .ok (.iload_n 3, 1) := by decide +kernel
theorem dX4_wrongIn_26 : decode cX4_wrongIn 26 = .ok (.invokevirtual 95, 3) := by decide +kernel
theorem dX4_wrongIn_29 : decode cX4_wrongIn 29 = .ok (.lload 4, 2) := by decide +kernel
theorem dX4_wrongIn_31 : decode cX4_wrongIn 31 = .ok (.lsub, 1) := by decide +kernel
theorem dX4_wrongIn_32 : decode cX4_wrongIn 32 = .ok (.lstore 6, 2) := by decide +kernel
theorem dX4_wrongIn_34 : decode cX4_wrongIn 34 = .ok (.iload_n 3, 1) := by decide +kernel
theorem dX4_wrongIn_35 : decode cX4_wrongIn 35 = .ok (.aload_n 0, 1) := by decide +kernel
theorem dX4_wrongIn_36 : decode cX4_wrongIn 36 = .ok (.getfield 10, 3) := by decide +kernel
theorem dX4_wrongIn_39 : decode cX4_wrongIn 39 = .ok (.getfield 123, 3) := by decide +kernel
theorem dX4_wrongIn_42 : decode cX4_wrongIn 42 = .ok (.if_icmp .ge 24, 3) := by decide +kernel
theorem dX4_wrongIn_45 : decode cX4_wrongIn 45 = .ok (.lload 6, 2) := by decide +kernel
theorem dX4_wrongIn_47 : decode cX4_wrongIn 47 = .ok (.lconst 0, 1) := by decide +kernel
theorem dX4_wrongIn_48 : decode cX4_wrongIn 48 = .ok (.lcmp, 1) := by decide +kernel
theorem dX4_wrongIn_49 : decode cX4_wrongIn 49 = .ok (.ifCond .lt 17, 3) := by decide +kernel
theorem dX4_wrongIn_52 : decode cX4_wrongIn 52 = .ok (.lload 6, 2) := by decide +kernel
theorem dX4_wrongIn_54 : decode cX4_wrongIn 54 = .ok (.aload_n 0, 1) := by decide +kernel
theorem dX4_wrongIn_55 : decode cX4_wrongIn 55 = .ok (.getfield 10, 3) := by decide +kernel
theorem dX4_wrongIn_58 : decode cX4_wrongIn 58 = .ok (.getfield 123, 3) := by decide +kernel
theorem dX4_wrongIn_61 : decode cX4_wrongIn 61 = .ok (.i2l, 1) := by decide +kernel
theorem dX4_wrongIn_62 : decode cX4_wrongIn 62 = .ok (.lcmp, 1) := by decide +kernel
theorem dX4_wrongIn_63 : decode cX4_wrongIn 63 = .ok (.ifCond .lt 5, 3) := by decide +kernel
theorem dX4_wrongIn_66 : decode cX4_wrongIn 66 = .ok (.iload_n 3, 1) := by decide +kernel
theorem dX4_wrongIn_67 : decode cX4_wrongIn 67 = .ok (.ireturn, 1) := by decide +kernel
theorem dX4_wrongIn_68 : decode cX4_wrongIn 68 = .ok (.iload_n 3, 1) := by decide +kernel
theorem dX4_wrongIn_69 : decode cX4_wrongIn 69 = .ok (.ifCond .ne 8, 3) := by decide +kernel
theorem dX4_wrongIn_72 : decode cX4_wrongIn 72 = .ok (.lload 6, 2) := by decide +kernel
theorem dX4_wrongIn_74 : decode cX4_wrongIn 74 = .ok (.goto 26, 3) := by decide +kernel
theorem dX4_wrongIn_77 : decode cX4_wrongIn 77 = .ok (.aload_n 0, 1) := by decide +kernel
theorem dX4_wrongIn_78 : decode cX4_wrongIn 78 = .ok (.getfield 25, 3) := by decide +kernel
theorem dX4_wrongIn_81 : decode cX4_wrongIn 81 = .ok (.iload_n 1, 1) := by decide +kernel
theorem dX4_wrongIn_82 : decode cX4_wrongIn 82 = .ok (.iload_n 3, 1) := by decide +kernel
theorem dX4_wrongIn_83 : decode cX4_wrongIn 83 = .ok (.iconst 1, 1) := by decide +kernel
theorem dX4_wrongIn_84 : decode cX4_wrongIn 84 = .ok (.isub, 1) := by decide +kernel
theorem dX4_wrongIn_85 : decode cX4_wrongIn 85 = .ok (.invokevirtual 95, 3) := by decide +kernel
theorem dX4_wrongIn_88 : decode cX4_wrongIn 88 = .ok (.lload 4, 2) := by decide +kernel
theorem dX4_wrongIn_90 : decode cX4_wrongIn 90 = .ok (.lsub, 1) := by decide +kernel
theorem dX4_wrongIn_91 : decode cX4_wrongIn 91 = .ok (.aload_n 0, 1) := by decide +kernel
theorem dX4_wrongIn_92 : decode cX4_wrongIn 92 = .ok (.getfield 10, 3) := by decide +kernel
theorem dX4_wrongIn_95 : decode cX4_wrongIn 95 = .ok (.getfield 123, 3) := by decide +kernel
theorem dX4_wrongIn_98 : decode cX4_wrongIn 98 = .ok (.i2l, 1) := by decide +kernel
theorem dX4_wrongIn_99 : decode cX4_wrongIn 99 = .ok (.ladd, 1) := by decide +kernel
theorem dX4_wrongIn_100 : decode cX4_wrongIn 100 = .ok (.lstore 8, 2) := by decide +kernel
theorem dX4_wrongIn_102 : decode cX4_wrongIn 102 = .ok (.lload 6, 2) := by decide +kernel
theorem dX4_wrongIn_104 : decode cX4_wrongIn 104 = .ok (.lload 8, 2) := by decide +kernel
theorem dX4_wrongIn_106 : decode cX4_wrongIn 106 = .ok (.lsub, 1) := by decide +kernel
theorem dX4_wrongIn_107 : decode cX4_wrongIn 107 = .ok (.invokestatic 374, 3) := by decide +kernel
theorem dX4_wrongIn_110 : decode cX4_wrongIn 110 = .ok (.lconst 1, 1) := by decide +kernel
theorem dX4_wrongIn_111 : decode cX4_wrongIn 111 = .ok (.lcmp, 1) := by decide +kernel
theorem dX4_wrongIn_112 : decode cX4_wrongIn 112 = .ok (.ifCond .le 5, 3) := by decide +kernel
theorem dX4_wrongIn_115 : decode cX4_wrongIn 115 = .ok (.iload_n 3, 1) := by decide +kernel
theorem dX4_wrongIn_116 : decode cX4_wrongIn 116 = .ok (.ireturn, 1) := by decide +kernel
theorem dX4_wrongIn_117 : decode cX4_wrongIn 117 = .ok (.iinc 3 1, 3) := by decide +kernel
theorem dX4_wrongIn_120 : decode cX4_wrongIn 120 = .ok (.goto (-118), 3) := by decide +kernel
theorem dX4_wrongIn_123 : decode cX4_wrongIn 123 = .ok (.iload_n 2, 1) := by decide +kernel
theorem dX4_wrongIn_124 : decode cX4_wrongIn 124 = .ok (.aload_n 0, 1) := by decide +kernel
theorem dX4_wrongIn_125 : decode cX4_wrongIn 125 = .ok (.getfield 10, 3) := by decide +kernel
theorem dX4_wrongIn_128 : decode cX4_wrongIn 128 = .ok (.getfield 123, 3) := by decide +kernel
theorem dX4_wrongIn_131 : decode cX4_wrongIn 131 = .ok (.if_icmp .ge 7, 3) := by decide +kernel
theorem dX4_wrongIn_134 : decode cX4_wrongIn 134 = .ok (.iload_n 2, 1) := by decide +kernel
theorem dX4_wrongIn_135 : decode cX4_wrongIn 135 = .ok (.goto 4, 3) := by decide +kernel
theorem dX4_wrongIn_138 : decode cX4_wrongIn 138 = .ok (.iconst (-1), 1) := by decide +kernel
theorem dX4_wrongIn_139 : decode cX4_wrongIn 139 = .ok (.ireturn, 1) := by decide +kernel
theorem dX4_allAlong_0 : decode cX4_allAlong 0 = .ok (.iconst 0, 1) := by decide +kernel
theorem dX4_allAlong_1 : decode cX4_allAlong 1 = .ok (.istore_n 3, 1) := by decide +kernel
theorem dX4_allAlong_2 : decode cX4_allAlong 2 = .ok (.iconst 0, 1) := by decide +kernel
theorem dX4_allAlong_3 : decode cX4_allAlong 3 = .ok (.istore 4, 2) := by decide +kernel
theorem dX4_allAlong_5 : decode cX4_allAlong 5 = .ok (.iload 4, 2) := by decide +kernel
theorem dX4_allAlong_7 : decode cX4_allAlong 7 = .ok (.aload_n 0, 1) := by decide +kernel
theorem dX4_allAlong_8 : decode cX4_allAlong 8 = .ok (.getfield 10, 3) := by decide +kernel
theorem dX4_allAlong_11 : decode cX4_allAlong 11 = .ok (.getfield 123, 3) := by decide +kernel
theorem dX4_allAlong_14 : decode cX4_allAlong 14 = .ok (.if_icmp .ge 31, 3) := by decide +kernel
theorem dX4_allAlong_17 : decode cX4_allAlong 17 = .ok (.iload_n 3, 1) := by decide +kernel
theorem dX4_allAlong_18 : decode cX4_allAlong 18 = .ok (.aload_n 0, 1) := by decide +kernel
theorem dX4_allAlong_19 : decode cX4_allAlong 19 = .ok (.getfield 10, 3) := by decide +kernel
theorem dX4_allAlong_22 : decode cX4_allAlong 22 = .ok (.iload_n 2, 1) := by decide +kernel
theorem dX4_allAlong_23 : decode cX4_allAlong 23 = .ok (.aload_n 0, 1) := by decide +kernel
theorem dX4_allAlong_24 : decode cX4_allAlong 24 = .ok (.getfield 25, 3) := by decide +kernel
theorem dX4_allAlong_27 : decode cX4_allAlong 27 = .ok (.iload_n 1, 1) := by decide +kernel
theorem dX4_allAlong_28 : decode cX4_allAlong 28 = .ok (.iload 4, 2) := by decide +kernel
theorem dX4_allAlong_30 : decode cX4_allAlong 30 = .ok (.invokevirtual 95, 3) := by decide +kernel
theorem dX4_allAlong_33 : decode cX4_allAlong 33 = .ok (.l2i, 1) := by decide +kernel
theorem dX4_allAlong_34 : decode cX4_allAlong 34 = .ok (.invokevirtual 247, 3) := by decide +kernel
theorem dX4_allAlong_37 : decode cX4_allAlong 37 = .ok (.iadd, 1) := by decide +kernel
theorem dX4_allAlong_38 : decode cX4_allAlong 38 = .ok (.istore_n 3, 1) := by decide +kernel
theorem dX4_allAlong_39 : decode cX4_allAlong 39 = .ok (.iinc 4 1, 3) := by decide +kernel
theorem dX4_allAlong_42 : decode cX4_allAlong 42 = .ok (.goto (-37), 3) := by decide +kernel
theorem dX4_allAlong_45 : decode cX4_allAlong 45 = .ok (.iload_n 3, 1) := by decide +kernel
theorem dX4_allAlong_46 : decode cX4_allAlong 46 = .ok (.ireturn, 1) := by decide +kernel
theorem dX4_firstHeardAlong_0 : decode cX4_firstHeardAlong 0 = .ok (.iconst 0, 1) := by decide +kernel
theorem dX4_firstHeardAlong_1 : decode cX4_firstHeardAlong 1 = .ok (.istore_n 3, 1) := by decide +kernel
theorem dX4_firstHeardAlong_2 : decode cX4_firstHeardAlong 2 = .ok (.iload_n 3, 1) := by decide +kernel
theorem dX4_firstHeardAlong_3 : decode cX4_firstHeardAlong 3 = .ok (.aload_n 0, 1) := by decide +kernel
theorem dX4_firstHeardAlong_4 : decode cX4_firstHeardAlong 4 = .ok (.getfield 10, 3) := by decide +kernel
theorem dX4_firstHeardAlong_7 : decode cX4_firstHeardAlong 7 = .ok (.getfield 123, 3) := by decide +kernel
theorem dX4_firstHeardAlong_10 : decode cX4_firstHeardAlong 10 = .ok (.if_icmp .ge 39, 3) := by decide +kernel
theorem dX4_firstHeardAlong_13 : decode cX4_firstHeardAlong 13 = .ok (.aload_n 0, 1) := by decide +kernel
theorem dX4_firstHeardAlong_14 : decode cX4_firstHeardAlong 14 = .ok (.getfield 10, 3) := by decide +kernel
theorem dX4_firstHeardAlong_17 : decode cX4_firstHeardAlong 17 = .ok (.iload_n 2, 1) := by decide +kernel
theorem dX4_firstHeardAlong_18 : decode cX4_firstHeardAlong 18 = .ok (.aload_n 0, 1) := by decide +kernel
theorem dX4_firstHeardAlong_19 : decode cX4_firstHeardAlong 19 = .ok (.getfield 25, 3) := by decide +kernel
theorem dX4_firstHeardAlong_22 : decode cX4_firstHeardAlong 22 = .ok (.iload_n 1, 1) := by decide +kernel
theorem dX4_firstHeardAlong_23 : decode cX4_firstHeardAlong 23 = .ok (.iload_n 3, 1) := by decide +kernel
theorem dX4_firstHeardAlong_24 : decode cX4_firstHeardAlong 24 = .ok (.invokevirtual 95, 3) := by decide +kernel
theorem dX4_firstHeardAlong_27 : decode cX4_firstHeardAlong 27 = .ok (.l2i, 1) := by decide +kernel
theorem dX4_firstHeardAlong_28 : decode cX4_firstHeardAlong 28 = .ok (.invokevirtual 247, 3) := by decide +kernel
theorem dX4_firstHeardAlong_31 : decode cX4_firstHeardAlong 31 = .ok (.aload_n 0, 1) := by decide +kernel
theorem dX4_firstHeardAlong_32 : decode cX4_firstHeardAlong 32 = .ok (.getfield 10, 3) := by decide +kernel
theorem dX4_firstHeardAlong_35 : decode cX4_firstHeardAlong 35 = .ok (.getfield 143, 3) := by decide +kernel
theorem dX4_firstHeardAlong_38 : decode cX4_firstHeardAlong 38 = .ok (.if_icmp .lt 5, 3) := by decide +kernel
theorem dX4_firstHeardAlong_41 : decode cX4_firstHeardAlong 41 = .ok (.iload_n 3, 1) := by decide +kernel
theorem dX4_firstHeardAlong_42 : decode cX4_firstHeardAlong 42 = .ok (.ireturn, 1) := by decide +kernel
theorem dX4_firstHeardAlong_43 : decode cX4_firstHeardAlong 43 = .ok (.iinc 3 1, 3) := by decide +kernel
theorem dX4_firstHeardAlong_46 : decode cX4_firstHeardAlong 46 = .ok (.goto (-44), 3) := by decide +kernel
theorem dX4_firstHeardAlong_49 : decode cX4_firstHeardAlong 49 = .ok (.iconst (-1), 1) := by decide +kernel
theorem dX4_firstHeardAlong_50 : decode cX4_firstHeardAlong 50 = .ok (.ireturn, 1) := by decide +kernel

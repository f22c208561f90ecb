theorem dX0_init_0 : decode cX0_init 0 = .ok (.aload_n 0, 1) := by decide +kernel
theorem dX0_init_1 : decode cX0_init 1 = .ok (.invokespecial 3, 3) := by decide +kernel
theorem dX0_init_4 : decode cX0_init 4 = .ok (.aload_n 0, 1) := by decide +kernel
theorem dX0_init_5 : decode cX0_init 5 = .ok (.bipush 36, 2) := by decide +kernel
theorem dX0_init_7 : decode cX0_init 7 = .ok (.newarray .int, 2) := by decide +kernel
theorem dX0_init_9 : decode cX0_init 9 = .ok (.putfield 9, 3) := by decide +kernel
theorem dX0_init_12 : decode cX0_init 12 = .ok (.aload_n 0, 1) := by decide +kernel
theorem dX0_init_13 : decode cX0_init 13 = .ok (.bipush 8, 2) := by decide +kernel
theorem dX0_init_15 : decode cX0_init 15 = .ok (.newarray .int, 2) := by decide +kernel
theorem dX0_init_17 : decode cX0_init 17 = .ok (.putfield 15, 3) := by decide +kernel
theorem dX0_init_20 : decode cX0_init 20 = .ok (.aload_n 0, 1) := by decide +kernel
theorem dX0_init_21 : decode cX0_init 21 = .ok (.bipush 8, 2) := by decide +kernel
theorem dX0_init_23 : decode cX0_init 23 = .ok (.newarray .int, 2) := by decide +kernel
theorem dX0_init_25 : decode cX0_init 25 = .ok (.putfield 18, 3) := by decide +kernel
theorem dX0_init_28 : decode cX0_init 28 = .ok (.aload_n 0, 1) := by decide +kernel
theorem dX0_init_29 : decode cX0_init 29 = .ok (.bipush 8, 2) := by decide +kernel
theorem dX0_init_31 : decode cX0_init 31 = .ok (.newarray .int, 2) := by decide +kernel
theorem dX0_init_33 : decode cX0_init 33 = .ok (.putfield 21, 3) := by decide +kernel
theorem dX0_init_36 : decode cX0_init 36 = .ok (.aload_n 0, 1) := by decide +kernel
theorem dX0_init_37 : decode cX0_init 37 = .ok (.iconst 4, 1) := by decide +kernel
theorem dX0_init_38 : decode cX0_init 38 = .ok (.putfield 24, 3) := by decide +kernel
theorem dX0_init_41 : decode cX0_init 41 = .ok (.aload_n 0, 1) := by decide +kernel
theorem dX0_init_42 : decode cX0_init 42 = .ok (.iconst 1, 1) := by decide +kernel
theorem dX0_init_43 : decode cX0_init 43 = .ok (.putfield 28, 3) := by decide +kernel
theorem dX0_init_46 : decode cX0_init 46 = .ok (.aload_n 0, 1) := by decide +kernel
theorem dX0_init_47 : decode cX0_init 47 = .ok (.iconst 4, 1) := by decide +kernel
theorem dX0_init_48 : decode cX0_init 48 = .ok (.invokevirtual 31, 3) := by decide +kernel
theorem dX0_init_51 : decode cX0_init 51 = .ok (.return_, 1) := by decide +kernel
theorem dX0_layOut_0 : decode cX0_layOut 0 = .ok (.aload_n 0, 1) := by decide +kernel
theorem dX0_layOut_1 : decode cX0_layOut 1 = .ok (.iload_n 1, 1) := by decide +kernel
theorem dX0_layOut_2 : decode cX0_layOut 2 = .ok (.putfield 35, 3) := by decide +kernel
theorem dX0_layOut_5 : decode cX0_layOut 5 = .ok (.iconst 0, 1) := by decide +kernel
theorem dX0_layOut_6 : decode cX0_layOut 6 = .ok (.istore_n 2, 1) := by decide +kernel
theorem dX0_layOut_7 : decode cX0_layOut 7 = .ok (.iload_n 2, 1) := by decide +kernel
theorem dX0_layOut_8 : decode cX0_layOut 8 = .ok (.bipush 36, 2) := by decide +kernel
theorem dX0_layOut_10 : decode cX0_layOut 10 = .ok (.if_icmp .ge 16, 3) := by decide +kernel
theorem dX0_layOut_13 : decode cX0_layOut 13 = .ok (.aload_n 0, 1) := by decide +kernel
theorem dX0_layOut_14 : decode cX0_layOut 14 = .ok (.getfield 9, 3) := by decide +kernel
theorem dX0_layOut_17 : decode cX0_layOut 17 = .ok (.iload_n 2, 1) := by decide +kernel
theorem dX0_layOut_18 : decode cX0_layOut 18 = .ok (.iconst 3, 1) := by decide +kernel
theorem dX0_layOut_19 : decode cX0_layOut 19 = .ok (.iastore, 1) := by decide +kernel
theorem dX0_layOut_20 : decode cX0_layOut 20 = .ok (.iinc 2 1, 3) := by decide +kernel
theorem dX0_layOut_23 : decode cX0_layOut 23 = .ok (.goto (-16), 3) := by decide +kernel
theorem dX0_layOut_26 : decode cX0_layOut 26 = .ok (.return_, 1) := by decide +kernel
theorem dX0_takeFrom_0 : decode cX0_takeFrom 0 = .ok (.aload_n 1, 1) := by decide +kernel
theorem dX0_takeFrom_1 : decode cX0_takeFrom 1 = .ok (.getfield 9, 3) := by decide +kernel
theorem dX0_takeFrom_4 : decode cX0_takeFrom 4 = .ok (.iconst 0, 1) := by decide +kernel
theorem dX0_takeFrom_5 : decode cX0_takeFrom 5 = .ok (.aload_n 0, 1) := by decide +kernel
theorem dX0_takeFrom_6 : decode cX0_takeFrom 6 = .ok (.getfield 9, 3) := by decide +kernel
theorem dX0_takeFrom_9 : decode cX0_takeFrom 9 = .ok (.iconst 0, 1) := by decide +kernel
theorem dX0_takeFrom_10 : decode cX0_takeFrom 10 = .ok (.bipush 36, 2) := by decide +kernel
theorem dX0_takeFrom_12 : decode cX0_takeFrom 12 = .ok (.invokestatic 38, 3) := by decide +kernel
theorem dX0_takeFrom_15 : decode cX0_takeFrom 15 = .ok (.aload_n 1, 1) := by decide +kernel
theorem dX0_takeFrom_16 : decode cX0_takeFrom 16 = .ok (.getfield 15, 3) := by decide +kernel
theorem dX0_takeFrom_19 : decode cX0_takeFrom 19 = .ok (.iconst 0, 1) := by decide +kernel
theorem dX0_takeFrom_20 : decode cX0_takeFrom 20 = .ok (.aload_n 0, 1) := by decide +kernel
theorem dX0_takeFrom_21 : decode cX0_takeFrom 21 = .ok (.getfield 15, 3) := by decide +kernel
theorem dX0_takeFrom_24 : decode cX0_takeFrom 24 = .ok (.iconst 0, 1) := by decide +kernel
theorem dX0_takeFrom_25 : decode cX0_takeFrom 25 = .ok (.bipush 8, 2) := by decide +kernel
theorem dX0_takeFrom_27 : decode cX0_takeFrom 27 = .ok (.invokestatic 38, 3) := by decide +kernel
theorem dX0_takeFrom_30 : decode cX0_takeFrom 30 = .ok (.aload_n 1, 1) := by decide +kernel
theorem dX0_takeFrom_31 : decode cX0_takeFrom 31 = .ok (.getfield 18, 3) := by decide +kernel
theorem dX0_takeFrom_34 : decode cX0_takeFrom 34 = .ok (.iconst 0, 1) := by decide +kernel
theorem dX0_takeFrom_35 : decode cX0_takeFrom 35 = .ok (.aload_n 0, 1) := by decide +kernel
theorem dX0_takeFrom_36 : decode cX0_takeFrom 36 = .ok (.getfield 18, 3) := by decide +kernel
theorem dX0_takeFrom_39 : decode cX0_takeFrom 39 = .ok (.iconst 0, 1) := by decide +kernel
theorem dX0_takeFrom_40 : decode cX0_takeFrom 40 = .ok (.bipush 8, 2) := by decide +kernel
theorem dX0_takeFrom_42 : decode cX0_takeFrom 42 = .ok (.invokestatic 38, 3) := by decide +kernel
theorem dX0_takeFrom_45 : decode cX0_takeFrom 45 = .ok (.aload_n 1, 1) := by decide +kernel
theorem dX0_takeFrom_46 : decode cX0_takeFrom 46 = .ok (.getfield 21, 3) := by decide +kernel
theorem dX0_takeFrom_49 : decode cX0_takeFrom 49 = .ok (.iconst 0, 1) := by decide +kernel
theorem dX0_takeFrom_50 : decode cX0_takeFrom 50 = .ok (.aload_n 0, 1) := by decide +kernel
theorem dX0_takeFrom_51 : decode cX0_takeFrom 51 = .ok (.getfield 21, 3) := by decide +kernel
theorem dX0_takeFrom_54 : decode cX0_takeFrom 54 = .ok (.iconst 0, 1) := by decide +kernel
theorem dX0_takeFrom_55 : decode cX0_takeFrom 55 = .ok (.bipush 8, 2) := by decide +kernel
theorem dX0_takeFrom_57 : decode cX0_takeFrom 57 = .ok (.invokestatic 38, 3) := by decide +kernel
theorem dX0_takeFrom_60 : decode cX0_takeFrom 60 = .ok (.aload_n 0, 1) := by decide +kernel
theorem dX0_takeFrom_61 : decode cX0_takeFrom 61 = .ok (.aload_n 1, 1) := by decide +kernel
theorem dX0_takeFrom_62 : decode cX0_takeFrom 62 = .ok (.getfield 35, 3) := by decide +kernel
theorem dX0_takeFrom_65 : decode cX0_takeFrom 65 = .ok (.putfield 35, 3) := by decide +kernel
theorem dX0_takeFrom_68 : decode cX0_takeFrom 68 = .ok (.aload_n 0, 1) := by decide +kernel
theorem dX0_takeFrom_69 : decode cX0_takeFrom 69 = .ok (.aload_n 1, 1) := by decide +kernel
theorem dX0_takeFrom_70 : decode cX0_takeFrom 70 = .ok (.getfield 44, 3) := by decide +kernel
theorem dX0_takeFrom_73 : decode cX0_takeFrom 73 = .ok (.putfield 44, 3) := by decide +kernel
theorem dX0_takeFrom_76 : decode cX0_takeFrom 76 = .ok (.aload_n 0, 1) := by decide +kernel
theorem dX0_takeFrom_77 : decode cX0_takeFrom 77 = .ok (.aload_n 1, 1) := by decide +kernel
theorem dX0_takeFrom_78 : decode cX0_takeFrom 78 = .ok (.getfield 24, 3) := by decide +kernel
theorem dX0_takeFrom_81 : decode cX0_takeFrom 81 = .ok (.putfield 24, 3) := by decide +kernel
theorem dX0_takeFrom_84 : decode cX0_takeFrom 84 = .ok (.aload_n 0, 1) := by decide +kernel
theorem dX0_takeFrom_85 : decode cX0_takeFrom 85 = .ok (.aload_n 1, 1) := by decide +kernel
theorem dX0_takeFrom_86 : decode cX0_takeFrom 86 = .ok (.getfield 47, 3) := by decide +kernel
theorem dX0_takeFrom_89 : decode cX0_takeFrom 89 = .ok (.putfield 47, 3) := by decide +kernel
theorem dX0_takeFrom_92 : decode cX0_takeFrom 92 = .ok (.aload_n 0, 1) := by decide +kernel
theorem dX0_takeFrom_93 : decode cX0_takeFrom 93 = .ok (.aload_n 1, 1) := by decide +kernel
theorem dX0_takeFrom_94 : decode cX0_takeFrom 94 = .ok (.getfield 28, 3) := by decide +kernel
theorem dX0_takeFrom_97 : decode cX0_takeFrom 97 = .ok (.putfield 28, 3) := by decide +kernel
theorem dX0_takeFrom_100 : decode cX0_takeFrom 100 = .ok (.return_, 1) := by decide +kernel
theorem dX0_cells_0 : decode cX0_cells 0 = .ok (.aload_n 0, 1) := by decide +kernel
theorem dX0_cells_1 : decode cX0_cells 1 = .ok (.getfield 35, 3) := by decide +kernel
theorem dX0_cells_4 : decode cX0_cells 4 = .ok (.aload_n 0, 1) := by decide +kernel
theorem dX0_cells_5 : decode cX0_cells 5 = .ok (.getfield 35, 3) := by decide +kernel
theorem dX0_cells_8 : decode cX0_cells 8 = .ok (.imul, 1) := by decide +kernel
theorem dX0_cells_9 : decode cX0_cells 9 = .ok (.bipush 36, 2) := by decide +kernel
theorem dX0_cells_11 : decode cX0_cells 11 = .ok (.invokestatic 50, 3) := by decide +kernel
theorem dX0_cells_14 : decode cX0_cells 14 = .ok (.ireturn, 1) := by decide +kernel
theorem dX0_rowOf_0 : decode cX0_rowOf 0 = .ok (.aload_n 0, 1) := by decide +kernel
theorem dX0_rowOf_1 : decode cX0_rowOf 1 = .ok (.getfield 35, 3) := by decide +kernel
theorem dX0_rowOf_4 : decode cX0_rowOf 4 = .ok (.ifCond .le 12, 3) := by decide +kernel
theorem dX0_rowOf_7 : decode cX0_rowOf 7 = .ok (.iload_n 1, 1) := by decide +kernel
theorem dX0_rowOf_8 : decode cX0_rowOf 8 = .ok (.aload_n 0, 1) := by decide +kernel
theorem dX0_rowOf_9 : decode cX0_rowOf 9 = .ok (.getfield 35, 3) := by decide +kernel
theorem dX0_rowOf_12 : decode cX0_rowOf 12 = .ok (.idiv, 1) := by decide +kernel
theorem dX0_rowOf_13 : decode cX0_rowOf 13 = .ok (.goto 4, 3) := by decide +kernel
theorem dX0_rowOf_16 : decode cX0_rowOf 16 = .ok (.iconst 0, 1) := by decide +kernel
theorem dX0_rowOf_17 : decode cX0_rowOf 17 = .ok (.ireturn, 1) := by decide +kernel
theorem dX0_columnOf_0 : decode cX0_columnOf 0 = .ok (.aload_n 0, 1) := by decide +kernel
theorem dX0_columnOf_1 : decode cX0_columnOf 1 = .ok (.getfield 35, 3) := by decide +kernel
theorem dX0_columnOf_4 : decode cX0_columnOf 4 = .ok (.ifCond .le 12, 3) := by decide +kernel
theorem dX0_columnOf_7 : decode cX0_columnOf 7 = .ok (.iload_n 1, 1) := by decide +kernel
theorem dX0_columnOf_8 : decode cX0_columnOf 8 = .ok (.aload_n 0, 1) := by decide +kernel
theorem dX0_columnOf_9 : decode cX0_columnOf 9 = .ok (.getfield 35, 3) := by decide +kernel
theorem dX0_columnOf_12 : decode cX0_columnOf 12 = .ok (.irem, 1) := by decide +kernel
theorem dX0_columnOf_13 : decode cX0_columnOf 13 = .ok (.goto 4, 3) := by decide +kernel
theorem dX0_columnOf_16 : decode cX0_columnOf 16 = .ok (.iconst 0, 1) := by decide +kernel
theorem dX0_columnOf_17 : decode cX0_columnOf 17 = .ok (.ireturn, 1) := by decide +kernel
theorem dX0_cellAt_0 : decode cX0_cellAt 0 = .ok (.iload_n 1, 1) := by decide +kernel
theorem dX0_cellAt_1 : decode cX0_cellAt 1 = .ok (.aload_n 0, 1) := by decide +kernel
theorem dX0_cellAt_2 : decode cX0_cellAt 2 = .ok (.getfield 35, 3) := by decide +kernel
theorem dX0_cellAt_5 : decode cX0_cellAt 5 = .ok (.imul, 1) := by decide +kernel
theorem dX0_cellAt_6 : decode cX0_cellAt 6 = .ok (.iload_n 2, 1) := by decide +kernel
theorem dX0_cellAt_7 : decode cX0_cellAt 7 = .ok (.iadd, 1) := by decide +kernel
theorem dX0_cellAt_8 : decode cX0_cellAt 8 = .ok (.ireturn, 1) := by decide +kernel
theorem dX0_stonesOn_0 : decode cX0_stonesOn 0 = .ok (.iload_n 1, 1) := by decide +kernel
theorem dX0_stonesOn_1 : decode cX0_stonesOn 1 = .ok (.ifCond .lt 18, 3) := by decide +kernel
theorem dX0_stonesOn_4 : decode cX0_stonesOn 4 = .ok (.iload_n 1, 1) := by decide +kernel
theorem dX0_stonesOn_5 : decode cX0_stonesOn 5 = .ok (.bipush 36, 2) := by decide +kernel
theorem dX0_stonesOn_7 : decode cX0_stonesOn 7 = .ok (.if_icmp .ge 12, 3) := by decide +kernel
theorem dX0_stonesOn_10 : decode cX0_stonesOn 10 = .ok (.aload_n 0, 1) := by decide +kernel
theorem dX0_stonesOn_11 : decode cX0_stonesOn 11 = .ok (.getfield 9, 3) := by decide +kernel
theorem dX0_stonesOn_14 : decode cX0_stonesOn 14 = .ok (.iload_n 1, 1) := by decide +kernel
theorem dX0_stonesOn_15 : decode cX0_stonesOn 15 = .ok (.iaload, 1) := by decide +kernel
theorem dX0_stonesOn_16 : decode cX0_stonesOn 16 = .ok (.goto 4, 3) := by decide +kernel
theorem dX0_stonesOn_19 : decode cX0_stonesOn 19 = .ok (.iconst 0, 1) := by decide +kernel
theorem dX0_stonesOn_20 : decode cX0_stonesOn 20 = .ok (.ireturn, 1) := by decide +kernel
theorem dX0_pour_0 : decode cX0_pour 0 = .ok (.iload_n 1, 1) := by decide +kernel
theorem dX0_pour_1 : decode cX0_pour 1 = .ok (.iconst 0, 1) := by decide +kernel
theorem dX0_pour_2 : decode cX0_pour 2 = .ok (.bipush 35, 2) := by decide +kernel
theorem dX0_pour_4 : decode cX0_pour 4 = .ok (.invokestatic 56, 3) := by decide +kernel
theorem dX0_pour_7 : decode cX0_pour 7 = .ok (.ifCond .eq 10, 3) := by decide +kernel
theorem dX0_pour_10 : decode cX0_pour 10 = .ok (.aload_n 0, 1) := by decide +kernel
theorem dX0_pour_11 : decode cX0_pour 11 = .ok (.getfield 9, 3) := by decide +kernel
theorem dX0_pour_14 : decode cX0_pour 14 = .ok (.iload_n 1, 1) := by decide +kernel
theorem dX0_pour_15 : decode cX0_pour 15 = .ok (.iload_n 2, 1) := by decide +kernel
theorem dX0_pour_16 : decode cX0_pour 16 = .ok (.iastore, 1) := by decide +kernel
theorem dX0_pour_17 : decode cX0_pour 17 = .ok (.return_, 1) := by decide +kernel
theorem dX0_wetOn_0 : decode cX0_wetOn 0 = .ok (.iconst 0, 1) := by decide +kernel
theorem dX0_wetOn_1 : decode cX0_wetOn 1 = .ok (.aload_n 0, 1) := by decide +kernel
theorem dX0_wetOn_2 : decode cX0_wetOn 2 = .ok (.iload_n 1, 1) := by decide +kernel
theorem dX0_wetOn_3 : decode cX0_wetOn 3 = .ok (.invokevirtual 60, 3) := by decide +kernel
theorem dX0_wetOn_6 : decode cX0_wetOn 6 = .ok (.iload_n 2, 1) := by decide +kernel
theorem dX0_wetOn_7 : decode cX0_wetOn 7 = .ok (.isub, 1) := by decide +kernel
theorem dX0_wetOn_8 : decode cX0_wetOn 8 = .ok (.invokestatic 64, 3) := by decide +kernel
theorem dX0_wetOn_11 : decode cX0_wetOn 11 = .ok (.ireturn, 1) := by decide +kernel
theorem dX0_rakeAll_0 : decode cX0_rakeAll 0 = .ok (.iconst 0, 1) := by decide +kernel
theorem dX0_rakeAll_1 : decode cX0_rakeAll 1 = .ok (.istore_n 1, 1) := by decide +kernel
theorem dX0_rakeAll_2 : decode cX0_rakeAll 2 = .ok (.iload_n 1, 1) := by decide +kernel
theorem dX0_rakeAll_3 : decode cX0_rakeAll 3 = .ok (.aload_n 0, 1) := by decide +kernel
theorem dX0_rakeAll_4 : decode cX0_rakeAll 4 = .ok (.invokevirtual 67, 3) := by decide +kernel
theorem dX0_rakeAll_7 : decode cX0_rakeAll 7 = .ok (.if_icmp .ge 37, 3) := by decide +kernel
theorem dX0_rakeAll_10 : decode cX0_rakeAll 10 = .ok (.aload_n 0, 1) := by decide +kernel
theorem dX0_rakeAll_11 : decode cX0_rakeAll 11 = .ok (.getfield 9, 3) := by decide +kernel
theorem dX0_rakeAll_14 : decode cX0_rakeAll 14 = .ok (.iload_n 1, 1) := by decide +kernel
theorem dX0_rakeAll_15 : decode cX0_rakeAll 15 = .ok (.iaload, 1) := by decide +kernel
theorem dX0_rakeAll_16 : decode cX0_rakeAll 16 = .ok (.ifCond .eq 22, 3) := by decide +kernel
theorem dX0_rakeAll_19 : decode cX0_rakeAll 19 = .ok (.aload_n 0, 1) := by decide +kernel
theorem dX0_rakeAll_20 : decode cX0_rakeAll 20 = .ok (.getfield 9, 3) := by decide +kernel
theorem dX0_rakeAll_23 : decode cX0_rakeAll 23 = .ok (.iload_n 1, 1) := by decide +kernel
theorem dX0_rakeAll_24 : decode cX0_rakeAll 24 = .ok (.bipush 9, 2) := by decide +kernel
theorem dX0_rakeAll_26 : decode cX0_rakeAll 26 = .ok (.aload_n 0, 1) := by decide +kernel
theorem dX0_rakeAll_27 : decode cX0_rakeAll 27 = .ok (.getfield 9, 3) := by decide +kernel
theorem dX0_rakeAll_30 : decode cX0_rakeAll 30 = .ok (.iload_n 1, 1) := by decide +kernel
theorem dX0_rakeAll_31 : decode cX0_rakeAll 31 = .ok (.iaload, 1) := by decide +kernel
theorem dX0_rakeAll_32 : decode cX0_rakeAll 32 = .ok (.iconst 1, 1) := by decide +kernel
theorem dX0_rakeAll_33 : decode cX0_rakeAll 33 = .ok (.iadd, 1) := by decide +kernel
theorem dX0_rakeAll_34 : decode cX0_rakeAll 34 = .ok (.invokestatic 50, 3) := by decide +kernel
theorem dX0_rakeAll_37 : decode cX0_rakeAll 37 = .ok (.iastore, 1) := by decide +kernel
theorem dX0_rakeAll_38 : decode cX0_rakeAll 38 = .ok (.iinc 1 1, 3) := by decide +kernel
theorem dX0_rakeAll_41 : decode cX0_rakeAll 41 = .ok (.goto (-39), 3) := by decide +kernel
theorem dX0_rakeAll_44 : decode cX0_rakeAll 44 = .ok (.return_, 1) := by decide +kernel
theorem dX0_allStones_0 : decode cX0_allStones 0 = .ok (.iconst 0, 1) := by decide +kernel
theorem dX0_allStones_1 : decode cX0_allStones 1 = .ok (.istore_n 1, 1) := by decide +kernel
theorem dX0_allStones_2 : decode cX0_allStones 2 = .ok (.iconst 0, 1) := by decide +kernel
theorem dX0_allStones_3 : decode cX0_allStones 3 = .ok (.istore_n 2, 1) := by decide +kernel
theorem dX0_allStones_4 : decode cX0_allStones 4 = .ok (.iload_n 2, 1) := by decide +kernel
theorem dX0_allStones_5 : decode cX0_allStones 5 = .ok (.aload_n 0, 1) := by decide +kernel
theorem dX0_allStones_6 : decode cX0_allStones 6 = .ok (.invokevirtual 67, 3) := by decide +kernel
theorem dX0_allStones_9 : decode cX0_allStones 9 = .ok (.if_icmp .ge 18, 3) := by decide +kernel
theorem dX0_allStones_12 : decode cX0_allStones 12 = .ok (.iload_n 1, 1) := by decide +kernel
theorem dX0_allStones_13 : decode cX0_allStones 13 = .ok (.aload_n 0, 1) := by decide +kernel
theorem dX0_allStones_14 : decode cX0_allStones 14 = .ok (.getfield 9, 3) := by decide +kernel
theorem dX0_allStones_17 : decode cX0_allStones 17 = .ok (.iload_n 2, 1) := by decide +kernel
theorem dX0_allStones_18 : decode cX0_allStones 18 = .ok (.iaload, 1) := by decide +kernel
theorem dX0_allStones_19 : decode cX0_allStones 19 = .ok (.iadd, 1) := by decide +kernel
theorem dX0_allStones_20 : decode cX0_allStones 20 = .ok (.istore_n 1, 1) := by decide +kernel
theorem dX0_allStones_21 : decode cX0_allStones 21 = .ok (.iinc 2 1, 3) := by decide +kernel
theorem dX0_allStones_24 : decode cX0_allStones 24 = .ok (.goto (-20), 3) := by decide +kernel
theorem dX0_allStones_27 : decode cX0_allStones 27 = .ok (.iload_n 1, 1) := by decide +kernel
theorem dX0_allStones_28 : decode cX0_allStones 28 = .ok (.ireturn, 1) := by decide +kernel
theorem dX0_count_0 : decode cX0_count 0 = .ok (.aload_n 0, 1) := by decide +kernel
theorem dX0_count_1 : decode cX0_count 1 = .ok (.getfield 47, 3) := by decide +kernel
theorem dX0_count_4 : decode cX0_count 4 = .ok (.bipush 8, 2) := by decide +kernel
theorem dX0_count_6 : decode cX0_count 6 = .ok (.invokestatic 50, 3) := by decide +kernel
theorem dX0_count_9 : decode cX0_count 9 = .ok (.ireturn, 1) := by decide +kernel
theorem dX0_isFull_0 : decode cX0_isFull 0 = .ok (.aload_n 0, 1) := by decide +kernel
theorem dX0_isFull_1 : decode cX0_isFull 1 = .ok (.getfield 47, 3) := by decide +kernel
theorem dX0_isFull_4 : decode cX0_isFull 4 = .ok (.bipush 8, 2) := by decide +kernel
theorem dX0_isFull_6 : decode cX0_isFull 6 = .ok (.if_icmp .lt 7, 3) := by decide +kernel
theorem dX0_isFull_9 : decode cX0_isFull 9 = .ok (.iconst 1, 1) := by decide +kernel
theorem dX0_isFull_10 : decode cX0_isFull 10 = .ok (.goto 4, 3) := by decide +kernel
theorem dX0_isFull_13 : decode cX0_isFull 13 = .ok (.iconst 0, 1) := by decide +kernel
theorem dX0_isFull_14 : decode cX0_isFull 14 = .ok (.ireturn, 1) := by decide +kernel
theorem dX0_welcome_0 : decode cX0_welcome 0 = .ok (.aload_n 0, 1) := by decide +kernel
theorem dX0_welcome_1 : decode cX0_welcome 1 = .ok (.getfield 47, 3) := by decide +kernel
theorem dX0_welcome_4 : decode cX0_welcome 4 = .ok (.iconst 0, 1) := by decide +kernel
theorem dX0_welcome_5 : decode cX0_welcome 5 = .ok (.bipush 7, 2) := by decide +kernel
theorem dX0_welcome_7 : decode cX0_welcome 7 = .ok (.invokestatic 56, 3) := by decide +kernel
theorem dX0_welcome_10 : decode cX0_welcome 10 = .ok (.ifCond .ne 5, 3) := by decide +kernel
theorem dX0_welcome_13 : decode cX0_welcome 13 = .ok (.iconst (-1), 1) := by decide +kernel
theorem dX0_welcome_14 : decode cX0_welcome 14 = .ok (.ireturn, 1) := by decide +kernel
theorem dX0_welcome_15 : decode cX0_welcome 15 = .ok (.aload_n 0, 1) := by decide +kernel
theorem dX0_welcome_16 : decode cX0_welcome 16 = .ok (.getfield 15, 3) := by decide +kernel
theorem dX0_welcome_19 : decode cX0_welcome 19 = .ok (.aload_n 0, 1) := by decide +kernel
theorem dX0_welcome_20 : decode cX0_welcome 20 = .ok (.getfield 47, 3) := by decide +kernel
theorem dX0_welcome_23 : decode cX0_welcome 23 = .ok (.iload_n 1, 1) := by decide +kernel
theorem dX0_welcome_24 : decode cX0_welcome 24 = .ok (.iastore, 1) := by decide +kernel
theorem dX0_welcome_25 : decode cX0_welcome 25 = .ok (.aload_n 0, 1) := by decide +kernel
theorem dX0_welcome_26 : decode cX0_welcome 26 = .ok (.getfield 18, 3) := by decide +kernel
theorem dX0_welcome_29 : decode cX0_welcome 29 = .ok (.aload_n 0, 1) := by decide +kernel
theorem dX0_welcome_30 : decode cX0_welcome 30 = .ok (.getfield 47, 3) := by decide +kernel
theorem dX0_welcome_33 : decode cX0_welcome 33 = .ok (.iload_n 2, 1) := by decide +kernel
theorem dX0_welcome_34 : decode cX0_welcome 34 = .ok (.iastore, 1) := by decide +kernel
theorem dX0_welcome_35 : decode cX0_welcome 35 = .ok (.aload_n 0, 1) := by decide +kernel
theorem dX0_welcome_36 : decode cX0_welcome 36 = .ok (.getfield 21, 3) := by decide +kernel
theorem dX0_welcome_39 : decode cX0_welcome 39 = .ok (.aload_n 0, 1) := by decide +kernel
theorem dX0_welcome_40 : decode cX0_welcome 40 = .ok (.getfield 47, 3) := by decide +kernel
theorem dX0_welcome_43 : decode cX0_welcome 43 = .ok (.iload_n 3, 1) := by decide +kernel
theorem dX0_welcome_44 : decode cX0_welcome 44 = .ok (.iastore, 1) := by decide +kernel
theorem dX0_welcome_45 : decode cX0_welcome 45 = .ok (.aload_n 0, 1) := by decide +kernel
theorem dX0_welcome_46 : decode cX0_welcome 46 = .ok (.dup, 1) := by decide +kernel
theorem dX0_welcome_47 : decode cX0_welcome 47 = .ok (.getfield 47, 3) := by decide +kernel
theorem dX0_welcome_50 : decode cX0_welcome 50 = .ok (.dup_x1, 1) := by decide +kernel
theorem dX0_welcome_51 : decode cX0_welcome 51 = .ok (.iconst 1, 1) := by decide +kernel
theorem dX0_welcome_52 : decode cX0_welcome 52 = .ok (.iadd, 1) := by decide +kernel
theorem dX0_welcome_53 : decode cX0_welcome 53 = .ok (.putfield 47, 3) := by decide +kernel
theorem dX0_welcome_56 : decode cX0_welcome 56 = .ok (.ireturn, 1) := by decide +kernel
theorem dX0_kindOf_0 : decode cX0_kindOf 0 = .ok (.iload_n 1, 1) := by decide +kernel
theorem dX0_kindOf_1 : decode cX0_kindOf 1 = .ok (.iconst 0, 1) := by decide +kernel
theorem dX0_kindOf_2 : decode cX0_kindOf 2 = .ok (.bipush 7, 2) := by decide +kernel
theorem dX0_kindOf_4 : decode cX0_kindOf 4 = .ok (.invokestatic 56, 3) := by decide +kernel
theorem dX0_kindOf_7 : decode cX0_kindOf 7 = .ok (.ifCond .eq 12, 3) := by decide +kernel
theorem dX0_kindOf_10 : decode cX0_kindOf 10 = .ok (.aload_n 0, 1) := by decide +kernel
theorem dX0_kindOf_11 : decode cX0_kindOf 11 = .ok (.getfield 15, 3) := by decide +kernel
theorem dX0_kindOf_14 : decode cX0_kindOf 14 = .ok (.iload_n 1, 1) := by decide +kernel
theorem dX0_kindOf_15 : decode cX0_kindOf 15 = .ok (.iaload, 1) := by decide +kernel
theorem dX0_kindOf_16 : decode cX0_kindOf 16 = .ok (.goto 4, 3) := by decide +kernel
theorem dX0_kindOf_19 : decode cX0_kindOf 19 = .ok (.iconst (-1), 1) := by decide +kernel
theorem dX0_kindOf_20 : decode cX0_kindOf 20 = .ok (.ireturn, 1) := by decide +kernel
theorem dX0_weightOf_0 : decode cX0_weightOf 0 = .ok (.iload_n 1, 1) := by decide +kernel
theorem dX0_weightOf_1 : decode cX0_weightOf 1 = .ok (.iconst 0, 1) := by decide +kernel
theorem dX0_weightOf_2 : decode cX0_weightOf 2 = .ok (.bipush 7, 2) := by decide +kernel
theorem dX0_weightOf_4 : decode cX0_weightOf 4 = .ok (.invokestatic 56, 3) := by decide +kernel
theorem dX0_weightOf_7 : decode cX0_weightOf 7 = .ok (.ifCond .eq 12, 3) := by decide +kernel
theorem dX0_weightOf_10 : decode cX0_weightOf 10 = .ok (.aload_n 0, 1) := by decide +kernel
theorem dX0_weightOf_11 : decode cX0_weightOf 11 = .ok (.getfield 18, 3) := by decide +kernel
theorem dX0_weightOf_14 : decode cX0_weightOf 14 = .ok (.iload_n 1, 1) := by decide +kernel
theorem dX0_weightOf_15 : decode cX0_weightOf 15 = .ok (.iaload, 1) := by decide +kernel
theorem dX0_weightOf_16 : decode cX0_weightOf 16 = .ok (.goto 4, 3) := by decide +kernel
theorem dX0_weightOf_19 : decode cX0_weightOf 19 = .ok (.iconst 0, 1) := by decide +kernel
theorem dX0_weightOf_20 : decode cX0_weightOf 20 = .ok (.ireturn, 1) := by decide +kernel
theorem dX0_chanceOf_0 : decode cX0_chanceOf 0 = .ok (.iload_n 1, 1) := by decide +kernel
theorem dX0_chanceOf_1 : decode cX0_chanceOf 1 = .ok (.iconst 0, 1) := by decide +kernel
theorem dX0_chanceOf_2 : decode cX0_chanceOf 2 = .ok (.bipush 7, 2) := by decide +kernel
theorem dX0_chanceOf_4 : decode cX0_chanceOf 4 = .ok (.invokestatic 56, 3) := by decide +kernel
theorem dX0_chanceOf_7 : decode cX0_chanceOf 7 = .ok (.ifCond .eq 12, 3) := by decide +kernel
theorem dX0_chanceOf_10 : decode cX0_chanceOf 10 = .ok (.aload_n 0, 1) := by decide +kernel
theorem dX0_chanceOf_11 : decode cX0_chanceOf 11 = .ok (.getfield 21, 3) := by decide +kernel
theorem dX0_chanceOf_14 : decode cX0_chanceOf 14 = .ok (.iload_n 1, 1) := by decide +kernel
theorem dX0_chanceOf_15 : decode cX0_chanceOf 15 = .ok (.iaload, 1) := by decide +kernel
theorem dX0_chanceOf_16 : decode cX0_chanceOf 16 = .ok (.goto 4, 3) := by decide +kernel
theorem dX0_chanceOf_19 : decode cX0_chanceOf 19 = .ok (.iconst 0, 1) := by decide +kernel
theorem dX0_chanceOf_20 : decode cX0_chanceOf 20 = .ok (.ireturn, 1) := by decide +kernel
theorem dX0_allChances_0 : decode cX0_allChances 0 = .ok (.iconst 0, 1) := by decide +kernel
theorem dX0_allChances_1 : decode cX0_allChances 1 = .ok (.istore_n 1, 1) := by decide +kernel
theorem dX0_allChances_2 : decode cX0_allChances 2 = .ok (.iconst 0, 1) := by decide +kernel
theorem dX0_allChances_3 : decode cX0_allChances 3 = .ok (.istore_n 2, 1) := by decide +kernel
theorem dX0_allChances_4 : decode cX0_allChances 4 = .ok (.iload_n 2, 1) := by decide +kernel
theorem dX0_allChances_5 : decode cX0_allChances 5 = .ok (.aload_n 0, 1) := by decide +kernel
theorem dX0_allChances_6 : decode cX0_allChances 6 = .ok (.invokevirtual 71, 3) := by decide +kernel
theorem dX0_allChances_9 : decode cX0_allChances 9 = .ok (.if_icmp .ge 17, 3) := by decide +kernel
theorem dX0_allChances_12 : decode cX0_allChances 12 = .ok (.iload_n 1, 1) := by decide +kernel
theorem dX0_allChances_13 : decode cX0_allChances 13 = .ok (.aload_n 0, 1) := by decide +kernel
theorem dX0_allChances_14 : decode cX0_allChances 14 = .ok (.iload_n 2, 1) := by decide +kernel
theorem dX0_allChances_15 : decode cX0_allChances 15 = .ok (.invokevirtual 74, 3) := by decide +kernel
theorem dX0_allChances_18 : decode cX0_allChances 18 = .ok (.iadd, 1) := by decide +kernel
theorem dX0_allChances_19 : decode cX0_allChances 19 = .ok (.istore_n 1, 1) := by decide +kernel
theorem dX0_allChances_20 : decode cX0_allChances 20 = .ok (.iinc 2 1, 3) := by decide +kernel
theorem dX0_allChances_23 : decode cX0_allChances 23 = .ok (.goto (-19), 3) := by decide +kernel
theorem dX0_allChances_26 : decode cX0_allChances 26 = .ok (.iload_n 1, 1) := by decide +kernel
theorem dX0_allChances_27 : decode cX0_allChances 27 = .ok (.ireturn, 1) := by decide +kernel
theorem dX0_stepBy_0 : decode cX0_stepBy 0 = .ok (.iload_n 2, 1) := by decide +kernel
theorem dX0_stepBy_1 : decode cX0_stepBy 1 = .ok (.ifCond .gt 5, 3) := by decide +kernel
theorem dX0_stepBy_4 : decode cX0_stepBy 4 = .ok (.iconst 0, 1) := by decide +kernel
theorem dX0_stepBy_5 : decode cX0_stepBy 5 = .ok (.ireturn, 1) := by decide +kernel
theorem dX0_stepBy_6 : decode cX0_stepBy 6 = .ok (.iload_n 3, 1) := by decide +kernel
theorem dX0_stepBy_7 : decode cX0_stepBy 7 = .ok (.iconst 1, 1) := by decide +kernel
theorem dX0_stepBy_8 : decode cX0_stepBy 8 = .ok (.iand, 1) := by decide +kernel
theorem dX0_stepBy_9 : decode cX0_stepBy 9 = .ok (.iconst 1, 1) := by decide +kernel
theorem dX0_stepBy_10 : decode cX0_stepBy 10 = .ok (.if_icmp .ne 7, 3) := by decide +kernel
theorem dX0_stepBy_13 : decode cX0_stepBy 13 = .ok (.iconst 1, 1) := by decide +kernel
theorem dX0_stepBy_14 : decode cX0_stepBy 14 = .ok (.goto 4, 3) := by decide +kernel
theorem dX0_stepBy_17 : decode cX0_stepBy 17 = .ok (.iconst 0, 1) := by decide +kernel
theorem dX0_stepBy_18 : decode cX0_stepBy 18 = .ok (.istore 4, 2) := by decide +kernel
theorem dX0_stepBy_20 : decode cX0_stepBy 20 = .ok (.iload_n 2, 1) := by decide +kernel
theorem dX0_stepBy_21 : decode cX0_stepBy 21 = .ok (.iload_n 1, 1) := by decide +kernel
theorem dX0_stepBy_22 : decode cX0_stepBy 22 = .ok (.iadd, 1) := by decide +kernel
theorem dX0_stepBy_23 : decode cX0_stepBy 23 = .ok (.istore 5, 2) := by decide +kernel
theorem dX0_stepBy_25 : decode cX0_stepBy 25 = .ok (.iconst 0, 1) := by decide +kernel
theorem dX0_stepBy_26 : decode cX0_stepBy 26 = .ok (.iload 5, 2) := by decide +kernel
theorem dX0_stepBy_28 : decode cX0_stepBy 28 = .ok (.iconst 3, 1) := by decide +kernel
theorem dX0_stepBy_29 : decode cX0_stepBy 29 = .ok (.isub, 1) := by decide +kernel
theorem dX0_stepBy_30 : decode cX0_stepBy 30 = .ok (.invokestatic 64, 3) := by decide +kernel
theorem dX0_stepBy_33 : decode cX0_stepBy 33 = .ok (.istore 6, 2) := by decide +kernel
theorem dX0_stepBy_35 : decode cX0_stepBy 35 = .ok (.iload_n 0, 1) := by decide +kernel
theorem dX0_stepBy_36 : decode cX0_stepBy 36 = .ok (.tableswitch 90 1 5 #[36, 60, 41, 63, 75], 36) := by decide +kernel
theorem dX0_stepBy_72 : decode cX0_stepBy 72 = .ok (.iconst 2, 1) := by decide +kernel
theorem dX0_stepBy_73 : decode cX0_stepBy 73 = .ok (.iload 5, 2) := by decide +kernel
theorem dX0_stepBy_75 : decode cX0_stepBy 75 = .ok (.imul, 1) := by decide +kernel
theorem dX0_stepBy_76 : decode cX0_stepBy 76 = .ok (.ireturn, 1) := by decide +kernel
theorem dX0_stepBy_77 : decode cX0_stepBy 77 = .ok (.iload 4, 2) := by decide +kernel
theorem dX0_stepBy_79 : decode cX0_stepBy 79 = .ok (.ifCond .eq 12, 3) := by decide +kernel
theorem dX0_stepBy_82 : decode cX0_stepBy 82 = .ok (.iconst 2, 1) := by decide +kernel
theorem dX0_stepBy_83 : decode cX0_stepBy 83 = .ok (.iload 5, 2) := by decide +kernel
theorem dX0_stepBy_85 : decode cX0_stepBy 85 = .ok (.imul, 1) := by decide +kernel
theorem dX0_stepBy_86 : decode cX0_stepBy 86 = .ok (.iconst 1, 1) := by decide +kernel
theorem dX0_stepBy_87 : decode cX0_stepBy 87 = .ok (.iadd, 1) := by decide +kernel
theorem dX0_stepBy_88 : decode cX0_stepBy 88 = .ok (.goto 7, 3) := by decide +kernel
theorem dX0_stepBy_91 : decode cX0_stepBy 91 = .ok (.iconst 2, 1) := by decide +kernel
theorem dX0_stepBy_92 : decode cX0_stepBy 92 = .ok (.iload 5, 2) := by decide +kernel
theorem dX0_stepBy_94 : decode cX0_stepBy 94 = .ok (.imul, 1) := by decide +kernel
theorem dX0_stepBy_95 : decode cX0_stepBy 95 = .ok (.ireturn, 1) := by decide +kernel
theorem dX0_stepBy_96 : decode cX0_stepBy 96 = .ok (.iload 6, 2) := by decide +kernel
theorem dX0_stepBy_98 : decode cX0_stepBy 98 = .ok (.ireturn, 1) := by decide +kernel
theorem dX0_stepBy_99 : decode cX0_stepBy 99 = .ok (.iload_n 2, 1) := by decide +kernel
theorem dX0_stepBy_100 : decode cX0_stepBy 100 = .ok (.iconst 4, 1) := by decide +kernel
theorem dX0_stepBy_101 : decode cX0_stepBy 101 = .ok (.if_icmp .gt 7, 3) := by decide +kernel
theorem dX0_stepBy_104 : decode cX0_stepBy 104 = .ok (.iconst 0, 1) := by decide +kernel
theorem dX0_stepBy_105 : decode cX0_stepBy 105 = .ok (.goto 5, 3) := by decide +kernel
theorem dX0_stepBy_108 : decode cX0_stepBy 108 = .ok (.iload 6, 2) := by decide +kernel
theorem dX0_stepBy_110 : decode cX0_stepBy 110 = .ok (.ireturn, 1) := by decide +kernel
theorem dX0_stepBy_111 : decode cX0_stepBy 111 = .ok (.iload 4, 2) := by decide +kernel
theorem dX0_stepBy_113 : decode cX0_stepBy 113 = .ok (.ifCond .eq 10, 3) := by decide +kernel
theorem dX0_stepBy_116 : decode cX0_stepBy 116 = .ok (.iload 5, 2) := by decide +kernel
theorem dX0_stepBy_118 : decode cX0_stepBy 118 = .ok (.iconst 2, 1) := by decide +kernel
theorem dX0_stepBy_119 : decode cX0_stepBy 119 = .ok (.idiv, 1) := by decide +kernel
theorem dX0_stepBy_120 : decode cX0_stepBy 120 = .ok (.goto 5, 3) := by decide +kernel
theorem dX0_stepBy_123 : decode cX0_stepBy 123 = .ok (.iload 5, 2) := by decide +kernel
theorem dX0_stepBy_125 : decode cX0_stepBy 125 = .ok (.ireturn, 1) := by decide +kernel
theorem dX0_stepBy_126 : decode cX0_stepBy 126 = .ok (.iload 5, 2) := by decide +kernel
theorem dX0_stepBy_128 : decode cX0_stepBy 128 = .ok (.ireturn, 1) := by decide +kernel
theorem dX0_stepUnder_0 : decode cX0_stepUnder 0 = .ok (.aload_n 0, 1) := by decide +kernel
theorem dX0_stepUnder_1 : decode cX0_stepUnder 1 = .ok (.iload_n 1, 1) := by decide +kernel
theorem dX0_stepUnder_2 : decode cX0_stepUnder 2 = .ok (.invokevirtual 77, 3) := by decide +kernel
theorem dX0_stepUnder_5 : decode cX0_stepUnder 5 = .ok (.aload_n 0, 1) := by decide +kernel
theorem dX0_stepUnder_6 : decode cX0_stepUnder 6 = .ok (.iload_n 1, 1) := by decide +kernel
theorem dX0_stepUnder_7 : decode cX0_stepUnder 7 = .ok (.invokevirtual 80, 3) := by decide +kernel
theorem dX0_stepUnder_10 : decode cX0_stepUnder 10 = .ok (.aload_n 0, 1) := by decide +kernel
theorem dX0_stepUnder_11 : decode cX0_stepUnder 11 = .ok (.iload_n 2, 1) := by decide +kernel
theorem dX0_stepUnder_12 : decode cX0_stepUnder 12 = .ok (.iload 4, 2) := by decide +kernel
theorem dX0_stepUnder_14 : decode cX0_stepUnder 14 = .ok (.invokevirtual 83, 3) := by decide +kernel
theorem dX0_stepUnder_17 : decode cX0_stepUnder 17 = .ok (.iload_n 3, 1) := by decide +kernel
theorem dX0_stepUnder_18 : decode cX0_stepUnder 18 = .ok (.invokestatic 86, 3) := by decide +kernel
theorem dX0_stepUnder_21 : decode cX0_stepUnder 21 = .ok (.ireturn, 1) := by decide +kernel
theorem dX0_stepAs_0 : decode cX0_stepAs 0 = .ok (.aload_n 0, 1) := by decide +kernel
theorem dX0_stepAs_1 : decode cX0_stepAs 1 = .ok (.iload_n 1, 1) := by decide +kernel
theorem dX0_stepAs_2 : decode cX0_stepAs 2 = .ok (.iload_n 2, 1) := by decide +kernel
theorem dX0_stepAs_3 : decode cX0_stepAs 3 = .ok (.iload_n 3, 1) := by decide +kernel
theorem dX0_stepAs_4 : decode cX0_stepAs 4 = .ok (.aload_n 0, 1) := by decide +kernel
theorem dX0_stepAs_5 : decode cX0_stepAs 5 = .ok (.getfield 44, 3) := by decide +kernel
theorem dX0_stepAs_8 : decode cX0_stepAs 8 = .ok (.invokevirtual 90, 3) := by decide +kernel
theorem dX0_stepAs_11 : decode cX0_stepAs 11 = .ok (.ireturn, 1) := by decide +kernel
theorem dX0_stepOn_0 : decode cX0_stepOn 0 = .ok (.aload_n 0, 1) := by decide +kernel
theorem dX0_stepOn_1 : decode cX0_stepOn 1 = .ok (.iload_n 1, 1) := by decide +kernel
theorem dX0_stepOn_2 : decode cX0_stepOn 2 = .ok (.iload_n 2, 1) := by decide +kernel
theorem dX0_stepOn_3 : decode cX0_stepOn 3 = .ok (.aload_n 0, 1) := by decide +kernel
theorem dX0_stepOn_4 : decode cX0_stepOn 4 = .ok (.iload_n 2, 1) := by decide +kernel
theorem dX0_stepOn_5 : decode cX0_stepOn 5 = .ok (.invokevirtual 93, 3) := by decide +kernel
theorem dX0_stepOn_8 : decode cX0_stepOn 8 = .ok (.aload_n 0, 1) := by decide +kernel
theorem dX0_stepOn_9 : decode cX0_stepOn 9 = .ok (.getfield 44, 3) := by decide +kernel
theorem dX0_stepOn_12 : decode cX0_stepOn 12 = .ok (.invokevirtual 90, 3) := by decide +kernel
theorem dX0_stepOn_15 : decode cX0_stepOn 15 = .ok (.ireturn, 1) := by decide +kernel
theorem dX0_raisedStep_0 : decode cX0_raisedStep 0 = .ok (.aload_n 0, 1) := by decide +kernel
theorem dX0_raisedStep_1 : decode cX0_raisedStep 1 = .ok (.iload_n 1, 1) := by decide +kernel
theorem dX0_raisedStep_2 : decode cX0_raisedStep 2 = .ok (.invokevirtual 77, 3) := by decide +kernel
theorem dX0_raisedStep_5 : decode cX0_raisedStep 5 = .ok (.aload_n 0, 1) := by decide +kernel
theorem dX0_raisedStep_6 : decode cX0_raisedStep 6 = .ok (.iload_n 1, 1) := by decide +kernel
theorem dX0_raisedStep_7 : decode cX0_raisedStep 7 = .ok (.invokevirtual 80, 3) := by decide +kernel
theorem dX0_raisedStep_10 : decode cX0_raisedStep 10 = .ok (.iconst 0, 1) := by decide +kernel
theorem dX0_raisedStep_11 : decode cX0_raisedStep 11 = .ok (.bipush 9, 2) := by decide +kernel
theorem dX0_raisedStep_13 : decode cX0_raisedStep 13 = .ok (.aload_n 0, 1) := by decide +kernel
theorem dX0_raisedStep_14 : decode cX0_raisedStep 14 = .ok (.getfield 44, 3) := by decide +kernel
theorem dX0_raisedStep_17 : decode cX0_raisedStep 17 = .ok (.isub, 1) := by decide +kernel
theorem dX0_raisedStep_18 : decode cX0_raisedStep 18 = .ok (.invokestatic 64, 3) := by decide +kernel
theorem dX0_raisedStep_21 : decode cX0_raisedStep 21 = .ok (.aload_n 0, 1) := by decide +kernel
theorem dX0_raisedStep_22 : decode cX0_raisedStep 22 = .ok (.iload_n 2, 1) := by decide +kernel
theorem dX0_raisedStep_23 : decode cX0_raisedStep 23 = .ok (.invokevirtual 93, 3) := by decide +kernel
theorem dX0_raisedStep_26 : decode cX0_raisedStep 26 = .ok (.invokestatic 86, 3) := by decide +kernel
theorem dX0_raisedStep_29 : decode cX0_raisedStep 29 = .ok (.ireturn, 1) := by decide +kernel
theorem dX0_soundUnder_0 : decode cX0_soundUnder 0 = .ok (.aload_n 0, 1) := by decide +kernel
theorem dX0_soundUnder_1 : decode cX0_soundUnder 1 = .ok (.iload_n 1, 1) := by decide +kernel
theorem dX0_soundUnder_2 : decode cX0_soundUnder 2 = .ok (.invokevirtual 77, 3) := by decide +kernel
theorem dX0_soundUnder_5 : decode cX0_soundUnder 5 = .ok (.istore 4, 2) := by decide +kernel
theorem dX0_soundUnder_7 : decode cX0_soundUnder 7 = .ok (.aload_n 0, 1) := by decide +kernel
theorem dX0_soundUnder_8 : decode cX0_soundUnder 8 = .ok (.iload_n 1, 1) := by decide +kernel
theorem dX0_soundUnder_9 : decode cX0_soundUnder 9 = .ok (.invokevirtual 80, 3) := by decide +kernel
theorem dX0_soundUnder_12 : decode cX0_soundUnder 12 = .ok (.istore 5, 2) := by decide +kernel
theorem dX0_soundUnder_14 : decode cX0_soundUnder 14 = .ok (.lconst 0, 1) := by decide +kernel
theorem dX0_soundUnder_15 : decode cX0_soundUnder 15 = .ok (.lstore 6, 2) := by decide +kernel
theorem dX0_soundUnder_17 : decode cX0_soundUnder 17 = .ok (.iconst 0, 1) := by decide +kernel
theorem dX0_soundUnder_18 : decode cX0_soundUnder 18 = .ok (.istore 8, 2) := by decide +kernel
theorem dX0_soundUnder_20 : decode cX0_soundUnder 20 = .ok (.iload 8, 2) := by decide +kernel
theorem dX0_soundUnder_22 : decode cX0_soundUnder 22 = .ok (.aload_n 0, 1) := by decide +kernel
theorem dX0_soundUnder_23 : decode cX0_soundUnder 23 = .ok (.getfield 35, 3) := by decide +kernel
theorem dX0_soundUnder_26 : decode cX0_soundUnder 26 = .ok (.if_icmp .ge 39, 3) := by decide +kernel
theorem dX0_soundUnder_29 : decode cX0_soundUnder 29 = .ok (.lload 6, 2) := by decide +kernel
theorem dX0_soundUnder_31 : decode cX0_soundUnder 31 = .ok (.bipush 6, 2) := by decide +kernel
theorem dX0_soundUnder_33 : decode cX0_soundUnder 33 = .ok (.lshl, 1) := by decide +kernel
theorem dX0_soundUnder_34 : decode cX0_soundUnder 34 = .ok (.iload 4, 2) := by decide +kernel
theorem dX0_soundUnder_36 : decode cX0_soundUnder 36 = .ok (.iload 5, 2) := by decide +kernel
theorem dX0_soundUnder_38 : decode cX0_soundUnder 38 = .ok (.aload_n 0, 1) := by decide +kernel
theorem dX0_soundUnder_39 : decode cX0_soundUnder 39 = .ok (.aload_n 0, 1) := by decide +kernel
theorem dX0_soundUnder_40 : decode cX0_soundUnder 40 = .ok (.iload 8, 2) := by decide +kernel
theorem dX0_soundUnder_42 : decode cX0_soundUnder 42 = .ok (.iload_n 2, 1) := by decide +kernel
theorem dX0_soundUnder_43 : decode cX0_soundUnder 43 = .ok (.invokevirtual 96, 3) := by decide +kernel
theorem dX0_soundUnder_46 : decode cX0_soundUnder 46 = .ok (.iload_n 3, 1) := by decide +kernel
theorem dX0_soundUnder_47 : decode cX0_soundUnder 47 = .ok (.invokevirtual 83, 3) := by decide +kernel
theorem dX0_soundUnder_50 : decode cX0_soundUnder 50 = .ok (.iload 8, 2) := by decide +kernel
theorem dX0_soundUnder_52 : decode cX0_soundUnder 52 = .ok (.invokestatic 86, 3) := by decide +kernel
theorem dX0_soundUnder_55 : decode cX0_soundUnder 55 = .ok (.i2l, 1) := by decide +kernel
theorem dX0_soundUnder_56 : decode cX0_soundUnder 56 = .ok (.lor, 1) := by decide +kernel
theorem dX0_soundUnder_57 : decode cX0_soundUnder 57 = .ok (.lstore 6, 2) := by decide +kernel
theorem dX0_soundUnder_59 : decode cX0_soundUnder 59 = .ok (.iinc 8 1, 3) := by decide +kernel
theorem dX0_soundUnder_62 : decode cX0_soundUnder 62 = .ok (.goto (-42), 3) := by decide +kernel
theorem dX0_soundUnder_65 : decode cX0_soundUnder 65 = .ok (.lload 6, 2) := by decide +kernel
theorem dX0_soundUnder_67 : decode cX0_soundUnder 67 = .ok (.lreturn, 1) := by decide +kernel
theorem dX0_drawBelow_0 : decode cX0_drawBelow 0 = .ok (.aload_n 0, 1) := by decide +kernel
theorem dX0_drawBelow_1 : decode cX0_drawBelow 1 = .ok (.aload_n 0, 1) := by decide +kernel
theorem dX0_drawBelow_2 : decode cX0_drawBelow 2 = .ok (.getfield 28, 3) := by decide +kernel
theorem dX0_drawBelow_5 : decode cX0_drawBelow 5 = .ok (.ldc 99, 2) := by decide +kernel
theorem dX0_drawBelow_7 : decode cX0_drawBelow 7 = .ok (.imul, 1) := by decide +kernel
theorem dX0_drawBelow_8 : decode cX0_drawBelow 8 = .ok (.sipush 12345, 3) := by decide +kernel
theorem dX0_drawBelow_11 : decode cX0_drawBelow 11 = .ok (.iadd, 1) := by decide +kernel
theorem dX0_drawBelow_12 : decode cX0_drawBelow 12 = .ok (.putfield 28, 3) := by decide +kernel
theorem dX0_drawBelow_15 : decode cX0_drawBelow 15 = .ok (.iload_n 1, 1) := by decide +kernel
theorem dX0_drawBelow_16 : decode cX0_drawBelow 16 = .ok (.ifCond .le 15, 3) := by decide +kernel
theorem dX0_drawBelow_19 : decode cX0_drawBelow 19 = .ok (.aload_n 0, 1) := by decide +kernel
theorem dX0_drawBelow_20 : decode cX0_drawBelow 20 = .ok (.getfield 28, 3) := by decide +kernel
theorem dX0_drawBelow_23 : decode cX0_drawBelow 23 = .ok (.bipush 16, 2) := by decide +kernel
theorem dX0_drawBelow_25 : decode cX0_drawBelow 25 = .ok (.iushr, 1) := by decide +kernel
theorem dX0_drawBelow_26 : decode cX0_drawBelow 26 = .ok (.iload_n 1, 1) := by decide +kernel
theorem dX0_drawBelow_27 : decode cX0_drawBelow 27 = .ok (.irem, 1) := by decide +kernel
theorem dX0_drawBelow_28 : decode cX0_drawBelow 28 = .ok (.goto 4, 3) := by decide +kernel
theorem dX0_drawBelow_31 : decode cX0_drawBelow 31 = .ok (.iconst 0, 1) := by decide +kernel
theorem dX0_drawBelow_32 : decode cX0_drawBelow 32 = .ok (.ireturn, 1) := by decide +kernel
theorem dX0_drawFeet_0 : decode cX0_drawFeet 0 = .ok (.aload_n 0, 1) := by decide +kernel
theorem dX0_drawFeet_1 : decode cX0_drawFeet 1 = .ok (.aload_n 0, 1) := by decide +kernel
theorem dX0_drawFeet_2 : decode cX0_drawFeet 2 = .ok (.invokevirtual 100, 3) := by decide +kernel
theorem dX0_drawFeet_5 : decode cX0_drawFeet 5 = .ok (.invokevirtual 103, 3) := by decide +kernel
theorem dX0_drawFeet_8 : decode cX0_drawFeet 8 = .ok (.istore_n 1, 1) := by decide +kernel
theorem dX0_drawFeet_9 : decode cX0_drawFeet 9 = .ok (.iconst 0, 1) := by decide +kernel
theorem dX0_drawFeet_10 : decode cX0_drawFeet 10 = .ok (.istore_n 2, 1) := by decide +kernel
theorem dX0_drawFeet_11 : decode cX0_drawFeet 11 = .ok (.iload_n 2, 1) := by decide +kernel
theorem dX0_drawFeet_12 : decode cX0_drawFeet 12 = .ok (.aload_n 0, 1) := by decide +kernel
theorem dX0_drawFeet_13 : decode cX0_drawFeet 13 = .ok (.invokevirtual 71, 3) := by decide +kernel
theorem dX0_drawFeet_16 : decode cX0_drawFeet 16 = .ok (.if_icmp .ge 23, 3) := by decide +kernel
theorem dX0_drawFeet_19 : decode cX0_drawFeet 19 = .ok (.iload_n 1, 1) := by decide +kernel
theorem dX0_drawFeet_20 : decode cX0_drawFeet 20 = .ok (.aload_n 0, 1) := by decide +kernel
theorem dX0_drawFeet_21 : decode cX0_drawFeet 21 = .ok (.iload_n 2, 1) := by decide +kernel
theorem dX0_drawFeet_22 : decode cX0_drawFeet 22 = .ok (.invokevirtual 74, 3) := by decide +kernel
theorem dX0_drawFeet_25 : decode cX0_drawFeet 25 = .ok (.isub, 1) := by decide +kernel
theorem dX0_drawFeet_26 : decode cX0_drawFeet 26 = .ok (.istore_n 1, 1) := by decide +kernel
theorem dX0_drawFeet_27 : decode cX0_drawFeet 27 = .ok (.iload_n 1, 1) := by decide +kernel
theorem dX0_drawFeet_28 : decode cX0_drawFeet 28 = .ok (.ifCond .ge 5, 3) := by decide +kernel
theorem dX0_drawFeet_31 : decode cX0_drawFeet 31 = .ok (.iload_n 2, 1) := by decide +kernel
theorem dX0_drawFeet_32 : decode cX0_drawFeet 32 = .ok (.ireturn, 1) := by decide +kernel
theorem dX0_drawFeet_33 : decode cX0_drawFeet 33 = .ok (.iinc 2 1, 3) := by decide +kernel
theorem dX0_drawFeet_36 : decode cX0_drawFeet 36 = .ok (.goto (-25), 3) := by decide +kernel
theorem dX0_drawFeet_39 : decode cX0_drawFeet 39 = .ok (.iconst 0, 1) := by decide +kernel
theorem dX0_drawFeet_40 : decode cX0_drawFeet 40 = .ok (.ireturn, 1) := by decide +kernel

theorem dX2_init_0 : decode cX2_init 0 = .ok (.aload_n 0, 1) := by decide +kernel
theorem dX2_init_1 : decode cX2_init 1 = .ok (.invokespecial 3, 3) := by decide +kernel
theorem dX2_init_4 : decode cX2_init 4 = .ok (.aload_n 0, 1) := by decide +kernel
theorem dX2_init_5 : decode cX2_init 5 = .ok (.bipush 8, 2) := by decide +kernel
theorem dX2_init_7 : decode cX2_init 7 = .ok (.newarray .int, 2) := by decide +kernel
theorem dX2_init_9 : decode cX2_init 9 = .ok (.putfield 9, 3) := by decide +kernel
theorem dX2_init_12 : decode cX2_init 12 = .ok (.aload_n 0, 1) := by decide +kernel
theorem dX2_init_13 : decode cX2_init 13 = .ok (.bipush 8, 2) := by decide +kernel
theorem dX2_init_15 : decode cX2_init 15 = .ok (.newarray .int, 2) := by decide +kernel
theorem dX2_init_17 : decode cX2_init 17 = .ok (.putfield 15, 3) := by decide +kernel
theorem dX2_init_20 : decode cX2_init 20 = .ok (.aload_n 0, 1) := by decide +kernel
theorem dX2_init_21 : decode cX2_init 21 = .ok (.sipush 320, 3) := by decide +kernel
theorem dX2_init_24 : decode cX2_init 24 = .ok (.newarray .long, 2) := by decide +kernel
theorem dX2_init_26 : decode cX2_init 26 = .ok (.putfield 18, 3) := by decide +kernel
theorem dX2_init_29 : decode cX2_init 29 = .ok (.iconst 0, 1) := by decide +kernel
theorem dX2_init_30 : decode cX2_init 30 = .ok (.istore_n 1, 1) := by decide +kernel
theorem dX2_init_31 : decode cX2_init 31 = .ok (.iload_n 1, 1) := by decide +kernel
theorem dX2_init_32 : decode cX2_init 32 = .ok (.bipush 8, 2) := by decide +kernel
theorem dX2_init_34 : decode cX2_init 34 = .ok (.if_icmp .ge 16, 3) := by decide +kernel
theorem dX2_init_37 : decode cX2_init 37 = .ok (.aload_n 0, 1) := by decide +kernel
theorem dX2_init_38 : decode cX2_init 38 = .ok (.getfield 9, 3) := by decide +kernel
theorem dX2_init_41 : decode cX2_init 41 = .ok (.iload_n 1, 1) := by decide +kernel
theorem dX2_init_42 : decode cX2_init 42 = .ok (.iconst (-1), 1) := by decide +kernel
theorem dX2_init_43 : decode cX2_init 43 = .ok (.iastore, 1) := by decide +kernel
theorem dX2_init_44 : decode cX2_init 44 = .ok (.iinc 1 1, 3) := by decide +kernel
theorem dX2_init_47 : decode cX2_init 47 = .ok (.goto (-16), 3) := by decide +kernel
theorem dX2_init_50 : decode cX2_init 50 = .ok (.return_, 1) := by decide +kernel
theorem dX2_heldBy_0 : decode cX2_heldBy 0 = .ok (.iload_n 1, 1) := by decide +kernel
theorem dX2_heldBy_1 : decode cX2_heldBy 1 = .ok (.invokestatic 22, 3) := by decide +kernel
theorem dX2_heldBy_4 : decode cX2_heldBy 4 = .ok (.ifCond .eq 12, 3) := by decide +kernel
theorem dX2_heldBy_7 : decode cX2_heldBy 7 = .ok (.aload_n 0, 1) := by decide +kernel
theorem dX2_heldBy_8 : decode cX2_heldBy 8 = .ok (.getfield 9, 3) := by decide +kernel
theorem dX2_heldBy_11 : decode cX2_heldBy 11 = .ok (.iload_n 1, 1) := by decide +kernel
theorem dX2_heldBy_12 : decode cX2_heldBy 12 = .ok (.iaload, 1) := by decide +kernel
theorem dX2_heldBy_13 : decode cX2_heldBy 13 = .ok (.goto 4, 3) := by decide +kernel
theorem dX2_heldBy_16 : decode cX2_heldBy 16 = .ok (.iconst (-1), 1) := by decide +kernel
theorem dX2_heldBy_17 : decode cX2_heldBy 17 = .ok (.ireturn, 1) := by decide +kernel
theorem dX2_sizeOf_0 : decode cX2_sizeOf 0 = .ok (.iload_n 1, 1) := by decide +kernel
theorem dX2_sizeOf_1 : decode cX2_sizeOf 1 = .ok (.invokestatic 22, 3) := by decide +kernel
theorem dX2_sizeOf_4 : decode cX2_sizeOf 4 = .ok (.ifCond .eq 12, 3) := by decide +kernel
theorem dX2_sizeOf_7 : decode cX2_sizeOf 7 = .ok (.aload_n 0, 1) := by decide +kernel
theorem dX2_sizeOf_8 : decode cX2_sizeOf 8 = .ok (.getfield 15, 3) := by decide +kernel
theorem dX2_sizeOf_11 : decode cX2_sizeOf 11 = .ok (.iload_n 1, 1) := by decide +kernel
theorem dX2_sizeOf_12 : decode cX2_sizeOf 12 = .ok (.iaload, 1) := by decide +kernel
theorem dX2_sizeOf_13 : decode cX2_sizeOf 13 = .ok (.goto 4, 3) := by decide +kernel
theorem dX2_sizeOf_16 : decode cX2_sizeOf 16 = .ok (.iconst 0, 1) := by decide +kernel
theorem dX2_sizeOf_17 : decode cX2_sizeOf 17 = .ok (.ireturn, 1) := by decide +kernel
theorem dX2_taken_0 : decode cX2_taken 0 = .ok (.iconst 0, 1) := by decide +kernel
theorem dX2_taken_1 : decode cX2_taken 1 = .ok (.istore_n 1, 1) := by decide +kernel
theorem dX2_taken_2 : decode cX2_taken 2 = .ok (.iconst 0, 1) := by decide +kernel
theorem dX2_taken_3 : decode cX2_taken 3 = .ok (.istore_n 2, 1) := by decide +kernel
theorem dX2_taken_4 : decode cX2_taken 4 = .ok (.iload_n 2, 1) := by decide +kernel
theorem dX2_taken_5 : decode cX2_taken 5 = .ok (.bipush 8, 2) := by decide +kernel
theorem dX2_taken_7 : decode cX2_taken 7 = .ok (.if_icmp .ge 22, 3) := by decide +kernel
theorem dX2_taken_10 : decode cX2_taken 10 = .ok (.aload_n 0, 1) := by decide +kernel
theorem dX2_taken_11 : decode cX2_taken 11 = .ok (.getfield 9, 3) := by decide +kernel
theorem dX2_taken_14 : decode cX2_taken 14 = .ok (.iload_n 2, 1) := by decide +kernel
theorem dX2_taken_15 : decode cX2_taken 15 = .ok (.iaload, 1) := by decide +kernel
theorem dX2_taken_16 : decode cX2_taken 16 = .ok (.iconst (-1), 1) := by decide +kernel
theorem dX2_taken_17 : decode cX2_taken 17 = .ok (.if_icmp .eq 6, 3) := by decide +kernel
theorem dX2_taken_20 : decode cX2_taken 20 = .ok (.iinc 1 1, 3) := by decide +kernel
theorem dX2_taken_23 : decode cX2_taken 23 = .ok (.iinc 2 1, 3) := by decide +kernel
theorem dX2_taken_26 : decode cX2_taken 26 = .ok (.goto (-22), 3) := by decide +kernel
theorem dX2_taken_29 : decode cX2_taken 29 = .ok (.iload_n 1, 1) := by decide +kernel
theorem dX2_taken_30 : decode cX2_taken 30 = .ok (.ireturn, 1) := by decide +kernel
theorem dX2_whyNoRow_0 : decode cX2_whyNoRow 0 = .ok (.aload_n 0, 1) := by decide +kernel
theorem dX2_whyNoRow_1 : decode cX2_whyNoRow 1 = .ok (.iload_n 1, 1) := by decide +kernel
theorem dX2_whyNoRow_2 : decode cX2_whyNoRow 2 = .ok (.invokevirtual 26, 3) := by decide +kernel
theorem dX2_whyNoRow_5 : decode cX2_whyNoRow 5 = .ok (.istore_n 2, 1) := by decide +kernel
theorem dX2_whyNoRow_6 : decode cX2_whyNoRow 6 = .ok (.iload_n 2, 1) := by decide +kernel
theorem dX2_whyNoRow_7 : decode cX2_whyNoRow 7 = .ok (.iconst (-1), 1) := by decide +kernel
theorem dX2_whyNoRow_8 : decode cX2_whyNoRow 8 = .ok (.if_icmp .ne 6, 3) := by decide +kernel
theorem dX2_whyNoRow_11 : decode cX2_whyNoRow 11 = .ok (.bipush (-4), 2) := by decide +kernel
theorem dX2_whyNoRow_13 : decode cX2_whyNoRow 13 = .ok (.ireturn, 1) := by decide +kernel
theorem dX2_whyNoRow_14 : decode cX2_whyNoRow 14 = .ok (.iload_n 2, 1) := by decide +kernel
theorem dX2_whyNoRow_15 : decode cX2_whyNoRow 15 = .ok (.bipush 10, 2) := by decide +kernel
theorem dX2_whyNoRow_17 : decode cX2_whyNoRow 17 = .ok (.if_icmp .ge 7, 3) := by decide +kernel
theorem dX2_whyNoRow_20 : decode cX2_whyNoRow 20 = .ok (.iconst 0, 1) := by decide +kernel
theorem dX2_whyNoRow_21 : decode cX2_whyNoRow 21 = .ok (.goto 5, 3) := by decide +kernel
theorem dX2_whyNoRow_24 : decode cX2_whyNoRow 24 = .ok (.bipush (-3), 2) := by decide +kernel
theorem dX2_whyNoRow_26 : decode cX2_whyNoRow 26 = .ok (.ireturn, 1) := by decide +kernel
theorem dX2_whyNoCopy_0 : decode cX2_whyNoCopy 0 = .ok (.aload_n 0, 1) := by decide +kernel
theorem dX2_whyNoCopy_1 : decode cX2_whyNoCopy 1 = .ok (.iload_n 1, 1) := by decide +kernel
theorem dX2_whyNoCopy_2 : decode cX2_whyNoCopy 2 = .ok (.invokevirtual 30, 3) := by decide +kernel
theorem dX2_whyNoCopy_5 : decode cX2_whyNoCopy 5 = .ok (.istore_n 3, 1) := by decide +kernel
theorem dX2_whyNoCopy_6 : decode cX2_whyNoCopy 6 = .ok (.aload_n 0, 1) := by decide +kernel
theorem dX2_whyNoCopy_7 : decode cX2_whyNoCopy 7 = .ok (.iload_n 2, 1) := by decide +kernel
theorem dX2_whyNoCopy_8 : decode cX2_whyNoCopy 8 = .ok (.invokevirtual 30, 3) := by decide +kernel
theorem dX2_whyNoCopy_11 : decode cX2_whyNoCopy 11 = .ok (.istore 4, 2) := by decide +kernel
theorem dX2_whyNoCopy_13 : decode cX2_whyNoCopy 13 = .ok (.iload_n 3, 1) := by decide +kernel
theorem dX2_whyNoCopy_14 : decode cX2_whyNoCopy 14 = .ok (.bipush (-3), 2) := by decide +kernel
theorem dX2_whyNoCopy_16 : decode cX2_whyNoCopy 16 = .ok (.if_icmp .eq 10, 3) := by decide +kernel
theorem dX2_whyNoCopy_19 : decode cX2_whyNoCopy 19 = .ok (.iload 4, 2) := by decide +kernel
theorem dX2_whyNoCopy_21 : decode cX2_whyNoCopy 21 = .ok (.bipush (-3), 2) := by decide +kernel
theorem dX2_whyNoCopy_23 : decode cX2_whyNoCopy 23 = .ok (.if_icmp .ne 6, 3) := by decide +kernel
theorem dX2_whyNoCopy_26 : decode cX2_whyNoCopy 26 = .ok (.bipush (-3), 2) := by decide +kernel
theorem dX2_whyNoCopy_28 : decode cX2_whyNoCopy 28 = .ok (.ireturn, 1) := by decide +kernel
theorem dX2_whyNoCopy_29 : decode cX2_whyNoCopy 29 = .ok (.iload_n 3, 1) := by decide +kernel
theorem dX2_whyNoCopy_30 : decode cX2_whyNoCopy 30 = .ok (.bipush (-4), 2) := by decide +kernel
theorem dX2_whyNoCopy_32 : decode cX2_whyNoCopy 32 = .ok (.if_icmp .eq 10, 3) := by decide +kernel
theorem dX2_whyNoCopy_35 : decode cX2_whyNoCopy 35 = .ok (.iload 4, 2) := by decide +kernel
theorem dX2_whyNoCopy_37 : decode cX2_whyNoCopy 37 = .ok (.bipush (-4), 2) := by decide +kernel
theorem dX2_whyNoCopy_39 : decode cX2_whyNoCopy 39 = .ok (.if_icmp .ne 6, 3) := by decide +kernel
theorem dX2_whyNoCopy_42 : decode cX2_whyNoCopy 42 = .ok (.bipush (-4), 2) := by decide +kernel
theorem dX2_whyNoCopy_44 : decode cX2_whyNoCopy 44 = .ok (.ireturn, 1) := by decide +kernel
theorem dX2_whyNoCopy_45 : decode cX2_whyNoCopy 45 = .ok (.aload_n 0, 1) := by decide +kernel
theorem dX2_whyNoCopy_46 : decode cX2_whyNoCopy 46 = .ok (.iload_n 1, 1) := by decide +kernel
theorem dX2_whyNoCopy_47 : decode cX2_whyNoCopy 47 = .ok (.invokevirtual 26, 3) := by decide +kernel
theorem dX2_whyNoCopy_50 : decode cX2_whyNoCopy 50 = .ok (.aload_n 0, 1) := by decide +kernel
theorem dX2_whyNoCopy_51 : decode cX2_whyNoCopy 51 = .ok (.iload_n 2, 1) := by decide +kernel
theorem dX2_whyNoCopy_52 : decode cX2_whyNoCopy 52 = .ok (.invokevirtual 26, 3) := by decide +kernel
theorem dX2_whyNoCopy_55 : decode cX2_whyNoCopy 55 = .ok (.if_icmp .ne 7, 3) := by decide +kernel
theorem dX2_whyNoCopy_58 : decode cX2_whyNoCopy 58 = .ok (.iconst 0, 1) := by decide +kernel
theorem dX2_whyNoCopy_59 : decode cX2_whyNoCopy 59 = .ok (.goto 5, 3) := by decide +kernel
theorem dX2_whyNoCopy_62 : decode cX2_whyNoCopy 62 = .ok (.bipush (-3), 2) := by decide +kernel
theorem dX2_whyNoCopy_64 : decode cX2_whyNoCopy 64 = .ok (.ireturn, 1) := by decide +kernel
theorem dX2_layRow_0 : decode cX2_layRow 0 = .ok (.iload_n 1, 1) := by decide +kernel
theorem dX2_layRow_1 : decode cX2_layRow 1 = .ok (.invokestatic 22, 3) := by decide +kernel
theorem dX2_layRow_4 : decode cX2_layRow 4 = .ok (.ifCond .eq 13, 3) := by decide +kernel
theorem dX2_layRow_7 : decode cX2_layRow 7 = .ok (.iload_n 3, 1) := by decide +kernel
theorem dX2_layRow_8 : decode cX2_layRow 8 = .ok (.iconst 0, 1) := by decide +kernel
theorem dX2_layRow_9 : decode cX2_layRow 9 = .ok (.bipush 40, 2) := by decide +kernel
theorem dX2_layRow_11 : decode cX2_layRow 11 = .ok (.invokestatic 33, 3) := by decide +kernel
theorem dX2_layRow_14 : decode cX2_layRow 14 = .ok (.ifCond .ne 4, 3) := by decide +kernel
theorem dX2_layRow_17 : decode cX2_layRow 17 = .ok (.return_, 1) := by decide +kernel
theorem dX2_layRow_18 : decode cX2_layRow 18 = .ok (.aload_n 0, 1) := by decide +kernel
theorem dX2_layRow_19 : decode cX2_layRow 19 = .ok (.getfield 9, 3) := by decide +kernel
theorem dX2_layRow_22 : decode cX2_layRow 22 = .ok (.iload_n 1, 1) := by decide +kernel
theorem dX2_layRow_23 : decode cX2_layRow 23 = .ok (.iload_n 2, 1) := by decide +kernel
theorem dX2_layRow_24 : decode cX2_layRow 24 = .ok (.iastore, 1) := by decide +kernel
theorem dX2_layRow_25 : decode cX2_layRow 25 = .ok (.aload_n 0, 1) := by decide +kernel
theorem dX2_layRow_26 : decode cX2_layRow 26 = .ok (.getfield 15, 3) := by decide +kernel
theorem dX2_layRow_29 : decode cX2_layRow 29 = .ok (.iload_n 1, 1) := by decide +kernel
theorem dX2_layRow_30 : decode cX2_layRow 30 = .ok (.iload_n 3, 1) := by decide +kernel
theorem dX2_layRow_31 : decode cX2_layRow 31 = .ok (.iastore, 1) := by decide +kernel
theorem dX2_layRow_32 : decode cX2_layRow 32 = .ok (.iconst 0, 1) := by decide +kernel
theorem dX2_layRow_33 : decode cX2_layRow 33 = .ok (.istore 4, 2) := by decide +kernel
theorem dX2_layRow_35 : decode cX2_layRow 35 = .ok (.iload 4, 2) := by decide +kernel
theorem dX2_layRow_37 : decode cX2_layRow 37 = .ok (.iload_n 3, 1) := by decide +kernel
theorem dX2_layRow_38 : decode cX2_layRow 38 = .ok (.if_icmp .ge 22, 3) := by decide +kernel
theorem dX2_layRow_41 : decode cX2_layRow 41 = .ok (.aload_n 0, 1) := by decide +kernel
theorem dX2_layRow_42 : decode cX2_layRow 42 = .ok (.getfield 18, 3) := by decide +kernel
theorem dX2_layRow_45 : decode cX2_layRow 45 = .ok (.iload_n 1, 1) := by decide +kernel
theorem dX2_layRow_46 : decode cX2_layRow 46 = .ok (.bipush 40, 2) := by decide +kernel
theorem dX2_layRow_48 : decode cX2_layRow 48 = .ok (.imul, 1) := by decide +kernel
theorem dX2_layRow_49 : decode cX2_layRow 49 = .ok (.iload 4, 2) := by decide +kernel
theorem dX2_layRow_51 : decode cX2_layRow 51 = .ok (.iadd, 1) := by decide +kernel
theorem dX2_layRow_52 : decode cX2_layRow 52 = .ok (.lconst 0, 1) := by decide +kernel
theorem dX2_layRow_53 : decode cX2_layRow 53 = .ok (.lastore, 1) := by decide +kernel
theorem dX2_layRow_54 : decode cX2_layRow 54 = .ok (.iinc 4 1, 3) := by decide +kernel
theorem dX2_layRow_57 : decode cX2_layRow 57 = .ok (.goto (-22), 3) := by decide +kernel
theorem dX2_layRow_60 : decode cX2_layRow 60 = .ok (.return_, 1) := by decide +kernel
theorem dX2_layFeet_0 : decode cX2_layFeet 0 = .ok (.iload_n 1, 1) := by decide +kernel
theorem dX2_layFeet_1 : decode cX2_layFeet 1 = .ok (.invokestatic 22, 3) := by decide +kernel
theorem dX2_layFeet_4 : decode cX2_layFeet 4 = .ok (.ifCond .eq 29, 3) := by decide +kernel
theorem dX2_layFeet_7 : decode cX2_layFeet 7 = .ok (.aload_n 0, 1) := by decide +kernel
theorem dX2_layFeet_8 : decode cX2_layFeet 8 = .ok (.getfield 9, 3) := by decide +kernel
theorem dX2_layFeet_11 : decode cX2_layFeet 11 = .ok (.iload_n 1, 1) := by decide +kernel
theorem dX2_layFeet_12 : decode cX2_layFeet 12 = .ok (.iload_n 2, 1) := by decide +kernel
theorem dX2_layFeet_13 : decode cX2_layFeet 13 = .ok (.iconst (-1), 1) := by decide +kernel
theorem dX2_layFeet_14 : decode cX2_layFeet 14 = .ok (.if_icmp .ne 7, 3) := by decide +kernel
theorem dX2_layFeet_17 : decode cX2_layFeet 17 = .ok (.iconst (-1), 1) := by decide +kernel
theorem dX2_layFeet_18 : decode cX2_layFeet 18 = .ok (.goto 7, 3) := by decide +kernel
theorem dX2_layFeet_21 : decode cX2_layFeet 21 = .ok (.bipush 10, 2) := by decide +kernel
theorem dX2_layFeet_23 : decode cX2_layFeet 23 = .ok (.iload_n 2, 1) := by decide +kernel
theorem dX2_layFeet_24 : decode cX2_layFeet 24 = .ok (.iadd, 1) := by decide +kernel
theorem dX2_layFeet_25 : decode cX2_layFeet 25 = .ok (.iastore, 1) := by decide +kernel
theorem dX2_layFeet_26 : decode cX2_layFeet 26 = .ok (.aload_n 0, 1) := by decide +kernel
theorem dX2_layFeet_27 : decode cX2_layFeet 27 = .ok (.getfield 15, 3) := by decide +kernel
theorem dX2_layFeet_30 : decode cX2_layFeet 30 = .ok (.iload_n 1, 1) := by decide +kernel
theorem dX2_layFeet_31 : decode cX2_layFeet 31 = .ok (.iconst 0, 1) := by decide +kernel
theorem dX2_layFeet_32 : decode cX2_layFeet 32 = .ok (.iastore, 1) := by decide +kernel
theorem dX2_layFeet_33 : decode cX2_layFeet 33 = .ok (.return_, 1) := by decide +kernel
theorem dX2_dropFeetFrom_0 : decode cX2_dropFeetFrom 0 = .ok (.iconst 0, 1) := by decide +kernel
theorem dX2_dropFeetFrom_1 : decode cX2_dropFeetFrom 1 = .ok (.istore_n 2, 1) := by decide +kernel
theorem dX2_dropFeetFrom_2 : decode cX2_dropFeetFrom 2 = .ok (.iload_n 2, 1) := by decide +kernel
theorem dX2_dropFeetFrom_3 : decode cX2_dropFeetFrom 3 = .ok (.bipush 8, 2) := by decide +kernel
theorem dX2_dropFeetFrom_5 : decode cX2_dropFeetFrom 5 = .ok (.if_icmp .ge 29, 3) := by decide +kernel
theorem dX2_dropFeetFrom_8 : decode cX2_dropFeetFrom 8 = .ok (.aload_n 0, 1) := by decide +kernel
theorem dX2_dropFeetFrom_9 : decode cX2_dropFeetFrom 9 = .ok (.getfield 9, 3) := by decide +kernel
theorem dX2_dropFeetFrom_12 : decode cX2_dropFeetFrom 12 = .ok (.iload_n 2, 1) := by decide +kernel
theorem dX2_dropFeetFrom_13 : decode cX2_dropFeetFrom 13 = .ok (.iaload, 1) := by decide +kernel
theorem dX2_dropFeetFrom_14 : decode cX2_dropFeetFrom 14 = .ok (.bipush 10, 2) := by decide +kernel
theorem dX2_dropFeetFrom_16 : decode cX2_dropFeetFrom 16 = .ok (.iload_n 1, 1) := by decide +kernel
theorem dX2_dropFeetFrom_17 : decode cX2_dropFeetFrom 17 = .ok (.iadd, 1) := by decide +kernel
theorem dX2_dropFeetFrom_18 : decode cX2_dropFeetFrom 18 = .ok (.if_icmp .lt 10, 3) := by decide +kernel
theorem dX2_dropFeetFrom_21 : decode cX2_dropFeetFrom 21 = .ok (.aload_n 0, 1) := by decide +kernel
theorem dX2_dropFeetFrom_22 : decode cX2_dropFeetFrom 22 = .ok (.getfield 9, 3) := by decide +kernel
theorem dX2_dropFeetFrom_25 : decode cX2_dropFeetFrom 25 = .ok (.iload_n 2, 1) := by decide +kernel
theorem dX2_dropFeetFrom_26 : decode cX2_dropFeetFrom 26 = .ok (.iconst (-1), 1) := by decide +kernel
theorem dX2_dropFeetFrom_27 : decode cX2_dropFeetFrom 27 = .ok (.iastore, 1) := by decide +kernel
theorem dX2_dropFeetFrom_28 : decode cX2_dropFeetFrom 28 = .ok (.iinc 2 1, 3) := by decide +kernel
theorem dX2_dropFeetFrom_31 : decode cX2_dropFeetFrom 31 = .ok (.goto (-29), 3) := by decide +kernel
theorem dX2_dropFeetFrom_34 : decode cX2_dropFeetFrom 34 = .ok (.return_, 1) := by decide +kernel
theorem dX2_elementOf_0 : decode cX2_elementOf 0 = .ok (.iload_n 2, 1) := by decide +kernel
theorem dX2_elementOf_1 : decode cX2_elementOf 1 = .ok (.iconst 0, 1) := by decide +kernel
theorem dX2_elementOf_2 : decode cX2_elementOf 2 = .ok (.aload_n 0, 1) := by decide +kernel
theorem dX2_elementOf_3 : decode cX2_elementOf 3 = .ok (.iload_n 1, 1) := by decide +kernel
theorem dX2_elementOf_4 : decode cX2_elementOf 4 = .ok (.invokevirtual 37, 3) := by decide +kernel
theorem dX2_elementOf_7 : decode cX2_elementOf 7 = .ok (.iconst 1, 1) := by decide +kernel
theorem dX2_elementOf_8 : decode cX2_elementOf 8 = .ok (.isub, 1) := by decide +kernel
theorem dX2_elementOf_9 : decode cX2_elementOf 9 = .ok (.invokestatic 33, 3) := by decide +kernel
theorem dX2_elementOf_12 : decode cX2_elementOf 12 = .ok (.ifCond .eq 17, 3) := by decide +kernel
theorem dX2_elementOf_15 : decode cX2_elementOf 15 = .ok (.aload_n 0, 1) := by decide +kernel
theorem dX2_elementOf_16 : decode cX2_elementOf 16 = .ok (.getfield 18, 3) := by decide +kernel
theorem dX2_elementOf_19 : decode cX2_elementOf 19 = .ok (.iload_n 1, 1) := by decide +kernel
theorem dX2_elementOf_20 : decode cX2_elementOf 20 = .ok (.bipush 40, 2) := by decide +kernel
theorem dX2_elementOf_22 : decode cX2_elementOf 22 = .ok (.imul, 1) := by decide +kernel
theorem dX2_elementOf_23 : decode cX2_elementOf 23 = .ok (.iload_n 2, 1) := by decide +kernel
theorem dX2_elementOf_24 : decode cX2_elementOf 24 = .ok (.iadd, 1) := by decide +kernel
theorem dX2_elementOf_25 : decode cX2_elementOf 25 = .ok (.laload, 1) := by decide +kernel
theorem dX2_elementOf_26 : decode cX2_elementOf 26 = .ok (.goto 4, 3) := by decide +kernel
theorem dX2_elementOf_29 : decode cX2_elementOf 29 = .ok (.lconst 0, 1) := by decide +kernel
theorem dX2_elementOf_30 : decode cX2_elementOf 30 = .ok (.lreturn, 1) := by decide +kernel
theorem dX2_put_0 : decode cX2_put 0 = .ok (.iload_n 2, 1) := by decide +kernel
theorem dX2_put_1 : decode cX2_put 1 = .ok (.iconst 0, 1) := by decide +kernel
theorem dX2_put_2 : decode cX2_put 2 = .ok (.aload_n 0, 1) := by decide +kernel
theorem dX2_put_3 : decode cX2_put 3 = .ok (.iload_n 1, 1) := by decide +kernel
theorem dX2_put_4 : decode cX2_put 4 = .ok (.invokevirtual 37, 3) := by decide +kernel
theorem dX2_put_7 : decode cX2_put 7 = .ok (.iconst 1, 1) := by decide +kernel
theorem dX2_put_8 : decode cX2_put 8 = .ok (.isub, 1) := by decide +kernel
theorem dX2_put_9 : decode cX2_put 9 = .ok (.invokestatic 33, 3) := by decide +kernel
theorem dX2_put_12 : decode cX2_put 12 = .ok (.ifCond .eq 23, 3) := by decide +kernel
theorem dX2_put_15 : decode cX2_put 15 = .ok (.aload_n 0, 1) := by decide +kernel
theorem dX2_put_16 : decode cX2_put 16 = .ok (.getfield 18, 3) := by decide +kernel
theorem dX2_put_19 : decode cX2_put 19 = .ok (.iload_n 1, 1) := by decide +kernel
theorem dX2_put_20 : decode cX2_put 20 = .ok (.bipush 40, 2) := by decide +kernel
theorem dX2_put_22 : decode cX2_put 22 = .ok (.imul, 1) := by decide +kernel
theorem dX2_put_23 : decode cX2_put 23 = .ok (.iload_n 2, 1) := by decide +kernel
theorem dX2_put_24 : decode cX2_put 24 = .ok (.iadd, 1) := by decide +kernel
theorem dX2_put_25 : decode cX2_put 25 = .ok (.aload_n 0, 1) := by decide +kernel
theorem dX2_put_26 : decode cX2_put 26 = .ok (.iload_n 1, 1) := by decide +kernel
theorem dX2_put_27 : decode cX2_put 27 = .ok (.invokevirtual 26, 3) := by decide +kernel
theorem dX2_put_30 : decode cX2_put 30 = .ok (.lload_n 3, 1) := by decide +kernel
theorem dX2_put_31 : decode cX2_put 31 = .ok (.invokestatic 40, 3) := by decide +kernel
theorem dX2_put_34 : decode cX2_put 34 = .ok (.lastore, 1) := by decide +kernel
theorem dX2_put_35 : decode cX2_put 35 = .ok (.return_, 1) := by decide +kernel
theorem dX2_lowest_0 : decode cX2_lowest 0 = .ok (.iload_n 0, 1) := by decide +kernel
theorem dX2_lowest_1 : decode cX2_lowest 1 = .ok (.tableswitch 47 0 3 #[31, 36, 41, 45], 31) := by decide +kernel
theorem dX2_lowest_32 : decode cX2_lowest 32 = .ok (.lload_n 1, 1) := by decide +kernel
theorem dX2_lowest_33 : decode cX2_lowest 33 = .ok (.l2i, 1) := by decide +kernel
theorem dX2_lowest_34 : decode cX2_lowest 34 = .ok (.i2b, 1) := by decide +kernel
theorem dX2_lowest_35 : decode cX2_lowest 35 = .ok (.i2l, 1) := by decide +kernel
theorem dX2_lowest_36 : decode cX2_lowest 36 = .ok (.lreturn, 1) := by decide +kernel
theorem dX2_lowest_37 : decode cX2_lowest 37 = .ok (.lload_n 1, 1) := by decide +kernel
theorem dX2_lowest_38 : decode cX2_lowest 38 = .ok (.l2i, 1) := by decide +kernel
theorem dX2_lowest_39 : decode cX2_lowest 39 = .ok (.i2s, 1) := by decide +kernel
theorem dX2_lowest_40 : decode cX2_lowest 40 = .ok (.i2l, 1) := by decide +kernel
theorem dX2_lowest_41 : decode cX2_lowest 41 = .ok (.lreturn, 1) := by decide +kernel
theorem dX2_lowest_42 : decode cX2_lowest 42 = .ok (.lload_n 1, 1) := by decide +kernel
theorem dX2_lowest_43 : decode cX2_lowest 43 = .ok (.l2i, 1) := by decide +kernel
theorem dX2_lowest_44 : decode cX2_lowest 44 = .ok (.i2l, 1) := by decide +kernel
theorem dX2_lowest_45 : decode cX2_lowest 45 = .ok (.lreturn, 1) := by decide +kernel
theorem dX2_lowest_46 : decode cX2_lowest 46 = .ok (.lload_n 1, 1) := by decide +kernel
theorem dX2_lowest_47 : decode cX2_lowest 47 = .ok (.lreturn, 1) := by decide +kernel
theorem dX2_lowest_48 : decode cX2_lowest 48 = .ok (.lload_n 1, 1) := by decide +kernel
theorem dX2_lowest_49 : decode cX2_lowest 49 = .ok (.lconst 0, 1) := by decide +kernel
theorem dX2_lowest_50 : decode cX2_lowest 50 = .ok (.lcmp, 1) := by decide +kernel
theorem dX2_lowest_51 : decode cX2_lowest 51 = .ok (.ifCond .eq 7, 3) := by decide +kernel
theorem dX2_lowest_54 : decode cX2_lowest 54 = .ok (.lconst 1, 1) := by decide +kernel
theorem dX2_lowest_55 : decode cX2_lowest 55 = .ok (.goto 4, 3) := by decide +kernel
theorem dX2_lowest_58 : decode cX2_lowest 58 = .ok (.lconst 0, 1) := by decide +kernel
theorem dX2_lowest_59 : decode cX2_lowest 59 = .ok (.lreturn, 1) := by decide +kernel
theorem dX2_move_0 : decode cX2_move 0 = .ok (.iload_n 3, 1) := by decide +kernel
theorem dX2_move_1 : decode cX2_move 1 = .ok (.iload 5, 2) := by decide +kernel
theorem dX2_move_3 : decode cX2_move 3 = .ok (.aload_n 0, 1) := by decide +kernel
theorem dX2_move_4 : decode cX2_move 4 = .ok (.iload_n 1, 1) := by decide +kernel
theorem dX2_move_5 : decode cX2_move 5 = .ok (.invokevirtual 37, 3) := by decide +kernel
theorem dX2_move_8 : decode cX2_move 8 = .ok (.invokestatic 44, 3) := by decide +kernel
theorem dX2_move_11 : decode cX2_move 11 = .ok (.ifCond .eq 44, 3) := by decide +kernel
theorem dX2_move_14 : decode cX2_move 14 = .ok (.iload 4, 2) := by decide +kernel
theorem dX2_move_16 : decode cX2_move 16 = .ok (.iload 5, 2) := by decide +kernel
theorem dX2_move_18 : decode cX2_move 18 = .ok (.aload_n 0, 1) := by decide +kernel
theorem dX2_move_19 : decode cX2_move 19 = .ok (.iload_n 2, 1) := by decide +kernel
theorem dX2_move_20 : decode cX2_move 20 = .ok (.invokevirtual 37, 3) := by decide +kernel
theorem dX2_move_23 : decode cX2_move 23 = .ok (.invokestatic 44, 3) := by decide +kernel
theorem dX2_move_26 : decode cX2_move 26 = .ok (.ifCond .eq 29, 3) := by decide +kernel
theorem dX2_move_29 : decode cX2_move 29 = .ok (.aload_n 0, 1) := by decide +kernel
theorem dX2_move_30 : decode cX2_move 30 = .ok (.getfield 18, 3) := by decide +kernel
theorem dX2_move_33 : decode cX2_move 33 = .ok (.iload_n 1, 1) := by decide +kernel
theorem dX2_move_34 : decode cX2_move 34 = .ok (.bipush 40, 2) := by decide +kernel
theorem dX2_move_36 : decode cX2_move 36 = .ok (.imul, 1) := by decide +kernel
theorem dX2_move_37 : decode cX2_move 37 = .ok (.iload_n 3, 1) := by decide +kernel
theorem dX2_move_38 : decode cX2_move 38 = .ok (.iadd, 1) := by decide +kernel
theorem dX2_move_39 : decode cX2_move 39 = .ok (.aload_n 0, 1) := by decide +kernel
theorem dX2_move_40 : decode cX2_move 40 = .ok (.getfield 18, 3) := by decide +kernel
theorem dX2_move_43 : decode cX2_move 43 = .ok (.iload_n 2, 1) := by decide +kernel
theorem dX2_move_44 : decode cX2_move 44 = .ok (.bipush 40, 2) := by decide +kernel
theorem dX2_move_46 : decode cX2_move 46 = .ok (.imul, 1) := by decide +kernel
theorem dX2_move_47 : decode cX2_move 47 = .ok (.iload 4, 2) := by decide +kernel
theorem dX2_move_49 : decode cX2_move 49 = .ok (.iadd, 1) := by decide +kernel
theorem dX2_move_50 : decode cX2_move 50 = .ok (.iload 5, 2) := by decide +kernel
theorem dX2_move_52 : decode cX2_move 52 = .ok (.invokestatic 47, 3) := by decide +kernel
theorem dX2_move_55 : decode cX2_move 55 = .ok (.return_, 1) := by decide +kernel

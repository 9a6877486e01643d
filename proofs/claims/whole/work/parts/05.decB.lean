theorem dX0_init_0 : decode cX0_init 0 = .ok (.aload_n 0, 1) := by decide +kernel
theorem dX0_init_1 : decode cX0_init 1 = .ok (.invokespecial 3, 3) := by decide +kernel
theorem dX0_init_4 : decode cX0_init 4 = .ok (.aload_n 0, 1) := by decide +kernel
theorem dX0_init_5 : decode cX0_init 5 = .ok (.bipush 64, 2) := by decide +kernel
theorem dX0_init_7 : decode cX0_init 7 = .ok (.newarray .int, 2) := by decide +kernel
theorem dX0_init_9 : decode cX0_init 9 = .ok (.putfield 9, 3) := by decide +kernel
theorem dX0_init_12 : decode cX0_init 12 = .ok (.aload_n 0, 1) := by decide +kernel
theorem dX0_init_13 : decode cX0_init 13 = .ok (.sipush 576, 3) := by decide +kernel
theorem dX0_init_16 : decode cX0_init 16 = .ok (.newarray .int, 2) := by decide +kernel
theorem dX0_init_18 : decode cX0_init 18 = .ok (.putfield 15, 3) := by decide +kernel
theorem dX0_init_21 : decode cX0_init 21 = .ok (.aload_n 0, 1) := by decide +kernel
theorem dX0_init_22 : decode cX0_init 22 = .ok (.iconst 0, 1) := by decide +kernel
theorem dX0_init_23 : decode cX0_init 23 = .ok (.putfield 18, 3) := by decide +kernel
theorem dX0_init_26 : decode cX0_init 26 = .ok (.return_, 1) := by decide +kernel
theorem dX0_firstWrong_0 : decode cX0_firstWrong 0 = .ok (.aload_n 1, 1) := by decide +kernel
theorem dX0_firstWrong_1 : decode cX0_firstWrong 1 = .ok (.getfield 22, 3) := by decide +kernel
theorem dX0_firstWrong_4 : decode cX0_firstWrong 4 = .ok (.ifCond .ne 6, 3) := by decide +kernel
theorem dX0_firstWrong_7 : decode cX0_firstWrong 7 = .ok (.bipush 64, 2) := by decide +kernel
theorem dX0_firstWrong_9 : decode cX0_firstWrong 9 = .ok (.ireturn, 1) := by decide +kernel
theorem dX0_firstWrong_10 : decode cX0_firstWrong 10 = .ok (.aload_n 0, 1) := by decide +kernel
theorem dX0_firstWrong_11 : decode cX0_firstWrong 11 = .ok (.aload_n 1, 1) := by decide +kernel
theorem dX0_firstWrong_12 : decode cX0_firstWrong 12 = .ok (.invokevirtual 27, 3) := by decide +kernel
theorem dX0_firstWrong_15 : decode cX0_firstWrong 15 = .ok (.iconst 0, 1) := by decide +kernel
theorem dX0_firstWrong_16 : decode cX0_firstWrong 16 = .ok (.istore_n 2, 1) := by decide +kernel
theorem dX0_firstWrong_17 : decode cX0_firstWrong 17 = .ok (.iload_n 2, 1) := by decide +kernel
theorem dX0_firstWrong_18 : decode cX0_firstWrong 18 = .ok (.aload_n 1, 1) := by decide +kernel
theorem dX0_firstWrong_19 : decode cX0_firstWrong 19 = .ok (.getfield 22, 3) := by decide +kernel
theorem dX0_firstWrong_22 : decode cX0_firstWrong 22 = .ok (.if_icmp .ge 20, 3) := by decide +kernel
theorem dX0_firstWrong_25 : decode cX0_firstWrong 25 = .ok (.aload_n 0, 1) := by decide +kernel
theorem dX0_firstWrong_26 : decode cX0_firstWrong 26 = .ok (.aload_n 1, 1) := by decide +kernel
theorem dX0_firstWrong_27 : decode cX0_firstWrong 27 = .ok (.iload_n 2, 1) := by decide +kernel
theorem dX0_firstWrong_28 : decode cX0_firstWrong 28 = .ok (.invokevirtual 31, 3) := by decide +kernel
theorem dX0_firstWrong_31 : decode cX0_firstWrong 31 = .ok (.ifCond .eq 5, 3) := by decide +kernel
theorem dX0_firstWrong_34 : decode cX0_firstWrong 34 = .ok (.iload_n 2, 1) := by decide +kernel
theorem dX0_firstWrong_35 : decode cX0_firstWrong 35 = .ok (.ireturn, 1) := by decide +kernel
theorem dX0_firstWrong_36 : decode cX0_firstWrong 36 = .ok (.iinc 2 1, 3) := by decide +kernel
theorem dX0_firstWrong_39 : decode cX0_firstWrong 39 = .ok (.goto (-22), 3) := by decide +kernel
theorem dX0_firstWrong_42 : decode cX0_firstWrong 42 = .ok (.bipush (-2), 2) := by decide +kernel
theorem dX0_firstWrong_44 : decode cX0_firstWrong 44 = .ok (.ireturn, 1) := by decide +kernel
theorem dX0_walk_0 : decode cX0_walk 0 = .ok (.aload_n 0, 1) := by decide +kernel
theorem dX0_walk_1 : decode cX0_walk 1 = .ok (.getfield 9, 3) := by decide +kernel
theorem dX0_walk_4 : decode cX0_walk 4 = .ok (.iconst 0, 1) := by decide +kernel
theorem dX0_walk_5 : decode cX0_walk 5 = .ok (.invokestatic 35, 3) := by decide +kernel
theorem dX0_walk_8 : decode cX0_walk 8 = .ok (.aload_n 0, 1) := by decide +kernel
theorem dX0_walk_9 : decode cX0_walk 9 = .ok (.iconst 0, 1) := by decide +kernel
theorem dX0_walk_10 : decode cX0_walk 10 = .ok (.putfield 18, 3) := by decide +kernel
theorem dX0_walk_13 : decode cX0_walk 13 = .ok (.aload_n 0, 1) := by decide +kernel
theorem dX0_walk_14 : decode cX0_walk 14 = .ok (.iconst 0, 1) := by decide +kernel
theorem dX0_walk_15 : decode cX0_walk 15 = .ok (.iconst 0, 1) := by decide +kernel
theorem dX0_walk_16 : decode cX0_walk 16 = .ok (.invokevirtual 41, 3) := by decide +kernel
theorem dX0_walk_19 : decode cX0_walk 19 = .ok (.iconst 0, 1) := by decide +kernel
theorem dX0_walk_20 : decode cX0_walk 20 = .ok (.istore_n 2, 1) := by decide +kernel
theorem dX0_walk_21 : decode cX0_walk 21 = .ok (.iload_n 2, 1) := by decide +kernel
theorem dX0_walk_22 : decode cX0_walk 22 = .ok (.aload_n 0, 1) := by decide +kernel
theorem dX0_walk_23 : decode cX0_walk 23 = .ok (.getfield 18, 3) := by decide +kernel
theorem dX0_walk_26 : decode cX0_walk 26 = .ok (.if_icmp .ge 41, 3) := by decide +kernel
theorem dX0_walk_29 : decode cX0_walk 29 = .ok (.iload_n 2, 1) := by decide +kernel
theorem dX0_walk_30 : decode cX0_walk 30 = .ok (.aload_n 0, 1) := by decide +kernel
theorem dX0_walk_31 : decode cX0_walk 31 = .ok (.getfield 15, 3) := by decide +kernel
theorem dX0_walk_34 : decode cX0_walk 34 = .ok (.arraylength, 1) := by decide +kernel
theorem dX0_walk_35 : decode cX0_walk 35 = .ok (.if_icmp .ge 32, 3) := by decide +kernel
theorem dX0_walk_38 : decode cX0_walk 38 = .ok (.aload_n 0, 1) := by decide +kernel
theorem dX0_walk_39 : decode cX0_walk 39 = .ok (.aload_n 1, 1) := by decide +kernel
theorem dX0_walk_40 : decode cX0_walk 40 = .ok (.aload_n 0, 1) := by decide +kernel
theorem dX0_walk_41 : decode cX0_walk 41 = .ok (.getfield 15, 3) := by decide +kernel
theorem dX0_walk_44 : decode cX0_walk 44 = .ok (.iload_n 2, 1) := by decide +kernel
theorem dX0_walk_45 : decode cX0_walk 45 = .ok (.iaload, 1) := by decide +kernel
theorem dX0_walk_46 : decode cX0_walk 46 = .ok (.bipush 9, 2) := by decide +kernel
theorem dX0_walk_48 : decode cX0_walk 48 = .ok (.idiv, 1) := by decide +kernel
theorem dX0_walk_49 : decode cX0_walk 49 = .ok (.aload_n 0, 1) := by decide +kernel
theorem dX0_walk_50 : decode cX0_walk 50 = .ok (.getfield 15, 3) := by decide +kernel
theorem dX0_walk_53 : decode cX0_walk 53 = .ok (.iload_n 2, 1) := by decide +kernel
theorem dX0_walk_54 : decode cX0_walk 54 = .ok (.iaload, 1) := by decide +kernel
theorem dX0_walk_55 : decode cX0_walk 55 = .ok (.bipush 9, 2) := by decide +kernel
theorem dX0_walk_57 : decode cX0_walk 57 = .ok (.irem, 1) := by decide +kernel
theorem dX0_walk_58 : decode cX0_walk 58 = .ok (.invokevirtual 45, 3) := by decide +kernel
theorem dX0_walk_61 : decode cX0_walk 61 = .ok (.iinc 2 1, 3) := by decide +kernel
theorem dX0_walk_64 : decode cX0_walk 64 = .ok (.goto (-43), 3) := by decide +kernel
theorem dX0_walk_67 : decode cX0_walk 67 = .ok (.return_, 1) := by decide +kernel
theorem dX0_goOn_0 : decode cX0_goOn 0 = .ok (.aload_n 0, 1) := by decide +kernel
theorem dX0_goOn_1 : decode cX0_goOn 1 = .ok (.aload_n 1, 1) := by decide +kernel
theorem dX0_goOn_2 : decode cX0_goOn 2 = .ok (.iload_n 2, 1) := by decide +kernel
theorem dX0_goOn_3 : decode cX0_goOn 3 = .ok (.invokevirtual 49, 3) := by decide +kernel
theorem dX0_goOn_6 : decode cX0_goOn 6 = .ok (.ifCond .ne 22, 3) := by decide +kernel
theorem dX0_goOn_9 : decode cX0_goOn 9 = .ok (.aload_n 0, 1) := by decide +kernel
theorem dX0_goOn_10 : decode cX0_goOn 10 = .ok (.aload_n 1, 1) := by decide +kernel
theorem dX0_goOn_11 : decode cX0_goOn 11 = .ok (.iload_n 2, 1) := by decide +kernel
theorem dX0_goOn_12 : decode cX0_goOn 12 = .ok (.invokevirtual 52, 3) := by decide +kernel
theorem dX0_goOn_15 : decode cX0_goOn 15 = .ok (.ifCond .ne 13, 3) := by decide +kernel
theorem dX0_goOn_18 : decode cX0_goOn 18 = .ok (.aload_n 0, 1) := by decide +kernel
theorem dX0_goOn_19 : decode cX0_goOn 19 = .ok (.aload_n 1, 1) := by decide +kernel
theorem dX0_goOn_20 : decode cX0_goOn 20 = .ok (.iload_n 2, 1) := by decide +kernel
theorem dX0_goOn_21 : decode cX0_goOn 21 = .ok (.iload_n 3, 1) := by decide +kernel
theorem dX0_goOn_22 : decode cX0_goOn 22 = .ok (.invokevirtual 55, 3) := by decide +kernel
theorem dX0_goOn_25 : decode cX0_goOn 25 = .ok (.ifCond .ne 4, 3) := by decide +kernel
theorem dX0_goOn_28 : decode cX0_goOn 28 = .ok (.return_, 1) := by decide +kernel
theorem dX0_goOn_29 : decode cX0_goOn 29 = .ok (.aload_n 1, 1) := by decide +kernel
theorem dX0_goOn_30 : decode cX0_goOn 30 = .ok (.getfield 59, 3) := by decide +kernel
theorem dX0_goOn_33 : decode cX0_goOn 33 = .ok (.iload_n 2, 1) := by decide +kernel
theorem dX0_goOn_34 : decode cX0_goOn 34 = .ok (.iaload, 1) := by decide +kernel
theorem dX0_goOn_35 : decode cX0_goOn 35 = .ok (.istore 4, 2) := by decide +kernel
theorem dX0_goOn_37 : decode cX0_goOn 37 = .ok (.iload_n 3, 1) := by decide +kernel
theorem dX0_goOn_38 : decode cX0_goOn 38 = .ok (.getstatic 62, 3) := by decide +kernel
theorem dX0_goOn_41 : decode cX0_goOn 41 = .ok (.iload 4, 2) := by decide +kernel
theorem dX0_goOn_43 : decode cX0_goOn 43 = .ok (.iaload, 1) := by decide +kernel
theorem dX0_goOn_44 : decode cX0_goOn 44 = .ok (.iadd, 1) := by decide +kernel
theorem dX0_goOn_45 : decode cX0_goOn 45 = .ok (.istore 5, 2) := by decide +kernel
theorem dX0_goOn_47 : decode cX0_goOn 47 = .ok (.iload 4, 2) := by decide +kernel
theorem dX0_goOn_49 : decode cX0_goOn 49 = .ok (.invokestatic 65, 3) := by decide +kernel
theorem dX0_goOn_52 : decode cX0_goOn 52 = .ok (.ifCond .eq 15, 3) := by decide +kernel
theorem dX0_goOn_55 : decode cX0_goOn 55 = .ok (.aload_n 0, 1) := by decide +kernel
theorem dX0_goOn_56 : decode cX0_goOn 56 = .ok (.aload_n 1, 1) := by decide +kernel
theorem dX0_goOn_57 : decode cX0_goOn 57 = .ok (.getfield 69, 3) := by decide +kernel
theorem dX0_goOn_60 : decode cX0_goOn 60 = .ok (.iload_n 2, 1) := by decide +kernel
theorem dX0_goOn_61 : decode cX0_goOn 61 = .ok (.iaload, 1) := by decide +kernel
theorem dX0_goOn_62 : decode cX0_goOn 62 = .ok (.iload 5, 2) := by decide +kernel
theorem dX0_goOn_64 : decode cX0_goOn 64 = .ok (.invokevirtual 41, 3) := by decide +kernel
theorem dX0_goOn_67 : decode cX0_goOn 67 = .ok (.iload 4, 2) := by decide +kernel
theorem dX0_goOn_69 : decode cX0_goOn 69 = .ok (.invokestatic 72, 3) := by decide +kernel
theorem dX0_goOn_72 : decode cX0_goOn 72 = .ok (.ifCond .eq 12, 3) := by decide +kernel
theorem dX0_goOn_75 : decode cX0_goOn 75 = .ok (.aload_n 0, 1) := by decide +kernel
theorem dX0_goOn_76 : decode cX0_goOn 76 = .ok (.iload_n 2, 1) := by decide +kernel
theorem dX0_goOn_77 : decode cX0_goOn 77 = .ok (.iconst 1, 1) := by decide +kernel
theorem dX0_goOn_78 : decode cX0_goOn 78 = .ok (.iadd, 1) := by decide +kernel
theorem dX0_goOn_79 : decode cX0_goOn 79 = .ok (.iload 5, 2) := by decide +kernel
theorem dX0_goOn_81 : decode cX0_goOn 81 = .ok (.invokevirtual 41, 3) := by decide +kernel
theorem dX0_goOn_84 : decode cX0_goOn 84 = .ok (.return_, 1) := by decide +kernel
theorem dX0_reach_0 : decode cX0_reach 0 = .ok (.iload_n 1, 1) := by decide +kernel
theorem dX0_reach_1 : decode cX0_reach 1 = .ok (.ifCond .lt 19, 3) := by decide +kernel
theorem dX0_reach_4 : decode cX0_reach 4 = .ok (.iload_n 1, 1) := by decide +kernel
theorem dX0_reach_5 : decode cX0_reach 5 = .ok (.bipush 64, 2) := by decide +kernel
theorem dX0_reach_7 : decode cX0_reach 7 = .ok (.if_icmp .ge 13, 3) := by decide +kernel
theorem dX0_reach_10 : decode cX0_reach 10 = .ok (.iload_n 2, 1) := by decide +kernel
theorem dX0_reach_11 : decode cX0_reach 11 = .ok (.ifCond .lt 9, 3) := by decide +kernel
theorem dX0_reach_14 : decode cX0_reach 14 = .ok (.iload_n 2, 1) := by decide +kernel
theorem dX0_reach_15 : decode cX0_reach 15 = .ok (.bipush 8, 2) := by decide +kernel
theorem dX0_reach_17 : decode cX0_reach 17 = .ok (.if_icmp .le 4, 3) := by decide +kernel
theorem dX0_reach_20 : decode cX0_reach 20 = .ok (.return_, 1) := by decide +kernel
theorem dX0_reach_21 : decode cX0_reach 21 = .ok (.aload_n 0, 1) := by decide +kernel
theorem dX0_reach_22 : decode cX0_reach 22 = .ok (.iload_n 1, 1) := by decide +kernel
theorem dX0_reach_23 : decode cX0_reach 23 = .ok (.iload_n 2, 1) := by decide +kernel
theorem dX0_reach_24 : decode cX0_reach 24 = .ok (.invokevirtual 75, 3) := by decide +kernel
theorem dX0_reach_27 : decode cX0_reach 27 = .ok (.ifCond .ne 15, 3) := by decide +kernel
theorem dX0_reach_30 : decode cX0_reach 30 = .ok (.aload_n 0, 1) := by decide +kernel
theorem dX0_reach_31 : decode cX0_reach 31 = .ok (.getfield 18, 3) := by decide +kernel
theorem dX0_reach_34 : decode cX0_reach 34 = .ok (.aload_n 0, 1) := by decide +kernel
theorem dX0_reach_35 : decode cX0_reach 35 = .ok (.getfield 15, 3) := by decide +kernel
theorem dX0_reach_38 : decode cX0_reach 38 = .ok (.arraylength, 1) := by decide +kernel
theorem dX0_reach_39 : decode cX0_reach 39 = .ok (.if_icmp .lt 4, 3) := by decide +kernel
theorem dX0_reach_42 : decode cX0_reach 42 = .ok (.return_, 1) := by decide +kernel
theorem dX0_reach_43 : decode cX0_reach 43 = .ok (.aload_n 0, 1) := by decide +kernel
theorem dX0_reach_44 : decode cX0_reach 44 = .ok (.getfield 9, 3) := by decide +kernel
theorem dX0_reach_47 : decode cX0_reach 47 = .ok (.iload_n 1, 1) := by decide +kernel
theorem dX0_reach_48 : decode cX0_reach 48 = .ok (.dup2, 1) := by decide +kernel
theorem dX0_reach_49 : decode cX0_reach 49 = .ok (.iaload, 1) := by decide +kernel
theorem dX0_reach_50 : decode cX0_reach 50 = .ok (.iconst 1, 1) := by decide +kernel
theorem dX0_reach_51 : decode cX0_reach 51 = .ok (.iload_n 2, 1) := by decide +kernel
theorem dX0_reach_52 : decode cX0_reach 52 = .ok (.ishl, 1) := by decide +kernel
theorem dX0_reach_53 : decode cX0_reach 53 = .ok (.ior, 1) := by decide +kernel
theorem dX0_reach_54 : decode cX0_reach 54 = .ok (.iastore, 1) := by decide +kernel
theorem dX0_reach_55 : decode cX0_reach 55 = .ok (.aload_n 0, 1) := by decide +kernel
theorem dX0_reach_56 : decode cX0_reach 56 = .ok (.getfield 15, 3) := by decide +kernel
theorem dX0_reach_59 : decode cX0_reach 59 = .ok (.aload_n 0, 1) := by decide +kernel
theorem dX0_reach_60 : decode cX0_reach 60 = .ok (.getfield 18, 3) := by decide +kernel
theorem dX0_reach_63 : decode cX0_reach 63 = .ok (.iload_n 1, 1) := by decide +kernel
theorem dX0_reach_64 : decode cX0_reach 64 = .ok (.bipush 9, 2) := by decide +kernel
theorem dX0_reach_66 : decode cX0_reach 66 = .ok (.imul, 1) := by decide +kernel
theorem dX0_reach_67 : decode cX0_reach 67 = .ok (.iload_n 2, 1) := by decide +kernel
theorem dX0_reach_68 : decode cX0_reach 68 = .ok (.iadd, 1) := by decide +kernel
theorem dX0_reach_69 : decode cX0_reach 69 = .ok (.iastore, 1) := by decide +kernel
theorem dX0_reach_70 : decode cX0_reach 70 = .ok (.aload_n 0, 1) := by decide +kernel
theorem dX0_reach_71 : decode cX0_reach 71 = .ok (.dup, 1) := by decide +kernel
theorem dX0_reach_72 : decode cX0_reach 72 = .ok (.getfield 18, 3) := by decide +kernel
theorem dX0_reach_75 : decode cX0_reach 75 = .ok (.iconst 1, 1) := by decide +kernel
theorem dX0_reach_76 : decode cX0_reach 76 = .ok (.iadd, 1) := by decide +kernel
theorem dX0_reach_77 : decode cX0_reach 77 = .ok (.putfield 18, 3) := by decide +kernel
theorem dX0_reach_80 : decode cX0_reach 80 = .ok (.return_, 1) := by decide +kernel
theorem dX0_hasHeight_0 : decode cX0_hasHeight 0 = .ok (.aload_n 0, 1) := by decide +kernel
theorem dX0_hasHeight_1 : decode cX0_hasHeight 1 = .ok (.getfield 9, 3) := by decide +kernel
theorem dX0_hasHeight_4 : decode cX0_hasHeight 4 = .ok (.iload_n 1, 1) := by decide +kernel
theorem dX0_hasHeight_5 : decode cX0_hasHeight 5 = .ok (.iaload, 1) := by decide +kernel
theorem dX0_hasHeight_6 : decode cX0_hasHeight 6 = .ok (.iload_n 2, 1) := by decide +kernel
theorem dX0_hasHeight_7 : decode cX0_hasHeight 7 = .ok (.ishr, 1) := by decide +kernel
theorem dX0_hasHeight_8 : decode cX0_hasHeight 8 = .ok (.iconst 1, 1) := by decide +kernel
theorem dX0_hasHeight_9 : decode cX0_hasHeight 9 = .ok (.iand, 1) := by decide +kernel
theorem dX0_hasHeight_10 : decode cX0_hasHeight 10 = .ok (.iconst 1, 1) := by decide +kernel
theorem dX0_hasHeight_11 : decode cX0_hasHeight 11 = .ok (.if_icmp .ne 7, 3) := by decide +kernel
theorem dX0_hasHeight_14 : decode cX0_hasHeight 14 = .ok (.iconst 1, 1) := by decide +kernel
theorem dX0_hasHeight_15 : decode cX0_hasHeight 15 = .ok (.goto 4, 3) := by decide +kernel
theorem dX0_hasHeight_18 : decode cX0_hasHeight 18 = .ok (.iconst 0, 1) := by decide +kernel
theorem dX0_hasHeight_19 : decode cX0_hasHeight 19 = .ok (.ireturn, 1) := by decide +kernel
theorem dX0_isWrong_0 : decode cX0_isWrong 0 = .ok (.aload_n 0, 1) := by decide +kernel
theorem dX0_isWrong_1 : decode cX0_isWrong 1 = .ok (.aload_n 1, 1) := by decide +kernel
theorem dX0_isWrong_2 : decode cX0_isWrong 2 = .ok (.iload_n 2, 1) := by decide +kernel
theorem dX0_isWrong_3 : decode cX0_isWrong 3 = .ok (.invokevirtual 49, 3) := by decide +kernel
theorem dX0_isWrong_6 : decode cX0_isWrong 6 = .ok (.ifCond .eq 5, 3) := by decide +kernel
theorem dX0_isWrong_9 : decode cX0_isWrong 9 = .ok (.iconst 1, 1) := by decide +kernel
theorem dX0_isWrong_10 : decode cX0_isWrong 10 = .ok (.ireturn, 1) := by decide +kernel
theorem dX0_isWrong_11 : decode cX0_isWrong 11 = .ok (.aload_n 0, 1) := by decide +kernel
theorem dX0_isWrong_12 : decode cX0_isWrong 12 = .ok (.getfield 9, 3) := by decide +kernel
theorem dX0_isWrong_15 : decode cX0_isWrong 15 = .ok (.iload_n 2, 1) := by decide +kernel
theorem dX0_isWrong_16 : decode cX0_isWrong 16 = .ok (.iaload, 1) := by decide +kernel
theorem dX0_isWrong_17 : decode cX0_isWrong 17 = .ok (.ifCond .ne 5, 3) := by decide +kernel
theorem dX0_isWrong_20 : decode cX0_isWrong 20 = .ok (.iconst 0, 1) := by decide +kernel
theorem dX0_isWrong_21 : decode cX0_isWrong 21 = .ok (.ireturn, 1) := by decide +kernel
theorem dX0_isWrong_22 : decode cX0_isWrong 22 = .ok (.aload_n 0, 1) := by decide +kernel
theorem dX0_isWrong_23 : decode cX0_isWrong 23 = .ok (.getfield 9, 3) := by decide +kernel
theorem dX0_isWrong_26 : decode cX0_isWrong 26 = .ok (.iload_n 2, 1) := by decide +kernel
theorem dX0_isWrong_27 : decode cX0_isWrong 27 = .ok (.iaload, 1) := by decide +kernel
theorem dX0_isWrong_28 : decode cX0_isWrong 28 = .ok (.invokestatic 79, 3) := by decide +kernel
theorem dX0_isWrong_31 : decode cX0_isWrong 31 = .ok (.iconst 1, 1) := by decide +kernel
theorem dX0_isWrong_32 : decode cX0_isWrong 32 = .ok (.if_icmp .gt 21, 3) := by decide +kernel
theorem dX0_isWrong_35 : decode cX0_isWrong 35 = .ok (.aload_n 0, 1) := by decide +kernel
theorem dX0_isWrong_36 : decode cX0_isWrong 36 = .ok (.aload_n 1, 1) := by decide +kernel
theorem dX0_isWrong_37 : decode cX0_isWrong 37 = .ok (.iload_n 2, 1) := by decide +kernel
theorem dX0_isWrong_38 : decode cX0_isWrong 38 = .ok (.invokevirtual 52, 3) := by decide +kernel
theorem dX0_isWrong_41 : decode cX0_isWrong 41 = .ok (.ifCond .ne 12, 3) := by decide +kernel
theorem dX0_isWrong_44 : decode cX0_isWrong 44 = .ok (.aload_n 0, 1) := by decide +kernel
theorem dX0_isWrong_45 : decode cX0_isWrong 45 = .ok (.aload_n 1, 1) := by decide +kernel
theorem dX0_isWrong_46 : decode cX0_isWrong 46 = .ok (.iload_n 2, 1) := by decide +kernel
theorem dX0_isWrong_47 : decode cX0_isWrong 47 = .ok (.invokevirtual 85, 3) := by decide +kernel
theorem dX0_isWrong_50 : decode cX0_isWrong 50 = .ok (.ifCond .ne 7, 3) := by decide +kernel
theorem dX0_isWrong_53 : decode cX0_isWrong 53 = .ok (.iconst 1, 1) := by decide +kernel
theorem dX0_isWrong_54 : decode cX0_isWrong 54 = .ok (.goto 4, 3) := by decide +kernel
theorem dX0_isWrong_57 : decode cX0_isWrong 57 = .ok (.iconst 0, 1) := by decide +kernel
theorem dX0_isWrong_58 : decode cX0_isWrong 58 = .ok (.ireturn, 1) := by decide +kernel
theorem dX0_fitsEveryHeight_0 : decode cX0_fitsEveryHeight 0 = .ok (.iconst 0, 1) := by decide +kernel
theorem dX0_fitsEveryHeight_1 : decode cX0_fitsEveryHeight 1 = .ok (.istore_n 3, 1) := by decide +kernel
theorem dX0_fitsEveryHeight_2 : decode cX0_fitsEveryHeight 2 = .ok (.iload_n 3, 1) := by decide +kernel
theorem dX0_fitsEveryHeight_3 : decode cX0_fitsEveryHeight 3 = .ok (.bipush 9, 2) := by decide +kernel
theorem dX0_fitsEveryHeight_5 : decode cX0_fitsEveryHeight 5 = .ok (.if_icmp .ge 30, 3) := by decide +kernel
theorem dX0_fitsEveryHeight_8 : decode cX0_fitsEveryHeight 8 = .ok (.aload_n 0, 1) := by decide +kernel
theorem dX0_fitsEveryHeight_9 : decode cX0_fitsEveryHeight 9 = .ok (.iload_n 2, 1) := by decide +kernel
theorem dX0_fitsEveryHeight_10 : decode cX0_fitsEveryHeight 10 = .ok (.iload_n 3, 1) := by decide +kernel
theorem dX0_fitsEveryHeight_11 : decode cX0_fitsEveryHeight 11 = .ok (.invokevirtual 75, 3) := by decide +kernel
theorem dX0_fitsEveryHeight_14 : decode cX0_fitsEveryHeight 14 = .ok (.ifCond .eq 15, 3) := by decide +kernel
theorem dX0_fitsEveryHeight_17 : decode cX0_fitsEveryHeight 17 = .ok (.aload_n 0, 1) := by decide +kernel
theorem dX0_fitsEveryHeight_18 : decode cX0_fitsEveryHeight 18 = .ok (.aload_n 1, 1) := by decide +kernel
theorem dX0_fitsEveryHeight_19 : decode cX0_fitsEveryHeight 19 = .ok (.iload_n 2, 1) := by decide +kernel
theorem dX0_fitsEveryHeight_20 : decode cX0_fitsEveryHeight 20 = .ok (.iload_n 3, 1) := by decide +kernel
theorem dX0_fitsEveryHeight_21 : decode cX0_fitsEveryHeight 21 = .ok (.invokevirtual 55, 3) := by decide +kernel
theorem dX0_fitsEveryHeight_24 : decode cX0_fitsEveryHeight 24 = .ok (.ifCond .ne 5, 3) := by decide +kernel
theorem dX0_fitsEveryHeight_27 : decode cX0_fitsEveryHeight 27 = .ok (.iconst 0, 1) := by decide +kernel
theorem dX0_fitsEveryHeight_28 : decode cX0_fitsEveryHeight 28 = .ok (.ireturn, 1) := by decide +kernel
theorem dX0_fitsEveryHeight_29 : decode cX0_fitsEveryHeight 29 = .ok (.iinc 3 1, 3) := by decide +kernel
theorem dX0_fitsEveryHeight_32 : decode cX0_fitsEveryHeight 32 = .ok (.goto (-30), 3) := by decide +kernel
theorem dX0_fitsEveryHeight_35 : decode cX0_fitsEveryHeight 35 = .ok (.iconst 1, 1) := by decide +kernel
theorem dX0_fitsEveryHeight_36 : decode cX0_fitsEveryHeight 36 = .ok (.ireturn, 1) := by decide +kernel
theorem dX0_fits_0 : decode cX0_fits 0 = .ok (.aload_n 1, 1) := by decide +kernel
theorem dX0_fits_1 : decode cX0_fits 1 = .ok (.getfield 59, 3) := by decide +kernel
theorem dX0_fits_4 : decode cX0_fits 4 = .ok (.iload_n 2, 1) := by decide +kernel
theorem dX0_fits_5 : decode cX0_fits 5 = .ok (.iaload, 1) := by decide +kernel
theorem dX0_fits_6 : decode cX0_fits 6 = .ok (.istore 4, 2) := by decide +kernel
theorem dX0_fits_8 : decode cX0_fits 8 = .ok (.iload 4, 2) := by decide +kernel
theorem dX0_fits_10 : decode cX0_fits 10 = .ok (.bipush 17, 2) := by decide +kernel
theorem dX0_fits_12 : decode cX0_fits 12 = .ok (.if_icmp .ne 14, 3) := by decide +kernel
theorem dX0_fits_15 : decode cX0_fits 15 = .ok (.aload_n 1, 1) := by decide +kernel
theorem dX0_fits_16 : decode cX0_fits 16 = .ok (.getfield 88, 3) := by decide +kernel
theorem dX0_fits_19 : decode cX0_fits 19 = .ok (.ifCond .ne 7, 3) := by decide +kernel
theorem dX0_fits_22 : decode cX0_fits 22 = .ok (.iconst 0, 1) := by decide +kernel
theorem dX0_fits_23 : decode cX0_fits 23 = .ok (.goto 9, 3) := by decide +kernel
theorem dX0_fits_26 : decode cX0_fits 26 = .ok (.getstatic 91, 3) := by decide +kernel
theorem dX0_fits_29 : decode cX0_fits 29 = .ok (.iload 4, 2) := by decide +kernel
theorem dX0_fits_31 : decode cX0_fits 31 = .ok (.iaload, 1) := by decide +kernel
theorem dX0_fits_32 : decode cX0_fits 32 = .ok (.istore 5, 2) := by decide +kernel
theorem dX0_fits_34 : decode cX0_fits 34 = .ok (.iload_n 3, 1) := by decide +kernel
theorem dX0_fits_35 : decode cX0_fits 35 = .ok (.iload 5, 2) := by decide +kernel
theorem dX0_fits_37 : decode cX0_fits 37 = .ok (.if_icmp .lt 20, 3) := by decide +kernel
theorem dX0_fits_40 : decode cX0_fits 40 = .ok (.iload_n 3, 1) := by decide +kernel
theorem dX0_fits_41 : decode cX0_fits 41 = .ok (.getstatic 62, 3) := by decide +kernel
theorem dX0_fits_44 : decode cX0_fits 44 = .ok (.iload 4, 2) := by decide +kernel
theorem dX0_fits_46 : decode cX0_fits 46 = .ok (.iaload, 1) := by decide +kernel
theorem dX0_fits_47 : decode cX0_fits 47 = .ok (.iadd, 1) := by decide +kernel
theorem dX0_fits_48 : decode cX0_fits 48 = .ok (.bipush 8, 2) := by decide +kernel
theorem dX0_fits_50 : decode cX0_fits 50 = .ok (.if_icmp .gt 7, 3) := by decide +kernel
theorem dX0_fits_53 : decode cX0_fits 53 = .ok (.iconst 1, 1) := by decide +kernel
theorem dX0_fits_54 : decode cX0_fits 54 = .ok (.goto 4, 3) := by decide +kernel
theorem dX0_fits_57 : decode cX0_fits 57 = .ok (.iconst 0, 1) := by decide +kernel
theorem dX0_fits_58 : decode cX0_fits 58 = .ok (.ireturn, 1) := by decide +kernel
theorem dX0_isMisformed_0 : decode cX0_isMisformed 0 = .ok (.aload_n 1, 1) := by decide +kernel
theorem dX0_isMisformed_1 : decode cX0_isMisformed 1 = .ok (.getfield 59, 3) := by decide +kernel
theorem dX0_isMisformed_4 : decode cX0_isMisformed 4 = .ok (.iload_n 2, 1) := by decide +kernel
theorem dX0_isMisformed_5 : decode cX0_isMisformed 5 = .ok (.iaload, 1) := by decide +kernel
theorem dX0_isMisformed_6 : decode cX0_isMisformed 6 = .ok (.istore_n 3, 1) := by decide +kernel
theorem dX0_isMisformed_7 : decode cX0_isMisformed 7 = .ok (.aload_n 1, 1) := by decide +kernel
theorem dX0_isMisformed_8 : decode cX0_isMisformed 8 = .ok (.getfield 69, 3) := by decide +kernel
theorem dX0_isMisformed_11 : decode cX0_isMisformed 11 = .ok (.iload_n 2, 1) := by decide +kernel
theorem dX0_isMisformed_12 : decode cX0_isMisformed 12 = .ok (.iaload, 1) := by decide +kernel
theorem dX0_isMisformed_13 : decode cX0_isMisformed 13 = .ok (.istore 4, 2) := by decide +kernel
theorem dX0_isMisformed_15 : decode cX0_isMisformed 15 = .ok (.iload_n 3, 1) := by decide +kernel
theorem dX0_isMisformed_16 : decode cX0_isMisformed 16 = .ok (.ifCond .lt 9, 3) := by decide +kernel
theorem dX0_isMisformed_19 : decode cX0_isMisformed 19 = .ok (.iload_n 3, 1) := by decide +kernel
theorem dX0_isMisformed_20 : decode cX0_isMisformed 20 = .ok (.bipush 18, 2) := by decide +kernel
theorem dX0_isMisformed_22 : decode cX0_isMisformed 22 = .ok (.if_icmp .le 5, 3) := by decide +kernel
theorem dX0_isMisformed_25 : decode cX0_isMisformed 25 = .ok (.iconst 1, 1) := by decide +kernel
theorem dX0_isMisformed_26 : decode cX0_isMisformed 26 = .ok (.ireturn, 1) := by decide +kernel
theorem dX0_isMisformed_27 : decode cX0_isMisformed 27 = .ok (.iload_n 3, 1) := by decide +kernel
theorem dX0_isMisformed_28 : decode cX0_isMisformed 28 = .ok (.bipush 16, 2) := by decide +kernel
theorem dX0_isMisformed_30 : decode cX0_isMisformed 30 = .ok (.if_icmp .ne 16, 3) := by decide +kernel
theorem dX0_isMisformed_33 : decode cX0_isMisformed 33 = .ok (.aload_n 1, 1) := by decide +kernel
theorem dX0_isMisformed_34 : decode cX0_isMisformed 34 = .ok (.getfield 88, 3) := by decide +kernel
theorem dX0_isMisformed_37 : decode cX0_isMisformed 37 = .ok (.ifCond .eq 7, 3) := by decide +kernel
theorem dX0_isMisformed_40 : decode cX0_isMisformed 40 = .ok (.iconst 1, 1) := by decide +kernel
theorem dX0_isMisformed_41 : decode cX0_isMisformed 41 = .ok (.goto 4, 3) := by decide +kernel
theorem dX0_isMisformed_44 : decode cX0_isMisformed 44 = .ok (.iconst 0, 1) := by decide +kernel
theorem dX0_isMisformed_45 : decode cX0_isMisformed 45 = .ok (.ireturn, 1) := by decide +kernel
theorem dX0_isMisformed_46 : decode cX0_isMisformed 46 = .ok (.iload_n 3, 1) := by decide +kernel
theorem dX0_isMisformed_47 : decode cX0_isMisformed 47 = .ok (.bipush 18, 2) := by decide +kernel
theorem dX0_isMisformed_49 : decode cX0_isMisformed 49 = .ok (.if_icmp .ne 17, 3) := by decide +kernel
theorem dX0_isMisformed_52 : decode cX0_isMisformed 52 = .ok (.aload_n 1, 1) := by decide +kernel
theorem dX0_isMisformed_53 : decode cX0_isMisformed 53 = .ok (.getfield 88, 3) := by decide +kernel
theorem dX0_isMisformed_56 : decode cX0_isMisformed 56 = .ok (.iconst 3, 1) := by decide +kernel
theorem dX0_isMisformed_57 : decode cX0_isMisformed 57 = .ok (.if_icmp .eq 7, 3) := by decide +kernel
theorem dX0_isMisformed_60 : decode cX0_isMisformed 60 = .ok (.iconst 1, 1) := by decide +kernel
theorem dX0_isMisformed_61 : decode cX0_isMisformed 61 = .ok (.goto 4, 3) := by decide +kernel
theorem dX0_isMisformed_64 : decode cX0_isMisformed 64 = .ok (.iconst 0, 1) := by decide +kernel
theorem dX0_isMisformed_65 : decode cX0_isMisformed 65 = .ok (.ireturn, 1) := by decide +kernel
theorem dX0_isMisformed_66 : decode cX0_isMisformed 66 = .ok (.iload_n 3, 1) := by decide +kernel
theorem dX0_isMisformed_67 : decode cX0_isMisformed 67 = .ok (.iconst 1, 1) := by decide +kernel
theorem dX0_isMisformed_68 : decode cX0_isMisformed 68 = .ok (.if_icmp .ne 23, 3) := by decide +kernel
theorem dX0_isMisformed_71 : decode cX0_isMisformed 71 = .ok (.iload 4, 2) := by decide +kernel
theorem dX0_isMisformed_73 : decode cX0_isMisformed 73 = .ok (.ifCond .lt 12, 3) := by decide +kernel
theorem dX0_isMisformed_76 : decode cX0_isMisformed 76 = .ok (.iload 4, 2) := by decide +kernel
theorem dX0_isMisformed_78 : decode cX0_isMisformed 78 = .ok (.aload_n 1, 1) := by decide +kernel
theorem dX0_isMisformed_79 : decode cX0_isMisformed 79 = .ok (.invokevirtual 94, 3) := by decide +kernel
theorem dX0_isMisformed_82 : decode cX0_isMisformed 82 = .ok (.if_icmp .lt 7, 3) := by decide +kernel
theorem dX0_isMisformed_85 : decode cX0_isMisformed 85 = .ok (.iconst 1, 1) := by decide +kernel
theorem dX0_isMisformed_86 : decode cX0_isMisformed 86 = .ok (.goto 4, 3) := by decide +kernel
theorem dX0_isMisformed_89 : decode cX0_isMisformed 89 = .ok (.iconst 0, 1) := by decide +kernel
theorem dX0_isMisformed_90 : decode cX0_isMisformed 90 = .ok (.ireturn, 1) := by decide +kernel
theorem dX0_isMisformed_91 : decode cX0_isMisformed 91 = .ok (.iload_n 3, 1) := by decide +kernel
theorem dX0_isMisformed_92 : decode cX0_isMisformed 92 = .ok (.iconst 2, 1) := by decide +kernel
theorem dX0_isMisformed_93 : decode cX0_isMisformed 93 = .ok (.if_icmp .eq 8, 3) := by decide +kernel
theorem dX0_isMisformed_96 : decode cX0_isMisformed 96 = .ok (.iload_n 3, 1) := by decide +kernel
theorem dX0_isMisformed_97 : decode cX0_isMisformed 97 = .ok (.iconst 3, 1) := by decide +kernel
theorem dX0_isMisformed_98 : decode cX0_isMisformed 98 = .ok (.if_icmp .ne 20, 3) := by decide +kernel
theorem dX0_isMisformed_101 : decode cX0_isMisformed 101 = .ok (.iload 4, 2) := by decide +kernel
theorem dX0_isMisformed_103 : decode cX0_isMisformed 103 = .ok (.ifCond .lt 9, 3) := by decide +kernel
theorem dX0_isMisformed_106 : decode cX0_isMisformed 106 = .ok (.iload 4, 2) := by decide +kernel
theorem dX0_isMisformed_108 : decode cX0_isMisformed 108 = .ok (.iconst 4, 1) := by decide +kernel
theorem dX0_isMisformed_109 : decode cX0_isMisformed 109 = .ok (.if_icmp .lt 7, 3) := by decide +kernel
theorem dX0_isMisformed_112 : decode cX0_isMisformed 112 = .ok (.iconst 1, 1) := by decide +kernel
theorem dX0_isMisformed_113 : decode cX0_isMisformed 113 = .ok (.goto 4, 3) := by decide +kernel
theorem dX0_isMisformed_116 : decode cX0_isMisformed 116 = .ok (.iconst 0, 1) := by decide +kernel
theorem dX0_isMisformed_117 : decode cX0_isMisformed 117 = .ok (.ireturn, 1) := by decide +kernel
theorem dX0_isMisformed_118 : decode cX0_isMisformed 118 = .ok (.iload_n 3, 1) := by decide +kernel
theorem dX0_isMisformed_119 : decode cX0_isMisformed 119 = .ok (.invokestatic 65, 3) := by decide +kernel
theorem dX0_isMisformed_122 : decode cX0_isMisformed 122 = .ok (.ifCond .eq 16, 3) := by decide +kernel
theorem dX0_isMisformed_125 : decode cX0_isMisformed 125 = .ok (.aload_n 1, 1) := by decide +kernel
theorem dX0_isMisformed_126 : decode cX0_isMisformed 126 = .ok (.iload 4, 2) := by decide +kernel
theorem dX0_isMisformed_128 : decode cX0_isMisformed 128 = .ok (.invokevirtual 98, 3) := by decide +kernel
theorem dX0_isMisformed_131 : decode cX0_isMisformed 131 = .ok (.ifCond .ne 7, 3) := by decide +kernel
theorem dX0_isMisformed_134 : decode cX0_isMisformed 134 = .ok (.iconst 1, 1) := by decide +kernel
theorem dX0_isMisformed_135 : decode cX0_isMisformed 135 = .ok (.goto 4, 3) := by decide +kernel
theorem dX0_isMisformed_138 : decode cX0_isMisformed 138 = .ok (.iconst 0, 1) := by decide +kernel
theorem dX0_isMisformed_139 : decode cX0_isMisformed 139 = .ok (.ireturn, 1) := by decide +kernel
theorem dX0_lacksNext_0 : decode cX0_lacksNext 0 = .ok (.aload_n 1, 1) := by decide +kernel
theorem dX0_lacksNext_1 : decode cX0_lacksNext 1 = .ok (.getfield 59, 3) := by decide +kernel
theorem dX0_lacksNext_4 : decode cX0_lacksNext 4 = .ok (.iload_n 2, 1) := by decide +kernel
theorem dX0_lacksNext_5 : decode cX0_lacksNext 5 = .ok (.iaload, 1) := by decide +kernel
theorem dX0_lacksNext_6 : decode cX0_lacksNext 6 = .ok (.invokestatic 72, 3) := by decide +kernel
theorem dX0_lacksNext_9 : decode cX0_lacksNext 9 = .ok (.ifCond .eq 17, 3) := by decide +kernel
theorem dX0_lacksNext_12 : decode cX0_lacksNext 12 = .ok (.aload_n 1, 1) := by decide +kernel
theorem dX0_lacksNext_13 : decode cX0_lacksNext 13 = .ok (.iload_n 2, 1) := by decide +kernel
theorem dX0_lacksNext_14 : decode cX0_lacksNext 14 = .ok (.iconst 1, 1) := by decide +kernel
theorem dX0_lacksNext_15 : decode cX0_lacksNext 15 = .ok (.iadd, 1) := by decide +kernel
theorem dX0_lacksNext_16 : decode cX0_lacksNext 16 = .ok (.invokevirtual 98, 3) := by decide +kernel
theorem dX0_lacksNext_19 : decode cX0_lacksNext 19 = .ok (.ifCond .ne 7, 3) := by decide +kernel
theorem dX0_lacksNext_22 : decode cX0_lacksNext 22 = .ok (.iconst 1, 1) := by decide +kernel
theorem dX0_lacksNext_23 : decode cX0_lacksNext 23 = .ok (.goto 4, 3) := by decide +kernel
theorem dX0_lacksNext_26 : decode cX0_lacksNext 26 = .ok (.iconst 0, 1) := by decide +kernel
theorem dX0_lacksNext_27 : decode cX0_lacksNext 27 = .ok (.ireturn, 1) := by decide +kernel
theorem dX0_hasNext_0 : decode cX0_hasNext 0 = .ok (.iload_n 0, 1) := by decide +kernel
theorem dX0_hasNext_1 : decode cX0_hasNext 1 = .ok (.bipush 14, 2) := by decide +kernel
theorem dX0_hasNext_3 : decode cX0_hasNext 3 = .ok (.if_icmp .eq 19, 3) := by decide +kernel
theorem dX0_hasNext_6 : decode cX0_hasNext 6 = .ok (.iload_n 0, 1) := by decide +kernel
theorem dX0_hasNext_7 : decode cX0_hasNext 7 = .ok (.bipush 17, 2) := by decide +kernel
theorem dX0_hasNext_9 : decode cX0_hasNext 9 = .ok (.if_icmp .eq 13, 3) := by decide +kernel
theorem dX0_hasNext_12 : decode cX0_hasNext 12 = .ok (.iload_n 0, 1) := by decide +kernel
theorem dX0_hasNext_13 : decode cX0_hasNext 13 = .ok (.bipush 18, 2) := by decide +kernel
theorem dX0_hasNext_15 : decode cX0_hasNext 15 = .ok (.if_icmp .eq 7, 3) := by decide +kernel
theorem dX0_hasNext_18 : decode cX0_hasNext 18 = .ok (.iconst 1, 1) := by decide +kernel
theorem dX0_hasNext_19 : decode cX0_hasNext 19 = .ok (.goto 4, 3) := by decide +kernel
theorem dX0_hasNext_22 : decode cX0_hasNext 22 = .ok (.iconst 0, 1) := by decide +kernel
theorem dX0_hasNext_23 : decode cX0_hasNext 23 = .ok (.ireturn, 1) := by decide +kernel
theorem dX1_init_0 : decode cX1_init 0 = .ok (.aload_n 0, 1) := by decide +kernel
theorem dX1_init_1 : decode cX1_init 1 = .ok (.invokespecial 3, 3) := by decide +kernel
theorem dX1_init_4 : decode cX1_init 4 = .ok (.aload_n 0, 1) := by decide +kernel
theorem dX1_init_5 : decode cX1_init 5 = .ok (.new 9, 3) := by decide +kernel
theorem dX1_init_8 : decode cX1_init 8 = .ok (.dup, 1) := by decide +kernel
theorem dX1_init_9 : decode cX1_init 9 = .ok (.invokespecial 11, 3) := by decide +kernel
theorem dX1_init_12 : decode cX1_init 12 = .ok (.putfield 12, 3) := by decide +kernel
theorem dX1_init_15 : decode cX1_init 15 = .ok (.aload_n 0, 1) := by decide +kernel
theorem dX1_init_16 : decode cX1_init 16 = .ok (.bipush 120, 2) := by decide +kernel
theorem dX1_init_18 : decode cX1_init 18 = .ok (.newarray .int, 2) := by decide +kernel
theorem dX1_init_20 : decode cX1_init 20 = .ok (.putfield 18, 3) := by decide +kernel
theorem dX1_init_23 : decode cX1_init 23 = .ok (.aload_n 0, 1) := by decide +kernel
theorem dX1_init_24 : decode cX1_init 24 = .ok (.new 22, 3) := by decide +kernel
theorem dX1_init_27 : decode cX1_init 27 = .ok (.dup, 1) := by decide +kernel
theorem dX1_init_28 : decode cX1_init 28 = .ok (.invokespecial 24, 3) := by decide +kernel
theorem dX1_init_31 : decode cX1_init 31 = .ok (.putfield 25, 3) := by decide +kernel
theorem dX1_init_34 : decode cX1_init 34 = .ok (.aload_n 0, 1) := by decide +kernel
theorem dX1_init_35 : decode cX1_init 35 = .ok (.new 29, 3) := by decide +kernel
theorem dX1_init_38 : decode cX1_init 38 = .ok (.dup, 1) := by decide +kernel
theorem dX1_init_39 : decode cX1_init 39 = .ok (.sipush 600, 3) := by decide +kernel
theorem dX1_init_42 : decode cX1_init 42 = .ok (.invokespecial 31, 3) := by decide +kernel
theorem dX1_init_45 : decode cX1_init 45 = .ok (.putfield 34, 3) := by decide +kernel
theorem dX1_init_48 : decode cX1_init 48 = .ok (.aload_n 0, 1) := by decide +kernel
theorem dX1_init_49 : decode cX1_init 49 = .ok (.new 22, 3) := by decide +kernel
theorem dX1_init_52 : decode cX1_init 52 = .ok (.dup, 1) := by decide +kernel
theorem dX1_init_53 : decode cX1_init 53 = .ok (.invokespecial 24, 3) := by decide +kernel
theorem dX1_init_56 : decode cX1_init 56 = .ok (.putfield 38, 3) := by decide +kernel
theorem dX1_init_59 : decode cX1_init 59 = .ok (.aload_n 0, 1) := by decide +kernel
theorem dX1_init_60 : decode cX1_init 60 = .ok (.bipush 8, 2) := by decide +kernel
theorem dX1_init_62 : decode cX1_init 62 = .ok (.newarray .int, 2) := by decide +kernel
theorem dX1_init_64 : decode cX1_init 64 = .ok (.putfield 41, 3) := by decide +kernel
theorem dX1_init_67 : decode cX1_init 67 = .ok (.aload_n 0, 1) := by decide +kernel
theorem dX1_init_68 : decode cX1_init 68 = .ok (.getfield 41, 3) := by decide +kernel
theorem dX1_init_71 : decode cX1_init 71 = .ok (.iconst 0, 1) := by decide +kernel
theorem dX1_init_72 : decode cX1_init 72 = .ok (.iconst (-1), 1) := by decide +kernel
theorem dX1_init_73 : decode cX1_init 73 = .ok (.iastore, 1) := by decide +kernel
theorem dX1_init_74 : decode cX1_init 74 = .ok (.return_, 1) := by decide +kernel
theorem dX1_perform_0 : decode cX1_perform 0 = .ok (.aload_n 0, 1) := by decide +kernel
theorem dX1_perform_1 : decode cX1_perform 1 = .ok (.iconst (-1), 1) := by decide +kernel
theorem dX1_perform_2 : decode cX1_perform 2 = .ok (.invokevirtual 44, 3) := by decide +kernel
theorem dX1_perform_5 : decode cX1_perform 5 = .ok (.aload_n 2, 1) := by decide +kernel
theorem dX1_perform_6 : decode cX1_perform 6 = .ok (.getfield 47, 3) := by decide +kernel
theorem dX1_perform_9 : decode cX1_perform 9 = .ok (.iload_n 3, 1) := by decide +kernel
theorem dX1_perform_10 : decode cX1_perform 10 = .ok (.iadd, 1) := by decide +kernel
theorem dX1_perform_11 : decode cX1_perform 11 = .ok (.iconst 1, 1) := by decide +kernel
theorem dX1_perform_12 : decode cX1_perform 12 = .ok (.isub, 1) := by decide +kernel
theorem dX1_perform_13 : decode cX1_perform 13 = .ok (.iload_n 3, 1) := by decide +kernel
theorem dX1_perform_14 : decode cX1_perform 14 = .ok (.idiv, 1) := by decide +kernel
theorem dX1_perform_15 : decode cX1_perform 15 = .ok (.istore 4, 2) := by decide +kernel
theorem dX1_perform_17 : decode cX1_perform 17 = .ok (.aload_n 0, 1) := by decide +kernel
theorem dX1_perform_18 : decode cX1_perform 18 = .ok (.aload_n 1, 1) := by decide +kernel
theorem dX1_perform_19 : decode cX1_perform 19 = .ok (.iconst 0, 1) := by decide +kernel
theorem dX1_perform_20 : decode cX1_perform 20 = .ok (.aaload, 1) := by decide +kernel
theorem dX1_perform_21 : decode cX1_perform 21 = .ok (.aload_n 2, 1) := by decide +kernel
theorem dX1_perform_22 : decode cX1_perform 22 = .ok (.iload_n 3, 1) := by decide +kernel
theorem dX1_perform_23 : decode cX1_perform 23 = .ok (.invokevirtual 51, 3) := by decide +kernel
theorem dX1_perform_26 : decode cX1_perform 26 = .ok (.istore 5, 2) := by decide +kernel
theorem dX1_perform_28 : decode cX1_perform 28 = .ok (.aload_n 0, 1) := by decide +kernel
theorem dX1_perform_29 : decode cX1_perform 29 = .ok (.getfield 12, 3) := by decide +kernel
theorem dX1_perform_32 : decode cX1_perform 32 = .ok (.getfield 55, 3) := by decide +kernel
theorem dX1_perform_35 : decode cX1_perform 35 = .ok (.astore 6, 2) := by decide +kernel
theorem dX1_perform_37 : decode cX1_perform 37 = .ok (.iload 5, 2) := by decide +kernel
theorem dX1_perform_39 : decode cX1_perform 39 = .ok (.iconst (-1), 1) := by decide +kernel
theorem dX1_perform_40 : decode cX1_perform 40 = .ok (.if_icmp .ne 29, 3) := by decide +kernel
theorem dX1_perform_43 : decode cX1_perform 43 = .ok (.aload_n 1, 1) := by decide +kernel
theorem dX1_perform_44 : decode cX1_perform 44 = .ok (.iconst 1, 1) := by decide +kernel
theorem dX1_perform_45 : decode cX1_perform 45 = .ok (.aaload, 1) := by decide +kernel
theorem dX1_perform_46 : decode cX1_perform 46 = .ok (.getfield 58, 3) := by decide +kernel
theorem dX1_perform_49 : decode cX1_perform 49 = .ok (.ifCond .le 20, 3) := by decide +kernel
theorem dX1_perform_52 : decode cX1_perform 52 = .ok (.aload_n 0, 1) := by decide +kernel
theorem dX1_perform_53 : decode cX1_perform 53 = .ok (.aload_n 1, 1) := by decide +kernel
theorem dX1_perform_54 : decode cX1_perform 54 = .ok (.iconst 1, 1) := by decide +kernel
theorem dX1_perform_55 : decode cX1_perform 55 = .ok (.aaload, 1) := by decide +kernel
theorem dX1_perform_56 : decode cX1_perform 56 = .ok (.iload 4, 2) := by decide +kernel
theorem dX1_perform_58 : decode cX1_perform 58 = .ok (.invokevirtual 61, 3) := by decide +kernel
theorem dX1_perform_61 : decode cX1_perform 61 = .ok (.istore 5, 2) := by decide +kernel
theorem dX1_perform_63 : decode cX1_perform 63 = .ok (.aload_n 0, 1) := by decide +kernel
theorem dX1_perform_64 : decode cX1_perform 64 = .ok (.getfield 34, 3) := by decide +kernel
theorem dX1_perform_67 : decode cX1_perform 67 = .ok (.astore 6, 2) := by decide +kernel
theorem dX1_perform_69 : decode cX1_perform 69 = .ok (.iload 5, 2) := by decide +kernel
theorem dX1_perform_71 : decode cX1_perform 71 = .ok (.iconst (-1), 1) := by decide +kernel
theorem dX1_perform_72 : decode cX1_perform 72 = .ok (.if_icmp .ne 14, 3) := by decide +kernel
theorem dX1_perform_75 : decode cX1_perform 75 = .ok (.aload_n 0, 1) := by decide +kernel
theorem dX1_perform_76 : decode cX1_perform 76 = .ok (.aload_n 1, 1) := by decide +kernel
theorem dX1_perform_77 : decode cX1_perform 77 = .ok (.iconst 2, 1) := by decide +kernel
theorem dX1_perform_78 : decode cX1_perform 78 = .ok (.aaload, 1) := by decide +kernel
theorem dX1_perform_79 : decode cX1_perform 79 = .ok (.aload 6, 2) := by decide +kernel
theorem dX1_perform_81 : decode cX1_perform 81 = .ok (.invokevirtual 65, 3) := by decide +kernel
theorem dX1_perform_84 : decode cX1_perform 84 = .ok (.istore 5, 2) := by decide +kernel
theorem dX1_perform_86 : decode cX1_perform 86 = .ok (.iload 5, 2) := by decide +kernel
theorem dX1_perform_88 : decode cX1_perform 88 = .ok (.iconst (-1), 1) := by decide +kernel
theorem dX1_perform_89 : decode cX1_perform 89 = .ok (.if_icmp .ne 21, 3) := by decide +kernel
theorem dX1_perform_92 : decode cX1_perform 92 = .ok (.aload_n 1, 1) := by decide +kernel
theorem dX1_perform_93 : decode cX1_perform 93 = .ok (.iconst 3, 1) := by decide +kernel
theorem dX1_perform_94 : decode cX1_perform 94 = .ok (.aaload, 1) := by decide +kernel
theorem dX1_perform_95 : decode cX1_perform 95 = .ok (.getfield 58, 3) := by decide +kernel
theorem dX1_perform_98 : decode cX1_perform 98 = .ok (.ifCond .le 12, 3) := by decide +kernel
theorem dX1_perform_101 : decode cX1_perform 101 = .ok (.aload_n 0, 1) := by decide +kernel
theorem dX1_perform_102 : decode cX1_perform 102 = .ok (.aload_n 1, 1) := by decide +kernel
theorem dX1_perform_103 : decode cX1_perform 103 = .ok (.iconst 3, 1) := by decide +kernel
theorem dX1_perform_104 : decode cX1_perform 104 = .ok (.aaload, 1) := by decide +kernel
theorem dX1_perform_105 : decode cX1_perform 105 = .ok (.invokevirtual 69, 3) := by decide +kernel
theorem dX1_perform_108 : decode cX1_perform 108 = .ok (.istore 5, 2) := by decide +kernel
theorem dX1_perform_110 : decode cX1_perform 110 = .ok (.iload 5, 2) := by decide +kernel
theorem dX1_perform_112 : decode cX1_perform 112 = .ok (.iconst (-1), 1) := by decide +kernel
theorem dX1_perform_113 : decode cX1_perform 113 = .ok (.if_icmp .eq 12, 3) := by decide +kernel
theorem dX1_perform_116 : decode cX1_perform 116 = .ok (.aload_n 0, 1) := by decide +kernel
theorem dX1_perform_117 : decode cX1_perform 117 = .ok (.iload 5, 2) := by decide +kernel
theorem dX1_perform_119 : decode cX1_perform 119 = .ok (.invokevirtual 44, 3) := by decide +kernel
theorem dX1_perform_122 : decode cX1_perform 122 = .ok (.bipush (-4), 2) := by decide +kernel
theorem dX1_perform_124 : decode cX1_perform 124 = .ok (.ireturn, 1) := by decide +kernel
theorem dX1_perform_125 : decode cX1_perform 125 = .ok (.aload_n 0, 1) := by decide +kernel
theorem dX1_perform_126 : decode cX1_perform 126 = .ok (.getfield 12, 3) := by decide +kernel
theorem dX1_perform_129 : decode cX1_perform 129 = .ok (.getfield 73, 3) := by decide +kernel
theorem dX1_perform_132 : decode cX1_perform 132 = .ok (.iconst 0, 1) := by decide +kernel
theorem dX1_perform_133 : decode cX1_perform 133 = .ok (.aload_n 0, 1) := by decide +kernel
theorem dX1_perform_134 : decode cX1_perform 134 = .ok (.getfield 41, 3) := by decide +kernel
theorem dX1_perform_137 : decode cX1_perform 137 = .ok (.iconst 4, 1) := by decide +kernel
theorem dX1_perform_138 : decode cX1_perform 138 = .ok (.iconst 4, 1) := by decide +kernel
theorem dX1_perform_139 : decode cX1_perform 139 = .ok (.invokestatic 76, 3) := by decide +kernel
theorem dX1_perform_142 : decode cX1_perform 142 = .ok (.aload_n 0, 1) := by decide +kernel
theorem dX1_perform_143 : decode cX1_perform 143 = .ok (.getfield 38, 3) := by decide +kernel
theorem dX1_perform_146 : decode cX1_perform 146 = .ok (.getfield 82, 3) := by decide +kernel
theorem dX1_perform_149 : decode cX1_perform 149 = .ok (.ireturn, 1) := by decide +kernel
theorem dX1_forget_0 : decode cX1_forget 0 = .ok (.aload_n 0, 1) := by decide +kernel
theorem dX1_forget_1 : decode cX1_forget 1 = .ok (.getfield 12, 3) := by decide +kernel
theorem dX1_forget_4 : decode cX1_forget 4 = .ok (.invokevirtual 83, 3) := by decide +kernel
theorem dX1_forget_7 : decode cX1_forget 7 = .ok (.aload_n 0, 1) := by decide +kernel
theorem dX1_forget_8 : decode cX1_forget 8 = .ok (.getfield 34, 3) := by decide +kernel
theorem dX1_forget_11 : decode cX1_forget 11 = .ok (.iconst 0, 1) := by decide +kernel
theorem dX1_forget_12 : decode cX1_forget 12 = .ok (.putfield 47, 3) := by decide +kernel
theorem dX1_forget_15 : decode cX1_forget 15 = .ok (.aload_n 0, 1) := by decide +kernel
theorem dX1_forget_16 : decode cX1_forget 16 = .ok (.getfield 38, 3) := by decide +kernel
theorem dX1_forget_19 : decode cX1_forget 19 = .ok (.iconst 0, 1) := by decide +kernel
theorem dX1_forget_20 : decode cX1_forget 20 = .ok (.putfield 82, 3) := by decide +kernel
theorem dX1_forget_23 : decode cX1_forget 23 = .ok (.aload_n 0, 1) := by decide +kernel
theorem dX1_forget_24 : decode cX1_forget 24 = .ok (.getfield 41, 3) := by decide +kernel
theorem dX1_forget_27 : decode cX1_forget 27 = .ok (.iconst 0, 1) := by decide +kernel
theorem dX1_forget_28 : decode cX1_forget 28 = .ok (.invokestatic 85, 3) := by decide +kernel
theorem dX1_forget_31 : decode cX1_forget 31 = .ok (.aload_n 0, 1) := by decide +kernel
theorem dX1_forget_32 : decode cX1_forget 32 = .ok (.getfield 41, 3) := by decide +kernel
theorem dX1_forget_35 : decode cX1_forget 35 = .ok (.iconst 0, 1) := by decide +kernel
theorem dX1_forget_36 : decode cX1_forget 36 = .ok (.iload_n 1, 1) := by decide +kernel
theorem dX1_forget_37 : decode cX1_forget 37 = .ok (.iastore, 1) := by decide +kernel
theorem dX1_forget_38 : decode cX1_forget 38 = .ok (.return_, 1) := by decide +kernel
theorem dX1_mapRecords_0 : decode cX1_mapRecords 0 = .ok (.iconst 0, 1) := by decide +kernel
theorem dX1_mapRecords_1 : decode cX1_mapRecords 1 = .ok (.istore 4, 2) := by decide +kernel
theorem dX1_mapRecords_3 : decode cX1_mapRecords 3 = .ok (.iload 4, 2) := by decide +kernel
theorem dX1_mapRecords_5 : decode cX1_mapRecords 5 = .ok (.aload_n 2, 1) := by decide +kernel
theorem dX1_mapRecords_6 : decode cX1_mapRecords 6 = .ok (.getfield 47, 3) := by decide +kernel
theorem dX1_mapRecords_9 : decode cX1_mapRecords 9 = .ok (.if_icmp .ge 77, 3) := by decide +kernel
theorem dX1_mapRecords_12 : decode cX1_mapRecords 12 = .ok (.aload_n 0, 1) := by decide +kernel
theorem dX1_mapRecords_13 : decode cX1_mapRecords 13 = .ok (.getfield 12, 3) := by decide +kernel
theorem dX1_mapRecords_16 : decode cX1_mapRecords 16 = .ok (.aload_n 1, 1) := by decide +kernel
theorem dX1_mapRecords_17 : decode cX1_mapRecords 17 = .ok (.aload_n 2, 1) := by decide +kernel
theorem dX1_mapRecords_18 : decode cX1_mapRecords 18 = .ok (.getfield 91, 3) := by decide +kernel
theorem dX1_mapRecords_21 : decode cX1_mapRecords 21 = .ok (.iload 4, 2) := by decide +kernel
theorem dX1_mapRecords_23 : decode cX1_mapRecords 23 = .ok (.iaload, 1) := by decide +kernel
theorem dX1_mapRecords_24 : decode cX1_mapRecords 24 = .ok (.aload_n 2, 1) := by decide +kernel
theorem dX1_mapRecords_25 : decode cX1_mapRecords 25 = .ok (.getfield 94, 3) := by decide +kernel
theorem dX1_mapRecords_28 : decode cX1_mapRecords 28 = .ok (.iload 4, 2) := by decide +kernel
theorem dX1_mapRecords_30 : decode cX1_mapRecords 30 = .ok (.iaload, 1) := by decide +kernel
theorem dX1_mapRecords_31 : decode cX1_mapRecords 31 = .ok (.iconst 0, 1) := by decide +kernel
theorem dX1_mapRecords_32 : decode cX1_mapRecords 32 = .ok (.invokevirtual 97, 3) := by decide +kernel
theorem dX1_mapRecords_35 : decode cX1_mapRecords 35 = .ok (.istore 5, 2) := by decide +kernel
theorem dX1_mapRecords_37 : decode cX1_mapRecords 37 = .ok (.iload 5, 2) := by decide +kernel
theorem dX1_mapRecords_39 : decode cX1_mapRecords 39 = .ok (.ifCond .ne 6, 3) := by decide +kernel
theorem dX1_mapRecords_42 : decode cX1_mapRecords 42 = .ok (.iload 4, 2) := by decide +kernel
theorem dX1_mapRecords_44 : decode cX1_mapRecords 44 = .ok (.ireturn, 1) := by decide +kernel
theorem dX1_mapRecords_45 : decode cX1_mapRecords 45 = .ok (.aload_n 0, 1) := by decide +kernel
theorem dX1_mapRecords_46 : decode cX1_mapRecords 46 = .ok (.getfield 41, 3) := by decide +kernel
theorem dX1_mapRecords_49 : decode cX1_mapRecords 49 = .ok (.iconst 1, 1) := by decide +kernel
theorem dX1_mapRecords_50 : decode cX1_mapRecords 50 = .ok (.dup2, 1) := by decide +kernel
theorem dX1_mapRecords_51 : decode cX1_mapRecords 51 = .ok (.iaload, 1) := by decide +kernel
theorem dX1_mapRecords_52 : decode cX1_mapRecords 52 = .ok (.aload_n 0, 1) := by decide +kernel
theorem dX1_mapRecords_53 : decode cX1_mapRecords 53 = .ok (.getfield 12, 3) := by decide +kernel
theorem dX1_mapRecords_56 : decode cX1_mapRecords 56 = .ok (.getfield 101, 3) := by decide +kernel
theorem dX1_mapRecords_59 : decode cX1_mapRecords 59 = .ok (.iadd, 1) := by decide +kernel
theorem dX1_mapRecords_60 : decode cX1_mapRecords 60 = .ok (.iastore, 1) := by decide +kernel
theorem dX1_mapRecords_61 : decode cX1_mapRecords 61 = .ok (.aload_n 0, 1) := by decide +kernel
theorem dX1_mapRecords_62 : decode cX1_mapRecords 62 = .ok (.getfield 18, 3) := by decide +kernel
theorem dX1_mapRecords_65 : decode cX1_mapRecords 65 = .ok (.iload 4, 2) := by decide +kernel
theorem dX1_mapRecords_67 : decode cX1_mapRecords 67 = .ok (.iload_n 3, 1) := by decide +kernel
theorem dX1_mapRecords_68 : decode cX1_mapRecords 68 = .ok (.idiv, 1) := by decide +kernel
theorem dX1_mapRecords_69 : decode cX1_mapRecords 69 = .ok (.aload_n 0, 1) := by decide +kernel
theorem dX1_mapRecords_70 : decode cX1_mapRecords 70 = .ok (.getfield 12, 3) := by decide +kernel
theorem dX1_mapRecords_73 : decode cX1_mapRecords 73 = .ok (.getfield 55, 3) := by decide +kernel
theorem dX1_mapRecords_76 : decode cX1_mapRecords 76 = .ok (.getfield 47, 3) := by decide +kernel
theorem dX1_mapRecords_79 : decode cX1_mapRecords 79 = .ok (.iastore, 1) := by decide +kernel
theorem dX1_mapRecords_80 : decode cX1_mapRecords 80 = .ok (.iinc 4 1, 3) := by decide +kernel
theorem dX1_mapRecords_83 : decode cX1_mapRecords 83 = .ok (.goto (-80), 3) := by decide +kernel
theorem dX1_mapRecords_86 : decode cX1_mapRecords 86 = .ok (.aload_n 0, 1) := by decide +kernel
theorem dX1_mapRecords_87 : decode cX1_mapRecords 87 = .ok (.getfield 41, 3) := by decide +kernel
theorem dX1_mapRecords_90 : decode cX1_mapRecords 90 = .ok (.iconst 1, 1) := by decide +kernel
theorem dX1_mapRecords_91 : decode cX1_mapRecords 91 = .ok (.iaload, 1) := by decide +kernel
theorem dX1_mapRecords_92 : decode cX1_mapRecords 92 = .ok (.sipush 600, 3) := by decide +kernel
theorem dX1_mapRecords_95 : decode cX1_mapRecords 95 = .ok (.if_icmp .le 9, 3) := by decide +kernel
theorem dX1_mapRecords_98 : decode cX1_mapRecords 98 = .ok (.sipush 4000, 3) := by decide +kernel
theorem dX1_mapRecords_101 : decode cX1_mapRecords 101 = .ok (.goto 4, 3) := by decide +kernel
theorem dX1_mapRecords_104 : decode cX1_mapRecords 104 = .ok (.iconst (-1), 1) := by decide +kernel
theorem dX1_mapRecords_105 : decode cX1_mapRecords 105 = .ok (.ireturn, 1) := by decide +kernel
theorem dX1_joinSplits_0 : decode cX1_joinSplits 0 = .ok (.iconst 0, 1) := by decide +kernel
theorem dX1_joinSplits_1 : decode cX1_joinSplits 1 = .ok (.istore_n 3, 1) := by decide +kernel
theorem dX1_joinSplits_2 : decode cX1_joinSplits 2 = .ok (.iconst 0, 1) := by decide +kernel
theorem dX1_joinSplits_3 : decode cX1_joinSplits 3 = .ok (.istore 4, 2) := by decide +kernel
theorem dX1_joinSplits_5 : decode cX1_joinSplits 5 = .ok (.iload 4, 2) := by decide +kernel
theorem dX1_joinSplits_7 : decode cX1_joinSplits 7 = .ok (.iload_n 2, 1) := by decide +kernel
theorem dX1_joinSplits_8 : decode cX1_joinSplits 8 = .ok (.if_icmp .ge 70, 3) := by decide +kernel
theorem dX1_joinSplits_11 : decode cX1_joinSplits 11 = .ok (.aload_n 0, 1) := by decide +kernel
theorem dX1_joinSplits_12 : decode cX1_joinSplits 12 = .ok (.getfield 25, 3) := by decide +kernel
theorem dX1_joinSplits_15 : decode cX1_joinSplits 15 = .ok (.iconst 0, 1) := by decide +kernel
theorem dX1_joinSplits_16 : decode cX1_joinSplits 16 = .ok (.putfield 82, 3) := by decide +kernel
theorem dX1_joinSplits_19 : decode cX1_joinSplits 19 = .ok (.aload_n 0, 1) := by decide +kernel
theorem dX1_joinSplits_20 : decode cX1_joinSplits 20 = .ok (.aload_n 1, 1) := by decide +kernel
theorem dX1_joinSplits_21 : decode cX1_joinSplits 21 = .ok (.aload_n 0, 1) := by decide +kernel
theorem dX1_joinSplits_22 : decode cX1_joinSplits 22 = .ok (.getfield 25, 3) := by decide +kernel
theorem dX1_joinSplits_25 : decode cX1_joinSplits 25 = .ok (.aload_n 0, 1) := by decide +kernel
theorem dX1_joinSplits_26 : decode cX1_joinSplits 26 = .ok (.getfield 12, 3) := by decide +kernel
theorem dX1_joinSplits_29 : decode cX1_joinSplits 29 = .ok (.getfield 55, 3) := by decide +kernel
theorem dX1_joinSplits_32 : decode cX1_joinSplits 32 = .ok (.iload_n 3, 1) := by decide +kernel
theorem dX1_joinSplits_33 : decode cX1_joinSplits 33 = .ok (.aload_n 0, 1) := by decide +kernel
theorem dX1_joinSplits_34 : decode cX1_joinSplits 34 = .ok (.getfield 18, 3) := by decide +kernel
theorem dX1_joinSplits_37 : decode cX1_joinSplits 37 = .ok (.iload 4, 2) := by decide +kernel
theorem dX1_joinSplits_39 : decode cX1_joinSplits 39 = .ok (.iaload, 1) := by decide +kernel
theorem dX1_joinSplits_40 : decode cX1_joinSplits 40 = .ok (.invokevirtual 104, 3) := by decide +kernel
theorem dX1_joinSplits_43 : decode cX1_joinSplits 43 = .ok (.ifCond .ne 10, 3) := by decide +kernel
theorem dX1_joinSplits_46 : decode cX1_joinSplits 46 = .ok (.sipush 1000, 3) := by decide +kernel
theorem dX1_joinSplits_49 : decode cX1_joinSplits 49 = .ok (.iload 4, 2) := by decide +kernel
theorem dX1_joinSplits_51 : decode cX1_joinSplits 51 = .ok (.iadd, 1) := by decide +kernel
theorem dX1_joinSplits_52 : decode cX1_joinSplits 52 = .ok (.ireturn, 1) := by decide +kernel
theorem dX1_joinSplits_53 : decode cX1_joinSplits 53 = .ok (.aload_n 0, 1) := by decide +kernel
theorem dX1_joinSplits_54 : decode cX1_joinSplits 54 = .ok (.getfield 34, 3) := by decide +kernel
theorem dX1_joinSplits_57 : decode cX1_joinSplits 57 = .ok (.aload_n 0, 1) := by decide +kernel
theorem dX1_joinSplits_58 : decode cX1_joinSplits 58 = .ok (.getfield 25, 3) := by decide +kernel
theorem dX1_joinSplits_61 : decode cX1_joinSplits 61 = .ok (.invokevirtual 108, 3) := by decide +kernel
theorem dX1_joinSplits_64 : decode cX1_joinSplits 64 = .ok (.aload_n 0, 1) := by decide +kernel
theorem dX1_joinSplits_65 : decode cX1_joinSplits 65 = .ok (.getfield 18, 3) := by decide +kernel
theorem dX1_joinSplits_68 : decode cX1_joinSplits 68 = .ok (.iload 4, 2) := by decide +kernel
theorem dX1_joinSplits_70 : decode cX1_joinSplits 70 = .ok (.iaload, 1) := by decide +kernel
theorem dX1_joinSplits_71 : decode cX1_joinSplits 71 = .ok (.istore_n 3, 1) := by decide +kernel
theorem dX1_joinSplits_72 : decode cX1_joinSplits 72 = .ok (.iinc 4 1, 3) := by decide +kernel
theorem dX1_joinSplits_75 : decode cX1_joinSplits 75 = .ok (.goto (-70), 3) := by decide +kernel
theorem dX1_joinSplits_78 : decode cX1_joinSplits 78 = .ok (.iconst (-1), 1) := by decide +kernel
theorem dX1_joinSplits_79 : decode cX1_joinSplits 79 = .ok (.ireturn, 1) := by decide +kernel
theorem dX1_foldValues_0 : decode cX1_foldValues 0 = .ok (.aload_n 0, 1) := by decide +kernel
theorem dX1_foldValues_1 : decode cX1_foldValues 1 = .ok (.getfield 41, 3) := by decide +kernel
theorem dX1_foldValues_4 : decode cX1_foldValues 4 = .ok (.iconst 2, 1) := by decide +kernel
theorem dX1_foldValues_5 : decode cX1_foldValues 5 = .ok (.aload_n 2, 1) := by decide +kernel
theorem dX1_foldValues_6 : decode cX1_foldValues 6 = .ok (.getfield 47, 3) := by decide +kernel
theorem dX1_foldValues_9 : decode cX1_foldValues 9 = .ok (.iastore, 1) := by decide +kernel
theorem dX1_foldValues_10 : decode cX1_foldValues 10 = .ok (.aload_n 0, 1) := by decide +kernel
theorem dX1_foldValues_11 : decode cX1_foldValues 11 = .ok (.aload_n 1, 1) := by decide +kernel
theorem dX1_foldValues_12 : decode cX1_foldValues 12 = .ok (.aload_n 0, 1) := by decide +kernel
theorem dX1_foldValues_13 : decode cX1_foldValues 13 = .ok (.getfield 38, 3) := by decide +kernel
theorem dX1_foldValues_16 : decode cX1_foldValues 16 = .ok (.aload_n 2, 1) := by decide +kernel
theorem dX1_foldValues_17 : decode cX1_foldValues 17 = .ok (.iconst 0, 1) := by decide +kernel
theorem dX1_foldValues_18 : decode cX1_foldValues 18 = .ok (.aload_n 2, 1) := by decide +kernel
theorem dX1_foldValues_19 : decode cX1_foldValues 19 = .ok (.getfield 47, 3) := by decide +kernel
theorem dX1_foldValues_22 : decode cX1_foldValues 22 = .ok (.invokevirtual 104, 3) := by decide +kernel
theorem dX1_foldValues_25 : decode cX1_foldValues 25 = .ok (.ifCond .ne 7, 3) := by decide +kernel
theorem dX1_foldValues_28 : decode cX1_foldValues 28 = .ok (.sipush 2000, 3) := by decide +kernel
theorem dX1_foldValues_31 : decode cX1_foldValues 31 = .ok (.ireturn, 1) := by decide +kernel
theorem dX1_foldValues_32 : decode cX1_foldValues 32 = .ok (.aload_n 0, 1) := by decide +kernel
theorem dX1_foldValues_33 : decode cX1_foldValues 33 = .ok (.getfield 41, 3) := by decide +kernel
theorem dX1_foldValues_36 : decode cX1_foldValues 36 = .ok (.iconst 3, 1) := by decide +kernel
theorem dX1_foldValues_37 : decode cX1_foldValues 37 = .ok (.aload_n 0, 1) := by decide +kernel
theorem dX1_foldValues_38 : decode cX1_foldValues 38 = .ok (.getfield 38, 3) := by decide +kernel
theorem dX1_foldValues_41 : decode cX1_foldValues 41 = .ok (.getfield 82, 3) := by decide +kernel
theorem dX1_foldValues_44 : decode cX1_foldValues 44 = .ok (.iastore, 1) := by decide +kernel
theorem dX1_foldValues_45 : decode cX1_foldValues 45 = .ok (.iconst (-1), 1) := by decide +kernel
theorem dX1_foldValues_46 : decode cX1_foldValues 46 = .ok (.ireturn, 1) := by decide +kernel
theorem dX1_merge_0 : decode cX1_merge 0 = .ok (.iload 4, 2) := by decide +kernel
theorem dX1_merge_2 : decode cX1_merge 2 = .ok (.istore 6, 2) := by decide +kernel
theorem dX1_merge_4 : decode cX1_merge 4 = .ok (.iload 6, 2) := by decide +kernel
theorem dX1_merge_6 : decode cX1_merge 6 = .ok (.iload 5, 2) := by decide +kernel
theorem dX1_merge_8 : decode cX1_merge 8 = .ok (.if_icmp .ge 102, 3) := by decide +kernel
theorem dX1_merge_11 : decode cX1_merge 11 = .ok (.aload_n 3, 1) := by decide +kernel
theorem dX1_merge_12 : decode cX1_merge 12 = .ok (.getfield 91, 3) := by decide +kernel
theorem dX1_merge_15 : decode cX1_merge 15 = .ok (.iload 6, 2) := by decide +kernel
theorem dX1_merge_17 : decode cX1_merge 17 = .ok (.iaload, 1) := by decide +kernel
theorem dX1_merge_18 : decode cX1_merge 18 = .ok (.istore 7, 2) := by decide +kernel
theorem dX1_merge_20 : decode cX1_merge 20 = .ok (.aload_n 2, 1) := by decide +kernel
theorem dX1_merge_21 : decode cX1_merge 21 = .ok (.iload 7, 2) := by decide +kernel
theorem dX1_merge_23 : decode cX1_merge 23 = .ok (.invokevirtual 112, 3) := by decide +kernel
theorem dX1_merge_26 : decode cX1_merge 26 = .ok (.istore 8, 2) := by decide +kernel
theorem dX1_merge_28 : decode cX1_merge 28 = .ok (.aload_n 2, 1) := by decide +kernel
theorem dX1_merge_29 : decode cX1_merge 29 = .ok (.iload 8, 2) := by decide +kernel
theorem dX1_merge_31 : decode cX1_merge 31 = .ok (.iload 7, 2) := by decide +kernel
theorem dX1_merge_33 : decode cX1_merge 33 = .ok (.invokevirtual 116, 3) := by decide +kernel
theorem dX1_merge_36 : decode cX1_merge 36 = .ok (.ifCond .ne 21, 3) := by decide +kernel
theorem dX1_merge_39 : decode cX1_merge 39 = .ok (.aload_n 2, 1) := by decide +kernel
theorem dX1_merge_40 : decode cX1_merge 40 = .ok (.iload 8, 2) := by decide +kernel
theorem dX1_merge_42 : decode cX1_merge 42 = .ok (.iload 7, 2) := by decide +kernel
theorem dX1_merge_44 : decode cX1_merge 44 = .ok (.aload_n 3, 1) := by decide +kernel
theorem dX1_merge_45 : decode cX1_merge 45 = .ok (.getfield 94, 3) := by decide +kernel
theorem dX1_merge_48 : decode cX1_merge 48 = .ok (.iload 6, 2) := by decide +kernel
theorem dX1_merge_50 : decode cX1_merge 50 = .ok (.iaload, 1) := by decide +kernel
theorem dX1_merge_51 : decode cX1_merge 51 = .ok (.invokevirtual 120, 3) := by decide +kernel
theorem dX1_merge_54 : decode cX1_merge 54 = .ok (.goto 50, 3) := by decide +kernel
theorem dX1_merge_57 : decode cX1_merge 57 = .ok (.aload_n 0, 1) := by decide +kernel
theorem dX1_merge_58 : decode cX1_merge 58 = .ok (.getfield 12, 3) := by decide +kernel
theorem dX1_merge_61 : decode cX1_merge 61 = .ok (.aload_n 1, 1) := by decide +kernel
theorem dX1_merge_62 : decode cX1_merge 62 = .ok (.iload 7, 2) := by decide +kernel
theorem dX1_merge_64 : decode cX1_merge 64 = .ok (.aload_n 2, 1) := by decide +kernel
theorem dX1_merge_65 : decode cX1_merge 65 = .ok (.getfield 124, 3) := by decide +kernel
theorem dX1_merge_68 : decode cX1_merge 68 = .ok (.iload 8, 2) := by decide +kernel
theorem dX1_merge_70 : decode cX1_merge 70 = .ok (.iaload, 1) := by decide +kernel
theorem dX1_merge_71 : decode cX1_merge 71 = .ok (.aload_n 3, 1) := by decide +kernel
theorem dX1_merge_72 : decode cX1_merge 72 = .ok (.getfield 94, 3) := by decide +kernel
theorem dX1_merge_75 : decode cX1_merge 75 = .ok (.iload 6, 2) := by decide +kernel
theorem dX1_merge_77 : decode cX1_merge 77 = .ok (.iaload, 1) := by decide +kernel
theorem dX1_merge_78 : decode cX1_merge 78 = .ok (.invokevirtual 97, 3) := by decide +kernel
theorem dX1_merge_81 : decode cX1_merge 81 = .ok (.istore 9, 2) := by decide +kernel
theorem dX1_merge_83 : decode cX1_merge 83 = .ok (.iload 9, 2) := by decide +kernel
theorem dX1_merge_85 : decode cX1_merge 85 = .ok (.ifCond .ne 5, 3) := by decide +kernel
theorem dX1_merge_88 : decode cX1_merge 88 = .ok (.iconst 0, 1) := by decide +kernel
theorem dX1_merge_89 : decode cX1_merge 89 = .ok (.ireturn, 1) := by decide +kernel
theorem dX1_merge_90 : decode cX1_merge 90 = .ok (.aload_n 2, 1) := by decide +kernel
theorem dX1_merge_91 : decode cX1_merge 91 = .ok (.getfield 124, 3) := by decide +kernel
theorem dX1_merge_94 : decode cX1_merge 94 = .ok (.iload 8, 2) := by decide +kernel
theorem dX1_merge_96 : decode cX1_merge 96 = .ok (.aload_n 0, 1) := by decide +kernel
theorem dX1_merge_97 : decode cX1_merge 97 = .ok (.getfield 12, 3) := by decide +kernel
theorem dX1_merge_100 : decode cX1_merge 100 = .ok (.getfield 125, 3) := by decide +kernel
theorem dX1_merge_103 : decode cX1_merge 103 = .ok (.iastore, 1) := by decide +kernel
theorem dX1_merge_104 : decode cX1_merge 104 = .ok (.iinc 6 1, 3) := by decide +kernel
theorem dX1_merge_107 : decode cX1_merge 107 = .ok (.goto (-103), 3) := by decide +kernel
theorem dX1_merge_110 : decode cX1_merge 110 = .ok (.iconst 1, 1) := by decide +kernel
theorem dX1_merge_111 : decode cX1_merge 111 = .ok (.ireturn, 1) := by decide +kernel
theorem dX1_endKeys_0 : decode cX1_endKeys 0 = .ok (.iconst 0, 1) := by decide +kernel
theorem dX1_endKeys_1 : decode cX1_endKeys 1 = .ok (.istore_n 2, 1) := by decide +kernel
theorem dX1_endKeys_2 : decode cX1_endKeys 2 = .ok (.iconst 0, 1) := by decide +kernel
theorem dX1_endKeys_3 : decode cX1_endKeys 3 = .ok (.istore_n 3, 1) := by decide +kernel
theorem dX1_endKeys_4 : decode cX1_endKeys 4 = .ok (.iload_n 3, 1) := by decide +kernel
theorem dX1_endKeys_5 : decode cX1_endKeys 5 = .ok (.aload_n 0, 1) := by decide +kernel
theorem dX1_endKeys_6 : decode cX1_endKeys 6 = .ok (.getfield 38, 3) := by decide +kernel
theorem dX1_endKeys_9 : decode cX1_endKeys 9 = .ok (.getfield 82, 3) := by decide +kernel
theorem dX1_endKeys_12 : decode cX1_endKeys 12 = .ok (.if_icmp .ge 90, 3) := by decide +kernel
theorem dX1_endKeys_15 : decode cX1_endKeys 15 = .ok (.aload_n 0, 1) := by decide +kernel
theorem dX1_endKeys_16 : decode cX1_endKeys 16 = .ok (.getfield 12, 3) := by decide +kernel
theorem dX1_endKeys_19 : decode cX1_endKeys 19 = .ok (.aload_n 1, 1) := by decide +kernel
theorem dX1_endKeys_20 : decode cX1_endKeys 20 = .ok (.aload_n 0, 1) := by decide +kernel
theorem dX1_endKeys_21 : decode cX1_endKeys 21 = .ok (.getfield 38, 3) := by decide +kernel
theorem dX1_endKeys_24 : decode cX1_endKeys 24 = .ok (.getfield 128, 3) := by decide +kernel
theorem dX1_endKeys_27 : decode cX1_endKeys 27 = .ok (.iload_n 3, 1) := by decide +kernel
theorem dX1_endKeys_28 : decode cX1_endKeys 28 = .ok (.iaload, 1) := by decide +kernel
theorem dX1_endKeys_29 : decode cX1_endKeys 29 = .ok (.aload_n 0, 1) := by decide +kernel
theorem dX1_endKeys_30 : decode cX1_endKeys 30 = .ok (.getfield 38, 3) := by decide +kernel
theorem dX1_endKeys_33 : decode cX1_endKeys 33 = .ok (.getfield 124, 3) := by decide +kernel
theorem dX1_endKeys_36 : decode cX1_endKeys 36 = .ok (.iload_n 3, 1) := by decide +kernel
theorem dX1_endKeys_37 : decode cX1_endKeys 37 = .ok (.iaload, 1) := by decide +kernel
theorem dX1_endKeys_38 : decode cX1_endKeys 38 = .ok (.iconst 0, 1) := by decide +kernel
theorem dX1_endKeys_39 : decode cX1_endKeys 39 = .ok (.invokevirtual 97, 3) := by decide +kernel
theorem dX1_endKeys_42 : decode cX1_endKeys 42 = .ok (.istore 4, 2) := by decide +kernel
theorem dX1_endKeys_44 : decode cX1_endKeys 44 = .ok (.iload 4, 2) := by decide +kernel
theorem dX1_endKeys_46 : decode cX1_endKeys 46 = .ok (.ifCond .ne 7, 3) := by decide +kernel
theorem dX1_endKeys_49 : decode cX1_endKeys 49 = .ok (.sipush 3000, 3) := by decide +kernel
theorem dX1_endKeys_52 : decode cX1_endKeys 52 = .ok (.ireturn, 1) := by decide +kernel
theorem dX1_endKeys_53 : decode cX1_endKeys 53 = .ok (.iload 4, 2) := by decide +kernel
theorem dX1_endKeys_55 : decode cX1_endKeys 55 = .ok (.iconst 1, 1) := by decide +kernel
theorem dX1_endKeys_56 : decode cX1_endKeys 56 = .ok (.if_icmp .ne 40, 3) := by decide +kernel
theorem dX1_endKeys_59 : decode cX1_endKeys 59 = .ok (.aload_n 0, 1) := by decide +kernel
theorem dX1_endKeys_60 : decode cX1_endKeys 60 = .ok (.getfield 38, 3) := by decide +kernel
theorem dX1_endKeys_63 : decode cX1_endKeys 63 = .ok (.getfield 128, 3) := by decide +kernel
theorem dX1_endKeys_66 : decode cX1_endKeys 66 = .ok (.iload_n 2, 1) := by decide +kernel
theorem dX1_endKeys_67 : decode cX1_endKeys 67 = .ok (.aload_n 0, 1) := by decide +kernel
theorem dX1_endKeys_68 : decode cX1_endKeys 68 = .ok (.getfield 38, 3) := by decide +kernel
theorem dX1_endKeys_71 : decode cX1_endKeys 71 = .ok (.getfield 128, 3) := by decide +kernel
theorem dX1_endKeys_74 : decode cX1_endKeys 74 = .ok (.iload_n 3, 1) := by decide +kernel
theorem dX1_endKeys_75 : decode cX1_endKeys 75 = .ok (.iaload, 1) := by decide +kernel
theorem dX1_endKeys_76 : decode cX1_endKeys 76 = .ok (.iastore, 1) := by decide +kernel
theorem dX1_endKeys_77 : decode cX1_endKeys 77 = .ok (.aload_n 0, 1) := by decide +kernel
theorem dX1_endKeys_78 : decode cX1_endKeys 78 = .ok (.getfield 38, 3) := by decide +kernel
theorem dX1_endKeys_81 : decode cX1_endKeys 81 = .ok (.getfield 124, 3) := by decide +kernel
theorem dX1_endKeys_84 : decode cX1_endKeys 84 = .ok (.iload_n 2, 1) := by decide +kernel
theorem dX1_endKeys_85 : decode cX1_endKeys 85 = .ok (.aload_n 0, 1) := by decide +kernel
theorem dX1_endKeys_86 : decode cX1_endKeys 86 = .ok (.getfield 12, 3) := by decide +kernel
theorem dX1_endKeys_89 : decode cX1_endKeys 89 = .ok (.getfield 125, 3) := by decide +kernel
theorem dX1_endKeys_92 : decode cX1_endKeys 92 = .ok (.iastore, 1) := by decide +kernel
theorem dX1_endKeys_93 : decode cX1_endKeys 93 = .ok (.iinc 2 1, 3) := by decide +kernel
theorem dX1_endKeys_96 : decode cX1_endKeys 96 = .ok (.iinc 3 1, 3) := by decide +kernel
theorem dX1_endKeys_99 : decode cX1_endKeys 99 = .ok (.goto (-95), 3) := by decide +kernel
theorem dX1_endKeys_102 : decode cX1_endKeys 102 = .ok (.aload_n 0, 1) := by decide +kernel
theorem dX1_endKeys_103 : decode cX1_endKeys 103 = .ok (.getfield 38, 3) := by decide +kernel
theorem dX1_endKeys_106 : decode cX1_endKeys 106 = .ok (.iload_n 2, 1) := by decide +kernel
theorem dX1_endKeys_107 : decode cX1_endKeys 107 = .ok (.putfield 82, 3) := by decide +kernel
theorem dX1_endKeys_110 : decode cX1_endKeys 110 = .ok (.iconst (-1), 1) := by decide +kernel
theorem dX1_endKeys_111 : decode cX1_endKeys 111 = .ok (.ireturn, 1) := by decide +kernel
theorem dX6_init_0 : decode cX6_init 0 = .ok (.aload_n 0, 1) := by decide +kernel
theorem dX6_init_1 : decode cX6_init 1 = .ok (.invokespecial 1, 3) := by decide +kernel
theorem dX6_init_4 : decode cX6_init 4 = .ok (.aload_n 0, 1) := by decide +kernel
theorem dX6_init_5 : decode cX6_init 5 = .ok (.iconst 1, 1) := by decide +kernel
theorem dX6_init_6 : decode cX6_init 6 = .ok (.bipush 16, 2) := by decide +kernel
theorem dX6_init_8 : decode cX6_init 8 = .ok (.iload_n 1, 1) := by decide +kernel
theorem dX6_init_9 : decode cX6_init 9 = .ok (.invokestatic 9, 3) := by decide +kernel
theorem dX6_init_12 : decode cX6_init 12 = .ok (.invokestatic 15, 3) := by decide +kernel
theorem dX6_init_15 : decode cX6_init 15 = .ok (.putfield 18, 3) := by decide +kernel
theorem dX6_init_18 : decode cX6_init 18 = .ok (.aload_n 0, 1) := by decide +kernel
theorem dX6_init_19 : decode cX6_init 19 = .ok (.new 22, 3) := by decide +kernel
theorem dX6_init_22 : decode cX6_init 22 = .ok (.dup, 1) := by decide +kernel
theorem dX6_init_23 : decode cX6_init 23 = .ok (.bipush 120, 2) := by decide +kernel
theorem dX6_init_25 : decode cX6_init 25 = .ok (.invokespecial 24, 3) := by decide +kernel
theorem dX6_init_28 : decode cX6_init 28 = .ok (.putfield 27, 3) := by decide +kernel
theorem dX6_init_31 : decode cX6_init 31 = .ok (.aload_n 0, 1) := by decide +kernel
theorem dX6_init_32 : decode cX6_init 32 = .ok (.iconst 4, 1) := by decide +kernel
theorem dX6_init_33 : decode cX6_init 33 = .ok (.anewarray 31, 3) := by decide +kernel
theorem dX6_init_36 : decode cX6_init 36 = .ok (.putfield 33, 3) := by decide +kernel
theorem dX6_init_39 : decode cX6_init 39 = .ok (.iconst 0, 1) := by decide +kernel
theorem dX6_init_40 : decode cX6_init 40 = .ok (.istore 4, 2) := by decide +kernel
theorem dX6_init_42 : decode cX6_init 42 = .ok (.iload 4, 2) := by decide +kernel
theorem dX6_init_44 : decode cX6_init 44 = .ok (.iconst 4, 1) := by decide +kernel
theorem dX6_init_45 : decode cX6_init 45 = .ok (.if_icmp .ge 25, 3) := by decide +kernel
theorem dX6_init_48 : decode cX6_init 48 = .ok (.aload_n 0, 1) := by decide +kernel
theorem dX6_init_49 : decode cX6_init 49 = .ok (.getfield 33, 3) := by decide +kernel
theorem dX6_init_52 : decode cX6_init 52 = .ok (.iload 4, 2) := by decide +kernel
theorem dX6_init_54 : decode cX6_init 54 = .ok (.new 31, 3) := by decide +kernel
theorem dX6_init_57 : decode cX6_init 57 = .ok (.dup, 1) := by decide +kernel
theorem dX6_init_58 : decode cX6_init 58 = .ok (.iload 4, 2) := by decide +kernel
theorem dX6_init_60 : decode cX6_init 60 = .ok (.invokespecial 37, 3) := by decide +kernel
theorem dX6_init_63 : decode cX6_init 63 = .ok (.aastore, 1) := by decide +kernel
theorem dX6_init_64 : decode cX6_init 64 = .ok (.iinc 4 1, 3) := by decide +kernel
theorem dX6_init_67 : decode cX6_init 67 = .ok (.goto (-25), 3) := by decide +kernel
theorem dX6_init_70 : decode cX6_init 70 = .ok (.aload_n 0, 1) := by decide +kernel
theorem dX6_init_71 : decode cX6_init 71 = .ok (.new 38, 3) := by decide +kernel
theorem dX6_init_74 : decode cX6_init 74 = .ok (.dup, 1) := by decide +kernel
theorem dX6_init_75 : decode cX6_init 75 = .ok (.invokespecial 40, 3) := by decide +kernel
theorem dX6_init_78 : decode cX6_init 78 = .ok (.putfield 41, 3) := by decide +kernel
theorem dX6_init_81 : decode cX6_init 81 = .ok (.aload_n 0, 1) := by decide +kernel
theorem dX6_init_82 : decode cX6_init 82 = .ok (.new 45, 3) := by decide +kernel
theorem dX6_init_85 : decode cX6_init 85 = .ok (.dup, 1) := by decide +kernel
theorem dX6_init_86 : decode cX6_init 86 = .ok (.invokespecial 47, 3) := by decide +kernel
theorem dX6_init_89 : decode cX6_init 89 = .ok (.putfield 48, 3) := by decide +kernel
theorem dX6_init_92 : decode cX6_init 92 = .ok (.return_, 1) := by decide +kernel
theorem dX6_record_0 : decode cX6_record 0 = .ok (.aload_n 0, 1) := by decide +kernel
theorem dX6_record_1 : decode cX6_record 1 = .ok (.getfield 27, 3) := by decide +kernel
theorem dX6_record_4 : decode cX6_record 4 = .ok (.iload_n 1, 1) := by decide +kernel
theorem dX6_record_5 : decode cX6_record 5 = .ok (.iload_n 2, 1) := by decide +kernel
theorem dX6_record_6 : decode cX6_record 6 = .ok (.invokevirtual 52, 3) := by decide +kernel
theorem dX6_record_9 : decode cX6_record 9 = .ok (.ifCond .eq 15, 3) := by decide +kernel
theorem dX6_record_12 : decode cX6_record 12 = .ok (.aload_n 0, 1) := by decide +kernel
theorem dX6_record_13 : decode cX6_record 13 = .ok (.getfield 27, 3) := by decide +kernel
theorem dX6_record_16 : decode cX6_record 16 = .ok (.getfield 56, 3) := by decide +kernel
theorem dX6_record_19 : decode cX6_record 19 = .ok (.iconst 1, 1) := by decide +kernel
theorem dX6_record_20 : decode cX6_record 20 = .ok (.isub, 1) := by decide +kernel
theorem dX6_record_21 : decode cX6_record 21 = .ok (.goto 5, 3) := by decide +kernel
theorem dX6_record_24 : decode cX6_record 24 = .ok (.bipush (-3), 2) := by decide +kernel
theorem dX6_record_26 : decode cX6_record 26 = .ok (.ireturn, 1) := by decide +kernel
theorem dX6_wipe_0 : decode cX6_wipe 0 = .ok (.aload_n 0, 1) := by decide +kernel
theorem dX6_wipe_1 : decode cX6_wipe 1 = .ok (.getfield 27, 3) := by decide +kernel
theorem dX6_wipe_4 : decode cX6_wipe 4 = .ok (.getfield 56, 3) := by decide +kernel
theorem dX6_wipe_7 : decode cX6_wipe 7 = .ok (.istore_n 1, 1) := by decide +kernel
theorem dX6_wipe_8 : decode cX6_wipe 8 = .ok (.aload_n 0, 1) := by decide +kernel
theorem dX6_wipe_9 : decode cX6_wipe 9 = .ok (.getfield 27, 3) := by decide +kernel
theorem dX6_wipe_12 : decode cX6_wipe 12 = .ok (.iconst 0, 1) := by decide +kernel
theorem dX6_wipe_13 : decode cX6_wipe 13 = .ok (.putfield 56, 3) := by decide +kernel
theorem dX6_wipe_16 : decode cX6_wipe 16 = .ok (.iload_n 1, 1) := by decide +kernel
theorem dX6_wipe_17 : decode cX6_wipe 17 = .ok (.ireturn, 1) := by decide +kernel
theorem dX6_code_0 : decode cX6_code 0 = .ok (.iload_n 1, 1) := by decide +kernel
theorem dX6_code_1 : decode cX6_code 1 = .ok (.invokestatic 59, 3) := by decide +kernel
theorem dX6_code_4 : decode cX6_code 4 = .ok (.ifCond .eq 17, 3) := by decide +kernel
theorem dX6_code_7 : decode cX6_code 7 = .ok (.aload_n 0, 1) := by decide +kernel
theorem dX6_code_8 : decode cX6_code 8 = .ok (.getfield 33, 3) := by decide +kernel
theorem dX6_code_11 : decode cX6_code 11 = .ok (.iload_n 1, 1) := by decide +kernel
theorem dX6_code_12 : decode cX6_code 12 = .ok (.aaload, 1) := by decide +kernel
theorem dX6_code_13 : decode cX6_code 13 = .ok (.iload_n 2, 1) := by decide +kernel
theorem dX6_code_14 : decode cX6_code 14 = .ok (.iload_n 3, 1) := by decide +kernel
theorem dX6_code_15 : decode cX6_code 15 = .ok (.invokevirtual 63, 3) := by decide +kernel
theorem dX6_code_18 : decode cX6_code 18 = .ok (.goto 4, 3) := by decide +kernel
theorem dX6_code_21 : decode cX6_code 21 = .ok (.iconst (-1), 1) := by decide +kernel
theorem dX6_code_22 : decode cX6_code 22 = .ok (.ireturn, 1) := by decide +kernel
theorem dX6_clear_0 : decode cX6_clear 0 = .ok (.iload_n 1, 1) := by decide +kernel
theorem dX6_clear_1 : decode cX6_clear 1 = .ok (.invokestatic 59, 3) := by decide +kernel
theorem dX6_clear_4 : decode cX6_clear 4 = .ok (.ifCond .ne 5, 3) := by decide +kernel
theorem dX6_clear_7 : decode cX6_clear 7 = .ok (.iconst (-1), 1) := by decide +kernel
theorem dX6_clear_8 : decode cX6_clear 8 = .ok (.ireturn, 1) := by decide +kernel
theorem dX6_clear_9 : decode cX6_clear 9 = .ok (.aload_n 0, 1) := by decide +kernel
theorem dX6_clear_10 : decode cX6_clear 10 = .ok (.getfield 33, 3) := by decide +kernel
theorem dX6_clear_13 : decode cX6_clear 13 = .ok (.iload_n 1, 1) := by decide +kernel
theorem dX6_clear_14 : decode cX6_clear 14 = .ok (.aaload, 1) := by decide +kernel
theorem dX6_clear_15 : decode cX6_clear 15 = .ok (.getfield 65, 3) := by decide +kernel
theorem dX6_clear_18 : decode cX6_clear 18 = .ok (.istore_n 2, 1) := by decide +kernel
theorem dX6_clear_19 : decode cX6_clear 19 = .ok (.aload_n 0, 1) := by decide +kernel
theorem dX6_clear_20 : decode cX6_clear 20 = .ok (.getfield 33, 3) := by decide +kernel
theorem dX6_clear_23 : decode cX6_clear 23 = .ok (.iload_n 1, 1) := by decide +kernel
theorem dX6_clear_24 : decode cX6_clear 24 = .ok (.aaload, 1) := by decide +kernel
theorem dX6_clear_25 : decode cX6_clear 25 = .ok (.iconst 0, 1) := by decide +kernel
theorem dX6_clear_26 : decode cX6_clear 26 = .ok (.putfield 65, 3) := by decide +kernel
theorem dX6_clear_29 : decode cX6_clear 29 = .ok (.iload_n 2, 1) := by decide +kernel
theorem dX6_clear_30 : decode cX6_clear 30 = .ok (.ireturn, 1) := by decide +kernel
theorem dX6_check_0 : decode cX6_check 0 = .ok (.iload_n 1, 1) := by decide +kernel
theorem dX6_check_1 : decode cX6_check 1 = .ok (.invokestatic 59, 3) := by decide +kernel
theorem dX6_check_4 : decode cX6_check 4 = .ok (.ifCond .eq 19, 3) := by decide +kernel
theorem dX6_check_7 : decode cX6_check 7 = .ok (.aload_n 0, 1) := by decide +kernel
theorem dX6_check_8 : decode cX6_check 8 = .ok (.getfield 41, 3) := by decide +kernel
theorem dX6_check_11 : decode cX6_check 11 = .ok (.aload_n 0, 1) := by decide +kernel
theorem dX6_check_12 : decode cX6_check 12 = .ok (.getfield 33, 3) := by decide +kernel
theorem dX6_check_15 : decode cX6_check 15 = .ok (.iload_n 1, 1) := by decide +kernel
theorem dX6_check_16 : decode cX6_check 16 = .ok (.aaload, 1) := by decide +kernel
theorem dX6_check_17 : decode cX6_check 17 = .ok (.invokevirtual 66, 3) := by decide +kernel
theorem dX6_check_20 : decode cX6_check 20 = .ok (.goto 4, 3) := by decide +kernel
theorem dX6_check_23 : decode cX6_check 23 = .ok (.iconst (-1), 1) := by decide +kernel
theorem dX6_check_24 : decode cX6_check 24 = .ok (.ireturn, 1) := by decide +kernel
theorem dX6_run_0 : decode cX6_run 0 = .ok (.aload_n 0, 1) := by decide +kernel
theorem dX6_run_1 : decode cX6_run 1 = .ok (.iconst 0, 1) := by decide +kernel
theorem dX6_run_2 : decode cX6_run 2 = .ok (.invokevirtual 70, 3) := by decide +kernel
theorem dX6_run_5 : decode cX6_run 5 = .ok (.ifCond .eq 27, 3) := by decide +kernel
theorem dX6_run_8 : decode cX6_run 8 = .ok (.aload_n 0, 1) := by decide +kernel
theorem dX6_run_9 : decode cX6_run 9 = .ok (.iconst 2, 1) := by decide +kernel
theorem dX6_run_10 : decode cX6_run 10 = .ok (.invokevirtual 70, 3) := by decide +kernel
theorem dX6_run_13 : decode cX6_run 13 = .ok (.ifCond .eq 19, 3) := by decide +kernel
theorem dX6_run_16 : decode cX6_run 16 = .ok (.aload_n 0, 1) := by decide +kernel
theorem dX6_run_17 : decode cX6_run 17 = .ok (.iconst 1, 1) := by decide +kernel
theorem dX6_run_18 : decode cX6_run 18 = .ok (.invokevirtual 73, 3) := by decide +kernel
theorem dX6_run_21 : decode cX6_run 21 = .ok (.ifCond .eq 11, 3) := by decide +kernel
theorem dX6_run_24 : decode cX6_run 24 = .ok (.aload_n 0, 1) := by decide +kernel
theorem dX6_run_25 : decode cX6_run 25 = .ok (.iconst 3, 1) := by decide +kernel
theorem dX6_run_26 : decode cX6_run 26 = .ok (.invokevirtual 73, 3) := by decide +kernel
theorem dX6_run_29 : decode cX6_run 29 = .ok (.ifCond .ne 6, 3) := by decide +kernel
theorem dX6_run_32 : decode cX6_run 32 = .ok (.bipush (-2), 2) := by decide +kernel
theorem dX6_run_34 : decode cX6_run 34 = .ok (.ireturn, 1) := by decide +kernel
theorem dX6_run_35 : decode cX6_run 35 = .ok (.aload_n 0, 1) := by decide +kernel
theorem dX6_run_36 : decode cX6_run 36 = .ok (.getfield 48, 3) := by decide +kernel
theorem dX6_run_39 : decode cX6_run 39 = .ok (.aload_n 0, 1) := by decide +kernel
theorem dX6_run_40 : decode cX6_run 40 = .ok (.getfield 33, 3) := by decide +kernel
theorem dX6_run_43 : decode cX6_run 43 = .ok (.aload_n 0, 1) := by decide +kernel
theorem dX6_run_44 : decode cX6_run 44 = .ok (.getfield 27, 3) := by decide +kernel
theorem dX6_run_47 : decode cX6_run 47 = .ok (.aload_n 0, 1) := by decide +kernel
theorem dX6_run_48 : decode cX6_run 48 = .ok (.getfield 18, 3) := by decide +kernel
theorem dX6_run_51 : decode cX6_run 51 = .ok (.invokevirtual 76, 3) := by decide +kernel
theorem dX6_run_54 : decode cX6_run 54 = .ok (.ireturn, 1) := by decide +kernel
theorem dX6_result_0 : decode cX6_result 0 = .ok (.iload_n 1, 1) := by decide +kernel
theorem dX6_result_1 : decode cX6_result 1 = .ok (.ifCond .lt 17, 3) := by decide +kernel
theorem dX6_result_4 : decode cX6_result 4 = .ok (.iload_n 1, 1) := by decide +kernel
theorem dX6_result_5 : decode cX6_result 5 = .ok (.aload_n 0, 1) := by decide +kernel
theorem dX6_result_6 : decode cX6_result 6 = .ok (.getfield 48, 3) := by decide +kernel
theorem dX6_result_9 : decode cX6_result 9 = .ok (.getfield 80, 3) := by decide +kernel
theorem dX6_result_12 : decode cX6_result 12 = .ok (.getfield 84, 3) := by decide +kernel
theorem dX6_result_15 : decode cX6_result 15 = .ok (.if_icmp .lt 7, 3) := by decide +kernel
theorem dX6_result_18 : decode cX6_result 18 = .ok (.ldc2_w 87, 3) := by decide +kernel
theorem dX6_result_21 : decode cX6_result 21 = .ok (.lreturn, 1) := by decide +kernel
theorem dX6_result_22 : decode cX6_result 22 = .ok (.iload_n 2, 1) := by decide +kernel
theorem dX6_result_23 : decode cX6_result 23 = .ok (.ifCond .ne 17, 3) := by decide +kernel
theorem dX6_result_26 : decode cX6_result 26 = .ok (.aload_n 0, 1) := by decide +kernel
theorem dX6_result_27 : decode cX6_result 27 = .ok (.getfield 48, 3) := by decide +kernel
theorem dX6_result_30 : decode cX6_result 30 = .ok (.getfield 80, 3) := by decide +kernel
theorem dX6_result_33 : decode cX6_result 33 = .ok (.getfield 89, 3) := by decide +kernel
theorem dX6_result_36 : decode cX6_result 36 = .ok (.iload_n 1, 1) := by decide +kernel
theorem dX6_result_37 : decode cX6_result 37 = .ok (.iaload, 1) := by decide +kernel
theorem dX6_result_38 : decode cX6_result 38 = .ok (.i2l, 1) := by decide +kernel
theorem dX6_result_39 : decode cX6_result 39 = .ok (.lreturn, 1) := by decide +kernel
theorem dX6_result_40 : decode cX6_result 40 = .ok (.iload_n 2, 1) := by decide +kernel
theorem dX6_result_41 : decode cX6_result 41 = .ok (.iconst 1, 1) := by decide +kernel
theorem dX6_result_42 : decode cX6_result 42 = .ok (.if_icmp .ne 19, 3) := by decide +kernel
theorem dX6_result_45 : decode cX6_result 45 = .ok (.aload_n 0, 1) := by decide +kernel
theorem dX6_result_46 : decode cX6_result 46 = .ok (.getfield 48, 3) := by decide +kernel
theorem dX6_result_49 : decode cX6_result 49 = .ok (.getfield 80, 3) := by decide +kernel
theorem dX6_result_52 : decode cX6_result 52 = .ok (.getfield 93, 3) := by decide +kernel
theorem dX6_result_55 : decode cX6_result 55 = .ok (.iload_n 1, 1) := by decide +kernel
theorem dX6_result_56 : decode cX6_result 56 = .ok (.iaload, 1) := by decide +kernel
theorem dX6_result_57 : decode cX6_result 57 = .ok (.i2l, 1) := by decide +kernel
theorem dX6_result_58 : decode cX6_result 58 = .ok (.goto 6, 3) := by decide +kernel
theorem dX6_result_61 : decode cX6_result 61 = .ok (.ldc2_w 87, 3) := by decide +kernel
theorem dX6_result_64 : decode cX6_result 64 = .ok (.lreturn, 1) := by decide +kernel
theorem dX6_valueOf_0 : decode cX6_valueOf 0 = .ok (.aload_n 0, 1) := by decide +kernel
theorem dX6_valueOf_1 : decode cX6_valueOf 1 = .ok (.getfield 48, 3) := by decide +kernel
theorem dX6_valueOf_4 : decode cX6_valueOf 4 = .ok (.getfield 80, 3) := by decide +kernel
theorem dX6_valueOf_7 : decode cX6_valueOf 7 = .ok (.iload_n 1, 1) := by decide +kernel
theorem dX6_valueOf_8 : decode cX6_valueOf 8 = .ok (.invokevirtual 96, 3) := by decide +kernel
theorem dX6_valueOf_11 : decode cX6_valueOf 11 = .ok (.istore_n 2, 1) := by decide +kernel
theorem dX6_valueOf_12 : decode cX6_valueOf 12 = .ok (.aload_n 0, 1) := by decide +kernel
theorem dX6_valueOf_13 : decode cX6_valueOf 13 = .ok (.getfield 48, 3) := by decide +kernel
theorem dX6_valueOf_16 : decode cX6_valueOf 16 = .ok (.getfield 80, 3) := by decide +kernel
theorem dX6_valueOf_19 : decode cX6_valueOf 19 = .ok (.iload_n 2, 1) := by decide +kernel
theorem dX6_valueOf_20 : decode cX6_valueOf 20 = .ok (.iload_n 1, 1) := by decide +kernel
theorem dX6_valueOf_21 : decode cX6_valueOf 21 = .ok (.invokevirtual 100, 3) := by decide +kernel
theorem dX6_valueOf_24 : decode cX6_valueOf 24 = .ok (.ifCond .eq 19, 3) := by decide +kernel
theorem dX6_valueOf_27 : decode cX6_valueOf 27 = .ok (.aload_n 0, 1) := by decide +kernel
theorem dX6_valueOf_28 : decode cX6_valueOf 28 = .ok (.getfield 48, 3) := by decide +kernel
theorem dX6_valueOf_31 : decode cX6_valueOf 31 = .ok (.getfield 80, 3) := by decide +kernel
theorem dX6_valueOf_34 : decode cX6_valueOf 34 = .ok (.getfield 93, 3) := by decide +kernel
theorem dX6_valueOf_37 : decode cX6_valueOf 37 = .ok (.iload_n 2, 1) := by decide +kernel
theorem dX6_valueOf_38 : decode cX6_valueOf 38 = .ok (.iaload, 1) := by decide +kernel
theorem dX6_valueOf_39 : decode cX6_valueOf 39 = .ok (.i2l, 1) := by decide +kernel
theorem dX6_valueOf_40 : decode cX6_valueOf 40 = .ok (.goto 6, 3) := by decide +kernel
theorem dX6_valueOf_43 : decode cX6_valueOf 43 = .ok (.ldc2_w 87, 3) := by decide +kernel
theorem dX6_valueOf_46 : decode cX6_valueOf 46 = .ok (.lreturn, 1) := by decide +kernel
theorem dX6_count_0 : decode cX6_count 0 = .ok (.iload_n 1, 1) := by decide +kernel
theorem dX6_count_1 : decode cX6_count 1 = .ok (.ifCond .lt 9, 3) := by decide +kernel
theorem dX6_count_4 : decode cX6_count 4 = .ok (.iload_n 1, 1) := by decide +kernel
theorem dX6_count_5 : decode cX6_count 5 = .ok (.bipush 9, 2) := by decide +kernel
theorem dX6_count_7 : decode cX6_count 7 = .ok (.if_icmp .le 5, 3) := by decide +kernel
theorem dX6_count_10 : decode cX6_count 10 = .ok (.iconst (-1), 1) := by decide +kernel
theorem dX6_count_11 : decode cX6_count 11 = .ok (.ireturn, 1) := by decide +kernel
theorem dX6_count_12 : decode cX6_count 12 = .ok (.iload_n 1, 1) := by decide +kernel
theorem dX6_count_13 : decode cX6_count 13 = .ok (.bipush 8, 2) := by decide +kernel
theorem dX6_count_15 : decode cX6_count 15 = .ok (.if_icmp .ne 11, 3) := by decide +kernel
theorem dX6_count_18 : decode cX6_count 18 = .ok (.aload_n 0, 1) := by decide +kernel
theorem dX6_count_19 : decode cX6_count 19 = .ok (.getfield 27, 3) := by decide +kernel
theorem dX6_count_22 : decode cX6_count 22 = .ok (.getfield 56, 3) := by decide +kernel
theorem dX6_count_25 : decode cX6_count 25 = .ok (.ireturn, 1) := by decide +kernel
theorem dX6_count_26 : decode cX6_count 26 = .ok (.iload_n 1, 1) := by decide +kernel
theorem dX6_count_27 : decode cX6_count 27 = .ok (.bipush 9, 2) := by decide +kernel
theorem dX6_count_29 : decode cX6_count 29 = .ok (.if_icmp .ne 25, 3) := by decide +kernel
theorem dX6_count_32 : decode cX6_count 32 = .ok (.aload_n 0, 1) := by decide +kernel
theorem dX6_count_33 : decode cX6_count 33 = .ok (.getfield 27, 3) := by decide +kernel
theorem dX6_count_36 : decode cX6_count 36 = .ok (.getfield 56, 3) := by decide +kernel
theorem dX6_count_39 : decode cX6_count 39 = .ok (.aload_n 0, 1) := by decide +kernel
theorem dX6_count_40 : decode cX6_count 40 = .ok (.getfield 18, 3) := by decide +kernel
theorem dX6_count_43 : decode cX6_count 43 = .ok (.iadd, 1) := by decide +kernel
theorem dX6_count_44 : decode cX6_count 44 = .ok (.iconst 1, 1) := by decide +kernel
theorem dX6_count_45 : decode cX6_count 45 = .ok (.isub, 1) := by decide +kernel
theorem dX6_count_46 : decode cX6_count 46 = .ok (.aload_n 0, 1) := by decide +kernel
theorem dX6_count_47 : decode cX6_count 47 = .ok (.getfield 18, 3) := by decide +kernel
theorem dX6_count_50 : decode cX6_count 50 = .ok (.idiv, 1) := by decide +kernel
theorem dX6_count_51 : decode cX6_count 51 = .ok (.goto 12, 3) := by decide +kernel
theorem dX6_count_54 : decode cX6_count 54 = .ok (.aload_n 0, 1) := by decide +kernel
theorem dX6_count_55 : decode cX6_count 55 = .ok (.getfield 48, 3) := by decide +kernel
theorem dX6_count_58 : decode cX6_count 58 = .ok (.getfield 103, 3) := by decide +kernel
theorem dX6_count_61 : decode cX6_count 61 = .ok (.iload_n 1, 1) := by decide +kernel
theorem dX6_count_62 : decode cX6_count 62 = .ok (.iaload, 1) := by decide +kernel
theorem dX6_count_63 : decode cX6_count 63 = .ok (.ireturn, 1) := by decide +kernel
theorem dX6_isProgram_0 : decode cX6_isProgram 0 = .ok (.iload_n 0, 1) := by decide +kernel
theorem dX6_isProgram_1 : decode cX6_isProgram 1 = .ok (.ifCond .lt 12, 3) := by decide +kernel
theorem dX6_isProgram_4 : decode cX6_isProgram 4 = .ok (.iload_n 0, 1) := by decide +kernel
theorem dX6_isProgram_5 : decode cX6_isProgram 5 = .ok (.iconst 4, 1) := by decide +kernel
theorem dX6_isProgram_6 : decode cX6_isProgram 6 = .ok (.if_icmp .ge 7, 3) := by decide +kernel
theorem dX6_isProgram_9 : decode cX6_isProgram 9 = .ok (.iconst 1, 1) := by decide +kernel
theorem dX6_isProgram_10 : decode cX6_isProgram 10 = .ok (.goto 4, 3) := by decide +kernel
theorem dX6_isProgram_13 : decode cX6_isProgram 13 = .ok (.iconst 0, 1) := by decide +kernel
theorem dX6_isProgram_14 : decode cX6_isProgram 14 = .ok (.ireturn, 1) := by decide +kernel
theorem dX6_isJump_0 : decode cX6_isJump 0 = .ok (.iload_n 0, 1) := by decide +kernel
theorem dX6_isJump_1 : decode cX6_isJump 1 = .ok (.bipush 14, 2) := by decide +kernel
theorem dX6_isJump_3 : decode cX6_isJump 3 = .ok (.if_icmp .eq 9, 3) := by decide +kernel
theorem dX6_isJump_6 : decode cX6_isJump 6 = .ok (.iload_n 0, 1) := by decide +kernel
theorem dX6_isJump_7 : decode cX6_isJump 7 = .ok (.bipush 15, 2) := by decide +kernel
theorem dX6_isJump_9 : decode cX6_isJump 9 = .ok (.if_icmp .ne 7, 3) := by decide +kernel
theorem dX6_isJump_12 : decode cX6_isJump 12 = .ok (.iconst 1, 1) := by decide +kernel
theorem dX6_isJump_13 : decode cX6_isJump 13 = .ok (.goto 4, 3) := by decide +kernel
theorem dX6_isJump_16 : decode cX6_isJump 16 = .ok (.iconst 0, 1) := by decide +kernel
theorem dX6_isJump_17 : decode cX6_isJump 17 = .ok (.ireturn, 1) := by decide +kernel
theorem dX6_isCombination_0 : decode cX6_isCombination 0 = .ok (.iload_n 0, 1) := by decide +kernel
theorem dX6_isCombination_1 : decode cX6_isCombination 1 = .ok (.bipush 7, 2) := by decide +kernel
theorem dX6_isCombination_3 : decode cX6_isCombination 3 = .ok (.if_icmp .lt 13, 3) := by decide +kernel
theorem dX6_isCombination_6 : decode cX6_isCombination 6 = .ok (.iload_n 0, 1) := by decide +kernel
theorem dX6_isCombination_7 : decode cX6_isCombination 7 = .ok (.bipush 13, 2) := by decide +kernel
theorem dX6_isCombination_9 : decode cX6_isCombination 9 = .ok (.if_icmp .gt 7, 3) := by decide +kernel
theorem dX6_isCombination_12 : decode cX6_isCombination 12 = .ok (.iconst 1, 1) := by decide +kernel
theorem dX6_isCombination_13 : decode cX6_isCombination 13 = .ok (.goto 4, 3) := by decide +kernel
theorem dX6_isCombination_16 : decode cX6_isCombination 16 = .ok (.iconst 0, 1) := by decide +kernel
theorem dX6_isCombination_17 : decode cX6_isCombination 17 = .ok (.ireturn, 1) := by decide +kernel
theorem dX6_isGood_0 : decode cX6_isGood 0 = .ok (.aload_n 0, 1) := by decide +kernel
theorem dX6_isGood_1 : decode cX6_isGood 1 = .ok (.getfield 41, 3) := by decide +kernel
theorem dX6_isGood_4 : decode cX6_isGood 4 = .ok (.aload_n 0, 1) := by decide +kernel
theorem dX6_isGood_5 : decode cX6_isGood 5 = .ok (.getfield 33, 3) := by decide +kernel
theorem dX6_isGood_8 : decode cX6_isGood 8 = .ok (.iload_n 1, 1) := by decide +kernel
theorem dX6_isGood_9 : decode cX6_isGood 9 = .ok (.aaload, 1) := by decide +kernel
theorem dX6_isGood_10 : decode cX6_isGood 10 = .ok (.invokevirtual 66, 3) := by decide +kernel
theorem dX6_isGood_13 : decode cX6_isGood 13 = .ok (.bipush (-2), 2) := by decide +kernel
theorem dX6_isGood_15 : decode cX6_isGood 15 = .ok (.if_icmp .ne 7, 3) := by decide +kernel
theorem dX6_isGood_18 : decode cX6_isGood 18 = .ok (.iconst 1, 1) := by decide +kernel
theorem dX6_isGood_19 : decode cX6_isGood 19 = .ok (.goto 4, 3) := by decide +kernel
theorem dX6_isGood_22 : decode cX6_isGood 22 = .ok (.iconst 0, 1) := by decide +kernel
theorem dX6_isGood_23 : decode cX6_isGood 23 = .ok (.ireturn, 1) := by decide +kernel
theorem dX6_isGoodOrEmpty_0 : decode cX6_isGoodOrEmpty 0 = .ok (.aload_n 0, 1) := by decide +kernel
theorem dX6_isGoodOrEmpty_1 : decode cX6_isGoodOrEmpty 1 = .ok (.getfield 41, 3) := by decide +kernel
theorem dX6_isGoodOrEmpty_4 : decode cX6_isGoodOrEmpty 4 = .ok (.aload_n 0, 1) := by decide +kernel
theorem dX6_isGoodOrEmpty_5 : decode cX6_isGoodOrEmpty 5 = .ok (.getfield 33, 3) := by decide +kernel
theorem dX6_isGoodOrEmpty_8 : decode cX6_isGoodOrEmpty 8 = .ok (.iload_n 1, 1) := by decide +kernel
theorem dX6_isGoodOrEmpty_9 : decode cX6_isGoodOrEmpty 9 = .ok (.aaload, 1) := by decide +kernel
theorem dX6_isGoodOrEmpty_10 : decode cX6_isGoodOrEmpty 10 = .ok (.invokevirtual 66, 3) := by decide +kernel
theorem dX6_isGoodOrEmpty_13 : decode cX6_isGoodOrEmpty 13 = .ok (.istore_n 2, 1) := by decide +kernel
theorem dX6_isGoodOrEmpty_14 : decode cX6_isGoodOrEmpty 14 = .ok (.iload_n 2, 1) := by decide +kernel
theorem dX6_isGoodOrEmpty_15 : decode cX6_isGoodOrEmpty 15 = .ok (.bipush (-2), 2) := by decide +kernel
theorem dX6_isGoodOrEmpty_17 : decode cX6_isGoodOrEmpty 17 = .ok (.if_icmp .eq 9, 3) := by decide +kernel
theorem dX6_isGoodOrEmpty_20 : decode cX6_isGoodOrEmpty 20 = .ok (.iload_n 2, 1) := by decide +kernel
theorem dX6_isGoodOrEmpty_21 : decode cX6_isGoodOrEmpty 21 = .ok (.bipush 64, 2) := by decide +kernel
theorem dX6_isGoodOrEmpty_23 : decode cX6_isGoodOrEmpty 23 = .ok (.if_icmp .ne 7, 3) := by decide +kernel
theorem dX6_isGoodOrEmpty_26 : decode cX6_isGoodOrEmpty 26 = .ok (.iconst 1, 1) := by decide +kernel
theorem dX6_isGoodOrEmpty_27 : decode cX6_isGoodOrEmpty 27 = .ok (.goto 4, 3) := by decide +kernel
theorem dX6_isGoodOrEmpty_30 : decode cX6_isGoodOrEmpty 30 = .ok (.iconst 0, 1) := by decide +kernel
theorem dX6_isGoodOrEmpty_31 : decode cX6_isGoodOrEmpty 31 = .ok (.ireturn, 1) := by decide +kernel

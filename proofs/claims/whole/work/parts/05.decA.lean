theorem dJ6_bitCount_0f7a4_0 : decode cJ6_bitCount_0f7a4 0 = .ok (.iload_n 0, 1) := by decide +kernel
theorem dJ6_bitCount_0f7a4_1 : decode cJ6_bitCount_0f7a4 1 = .ok (.iload_n 0, 1) := by decide +kernel
theorem dJ6_bitCount_0f7a4_2 : decode cJ6_bitCount_0f7a4 2 = .ok (.iconst 1, 1) := by decide +kernel
theorem dJ6_bitCount_0f7a4_3 : decode cJ6_bitCount_0f7a4 3 = .ok (.iushr, 1) := by decide +kernel
theorem dJ6_bitCount_0f7a4_4 : decode cJ6_bitCount_0f7a4 4 = .ok (.ldc_w 265, 3) := by decide +kernel
theorem dJ6_bitCount_0f7a4_7 : decode cJ6_bitCount_0f7a4 7 = .ok (.iand, 1) := by decide +kernel
theorem dJ6_bitCount_0f7a4_8 : decode cJ6_bitCount_0f7a4 8 = .ok (.isub, 1) := by decide +kernel
theorem dJ6_bitCount_0f7a4_9 : decode cJ6_bitCount_0f7a4 9 = .ok (.istore_n 0, 1) := by decide +kernel
theorem dJ6_bitCount_0f7a4_10 : decode cJ6_bitCount_0f7a4 10 = .ok (.iload_n 0, 1) := by decide +kernel
theorem dJ6_bitCount_0f7a4_11 : decode cJ6_bitCount_0f7a4 11 = .ok (.ldc_w 266, 3) := by decide +kernel
theorem dJ6_bitCount_0f7a4_14 : decode cJ6_bitCount_0f7a4 14 = .ok (.iand, 1) := by decide +kernel
theorem dJ6_bitCount_0f7a4_15 : decode cJ6_bitCount_0f7a4 15 = .ok (.iload_n 0, 1) := by decide +kernel
theorem dJ6_bitCount_0f7a4_16 : decode cJ6_bitCount_0f7a4 16 = .ok (.iconst 2, 1) := by decide +kernel
theorem dJ6_bitCount_0f7a4_17 : decode cJ6_bitCount_0f7a4 17 = .ok (.iushr, 1) := by decide +kernel
theorem dJ6_bitCount_0f7a4_18 : decode cJ6_bitCount_0f7a4 18 = .ok (.ldc_w 266, 3) := by decide +kernel
theorem dJ6_bitCount_0f7a4_21 : decode cJ6_bitCount_0f7a4 21 = .ok (.iand, 1) := by decide +kernel
theorem dJ6_bitCount_0f7a4_22 : decode cJ6_bitCount_0f7a4 22 = .ok (.iadd, 1) := by decide +kernel
theorem dJ6_bitCount_0f7a4_23 : decode cJ6_bitCount_0f7a4 23 = .ok (.istore_n 0, 1) := by decide +kernel
theorem dJ6_bitCount_0f7a4_24 : decode cJ6_bitCount_0f7a4 24 = .ok (.iload_n 0, 1) := by decide +kernel
theorem dJ6_bitCount_0f7a4_25 : decode cJ6_bitCount_0f7a4 25 = .ok (.iload_n 0, 1) := by decide +kernel
theorem dJ6_bitCount_0f7a4_26 : decode cJ6_bitCount_0f7a4 26 = .ok (.iconst 4, 1) := by decide +kernel
theorem dJ6_bitCount_0f7a4_27 : decode cJ6_bitCount_0f7a4 27 = .ok (.iushr, 1) := by decide +kernel
theorem dJ6_bitCount_0f7a4_28 : decode cJ6_bitCount_0f7a4 28 = .ok (.iadd, 1) := by decide +kernel
theorem dJ6_bitCount_0f7a4_29 : decode cJ6_bitCount_0f7a4 29 = .ok (.ldc_w 267, 3) := by decide +kernel
theorem dJ6_bitCount_0f7a4_32 : decode cJ6_bitCount_0f7a4 32 = .ok (.iand, 1) := by decide +kernel
theorem dJ6_bitCount_0f7a4_33 : decode cJ6_bitCount_0f7a4 33 = .ok (.istore_n 0, 1) := by decide +kernel
theorem dJ6_bitCount_0f7a4_34 : decode cJ6_bitCount_0f7a4 34 = .ok (.iload_n 0, 1) := by decide +kernel
theorem dJ6_bitCount_0f7a4_35 : decode cJ6_bitCount_0f7a4 35 = .ok (.iload_n 0, 1) := by decide +kernel
theorem dJ6_bitCount_0f7a4_36 : decode cJ6_bitCount_0f7a4 36 = .ok (.bipush 8, 2) := by decide +kernel
theorem dJ6_bitCount_0f7a4_38 : decode cJ6_bitCount_0f7a4 38 = .ok (.iushr, 1) := by decide +kernel
theorem dJ6_bitCount_0f7a4_39 : decode cJ6_bitCount_0f7a4 39 = .ok (.iadd, 1) := by decide +kernel
theorem dJ6_bitCount_0f7a4_40 : decode cJ6_bitCount_0f7a4 40 = .ok (.istore_n 0, 1) := by decide +kernel
theorem dJ6_bitCount_0f7a4_41 : decode cJ6_bitCount_0f7a4 41 = .ok (.iload_n 0, 1) := by decide +kernel
theorem dJ6_bitCount_0f7a4_42 : decode cJ6_bitCount_0f7a4 42 = .ok (.iload_n 0, 1) := by decide +kernel
theorem dJ6_bitCount_0f7a4_43 : decode cJ6_bitCount_0f7a4 43 = .ok (.bipush 16, 2) := by decide +kernel
theorem dJ6_bitCount_0f7a4_45 : decode cJ6_bitCount_0f7a4 45 = .ok (.iushr, 1) := by decide +kernel
theorem dJ6_bitCount_0f7a4_46 : decode cJ6_bitCount_0f7a4 46 = .ok (.iadd, 1) := by decide +kernel
theorem dJ6_bitCount_0f7a4_47 : decode cJ6_bitCount_0f7a4 47 = .ok (.istore_n 0, 1) := by decide +kernel
theorem dJ6_bitCount_0f7a4_48 : decode cJ6_bitCount_0f7a4 48 = .ok (.iload_n 0, 1) := by decide +kernel
theorem dJ6_bitCount_0f7a4_49 : decode cJ6_bitCount_0f7a4 49 = .ok (.bipush 63, 2) := by decide +kernel
theorem dJ6_bitCount_0f7a4_51 : decode cJ6_bitCount_0f7a4 51 = .ok (.iand, 1) := by decide +kernel
theorem dJ6_bitCount_0f7a4_52 : decode cJ6_bitCount_0f7a4 52 = .ok (.ireturn, 1) := by decide +kernel
theorem dJ7_fill_53178_0 : decode cJ7_fill_53178 0 = .ok (.iconst 0, 1) := by decide +kernel
theorem dJ7_fill_53178_1 : decode cJ7_fill_53178 1 = .ok (.istore_n 2, 1) := by decide +kernel
theorem dJ7_fill_53178_2 : decode cJ7_fill_53178 2 = .ok (.aload_n 0, 1) := by decide +kernel
theorem dJ7_fill_53178_3 : decode cJ7_fill_53178 3 = .ok (.arraylength, 1) := by decide +kernel
theorem dJ7_fill_53178_4 : decode cJ7_fill_53178 4 = .ok (.istore_n 3, 1) := by decide +kernel
theorem dJ7_fill_53178_5 : decode cJ7_fill_53178 5 = .ok (.iload_n 2, 1) := by decide +kernel
theorem dJ7_fill_53178_6 : decode cJ7_fill_53178 6 = .ok (.iload_n 3, 1) := by decide +kernel
theorem dJ7_fill_53178_7 : decode cJ7_fill_53178 7 = .ok (.if_icmp .ge 13, 3) := by decide +kernel
theorem dJ7_fill_53178_10 : decode cJ7_fill_53178 10 = .ok (.aload_n 0, 1) := by decide +kernel
theorem dJ7_fill_53178_11 : decode cJ7_fill_53178 11 = .ok (.iload_n 2, 1) := by decide +kernel
theorem dJ7_fill_53178_12 : decode cJ7_fill_53178 12 = .ok (.iload_n 1, 1) := by decide +kernel
theorem dJ7_fill_53178_13 : decode cJ7_fill_53178 13 = .ok (.iastore, 1) := by decide +kernel
theorem dJ7_fill_53178_14 : decode cJ7_fill_53178 14 = .ok (.iinc 2 1, 3) := by decide +kernel
theorem dJ7_fill_53178_17 : decode cJ7_fill_53178 17 = .ok (.goto (-12), 3) := by decide +kernel
theorem dJ7_fill_53178_20 : decode cJ7_fill_53178 20 = .ok (.return_, 1) := by decide +kernel
theorem dX2_init_0 : decode cX2_init 0 = .ok (.aload_n 0, 1) := by decide +kernel
theorem dX2_init_1 : decode cX2_init 1 = .ok (.invokespecial 3, 3) := by decide +kernel
theorem dX2_init_4 : decode cX2_init 4 = .ok (.aload_n 0, 1) := by decide +kernel
theorem dX2_init_5 : decode cX2_init 5 = .ok (.sipush 600, 3) := by decide +kernel
theorem dX2_init_8 : decode cX2_init 8 = .ok (.newarray .int, 2) := by decide +kernel
theorem dX2_init_10 : decode cX2_init 10 = .ok (.putfield 9, 3) := by decide +kernel
theorem dX2_init_13 : decode cX2_init 13 = .ok (.aload_n 0, 1) := by decide +kernel
theorem dX2_init_14 : decode cX2_init 14 = .ok (.sipush 600, 3) := by decide +kernel
theorem dX2_init_17 : decode cX2_init 17 = .ok (.newarray .int, 2) := by decide +kernel
theorem dX2_init_19 : decode cX2_init 19 = .ok (.putfield 15, 3) := by decide +kernel
theorem dX2_init_22 : decode cX2_init 22 = .ok (.aload_n 0, 1) := by decide +kernel
theorem dX2_init_23 : decode cX2_init 23 = .ok (.iconst 0, 1) := by decide +kernel
theorem dX2_init_24 : decode cX2_init 24 = .ok (.putfield 18, 3) := by decide +kernel
theorem dX2_init_27 : decode cX2_init 27 = .ok (.return_, 1) := by decide +kernel
theorem dX2_placeOf_0 : decode cX2_placeOf 0 = .ok (.iconst 0, 1) := by decide +kernel
theorem dX2_placeOf_1 : decode cX2_placeOf 1 = .ok (.istore_n 2, 1) := by decide +kernel
theorem dX2_placeOf_2 : decode cX2_placeOf 2 = .ok (.sipush 512, 3) := by decide +kernel
theorem dX2_placeOf_5 : decode cX2_placeOf 5 = .ok (.istore_n 3, 1) := by decide +kernel
theorem dX2_placeOf_6 : decode cX2_placeOf 6 = .ok (.iload_n 3, 1) := by decide +kernel
theorem dX2_placeOf_7 : decode cX2_placeOf 7 = .ok (.ifCond .le 38, 3) := by decide +kernel
theorem dX2_placeOf_10 : decode cX2_placeOf 10 = .ok (.iload_n 2, 1) := by decide +kernel
theorem dX2_placeOf_11 : decode cX2_placeOf 11 = .ok (.iload_n 3, 1) := by decide +kernel
theorem dX2_placeOf_12 : decode cX2_placeOf 12 = .ok (.iadd, 1) := by decide +kernel
theorem dX2_placeOf_13 : decode cX2_placeOf 13 = .ok (.aload_n 0, 1) := by decide +kernel
theorem dX2_placeOf_14 : decode cX2_placeOf 14 = .ok (.getfield 18, 3) := by decide +kernel
theorem dX2_placeOf_17 : decode cX2_placeOf 17 = .ok (.if_icmp .gt 21, 3) := by decide +kernel
theorem dX2_placeOf_20 : decode cX2_placeOf 20 = .ok (.aload_n 0, 1) := by decide +kernel
theorem dX2_placeOf_21 : decode cX2_placeOf 21 = .ok (.getfield 9, 3) := by decide +kernel
theorem dX2_placeOf_24 : decode cX2_placeOf 24 = .ok (.iload_n 2, 1) := by decide +kernel
theorem dX2_placeOf_25 : decode cX2_placeOf 25 = .ok (.iload_n 3, 1) := by decide +kernel
theorem dX2_placeOf_26 : decode cX2_placeOf 26 = .ok (.iadd, 1) := by decide +kernel
theorem dX2_placeOf_27 : decode cX2_placeOf 27 = .ok (.iconst 1, 1) := by decide +kernel
theorem dX2_placeOf_28 : decode cX2_placeOf 28 = .ok (.isub, 1) := by decide +kernel
theorem dX2_placeOf_29 : decode cX2_placeOf 29 = .ok (.iaload, 1) := by decide +kernel
theorem dX2_placeOf_30 : decode cX2_placeOf 30 = .ok (.iload_n 1, 1) := by decide +kernel
theorem dX2_placeOf_31 : decode cX2_placeOf 31 = .ok (.if_icmp .ge 7, 3) := by decide +kernel
theorem dX2_placeOf_34 : decode cX2_placeOf 34 = .ok (.iload_n 2, 1) := by decide +kernel
theorem dX2_placeOf_35 : decode cX2_placeOf 35 = .ok (.iload_n 3, 1) := by decide +kernel
theorem dX2_placeOf_36 : decode cX2_placeOf 36 = .ok (.iadd, 1) := by decide +kernel
theorem dX2_placeOf_37 : decode cX2_placeOf 37 = .ok (.istore_n 2, 1) := by decide +kernel
theorem dX2_placeOf_38 : decode cX2_placeOf 38 = .ok (.iload_n 3, 1) := by decide +kernel
theorem dX2_placeOf_39 : decode cX2_placeOf 39 = .ok (.iconst 2, 1) := by decide +kernel
theorem dX2_placeOf_40 : decode cX2_placeOf 40 = .ok (.idiv, 1) := by decide +kernel
theorem dX2_placeOf_41 : decode cX2_placeOf 41 = .ok (.istore_n 3, 1) := by decide +kernel
theorem dX2_placeOf_42 : decode cX2_placeOf 42 = .ok (.goto (-36), 3) := by decide +kernel
theorem dX2_placeOf_45 : decode cX2_placeOf 45 = .ok (.iload_n 2, 1) := by decide +kernel
theorem dX2_placeOf_46 : decode cX2_placeOf 46 = .ok (.ireturn, 1) := by decide +kernel
theorem dX2_holds_0 : decode cX2_holds 0 = .ok (.iload_n 1, 1) := by decide +kernel
theorem dX2_holds_1 : decode cX2_holds 1 = .ok (.aload_n 0, 1) := by decide +kernel
theorem dX2_holds_2 : decode cX2_holds 2 = .ok (.getfield 18, 3) := by decide +kernel
theorem dX2_holds_5 : decode cX2_holds 5 = .ok (.if_icmp .ge 17, 3) := by decide +kernel
theorem dX2_holds_8 : decode cX2_holds 8 = .ok (.aload_n 0, 1) := by decide +kernel
theorem dX2_holds_9 : decode cX2_holds 9 = .ok (.getfield 9, 3) := by decide +kernel
theorem dX2_holds_12 : decode cX2_holds 12 = .ok (.iload_n 1, 1) := by decide +kernel
theorem dX2_holds_13 : decode cX2_holds 13 = .ok (.iaload, 1) := by decide +kernel
theorem dX2_holds_14 : decode cX2_holds 14 = .ok (.iload_n 2, 1) := by decide +kernel
theorem dX2_holds_15 : decode cX2_holds 15 = .ok (.if_icmp .ne 7, 3) := by decide +kernel
theorem dX2_holds_18 : decode cX2_holds 18 = .ok (.iconst 1, 1) := by decide +kernel
theorem dX2_holds_19 : decode cX2_holds 19 = .ok (.goto 4, 3) := by decide +kernel
theorem dX2_holds_22 : decode cX2_holds 22 = .ok (.iconst 0, 1) := by decide +kernel
theorem dX2_holds_23 : decode cX2_holds 23 = .ok (.ireturn, 1) := by decide +kernel
theorem dX2_insert_0 : decode cX2_insert 0 = .ok (.iload_n 1, 1) := by decide +kernel
theorem dX2_insert_1 : decode cX2_insert 1 = .ok (.aload_n 0, 1) := by decide +kernel
theorem dX2_insert_2 : decode cX2_insert 2 = .ok (.getfield 18, 3) := by decide +kernel
theorem dX2_insert_5 : decode cX2_insert 5 = .ok (.if_icmp .gt 13, 3) := by decide +kernel
theorem dX2_insert_8 : decode cX2_insert 8 = .ok (.aload_n 0, 1) := by decide +kernel
theorem dX2_insert_9 : decode cX2_insert 9 = .ok (.getfield 18, 3) := by decide +kernel
theorem dX2_insert_12 : decode cX2_insert 12 = .ok (.sipush 600, 3) := by decide +kernel
theorem dX2_insert_15 : decode cX2_insert 15 = .ok (.if_icmp .lt 4, 3) := by decide +kernel
theorem dX2_insert_18 : decode cX2_insert 18 = .ok (.return_, 1) := by decide +kernel
theorem dX2_insert_19 : decode cX2_insert 19 = .ok (.aload_n 0, 1) := by decide +kernel
theorem dX2_insert_20 : decode cX2_insert 20 = .ok (.getfield 9, 3) := by decide +kernel
theorem dX2_insert_23 : decode cX2_insert 23 = .ok (.iload_n 1, 1) := by decide +kernel
theorem dX2_insert_24 : decode cX2_insert 24 = .ok (.aload_n 0, 1) := by decide +kernel
theorem dX2_insert_25 : decode cX2_insert 25 = .ok (.getfield 9, 3) := by decide +kernel
theorem dX2_insert_28 : decode cX2_insert 28 = .ok (.iload_n 1, 1) := by decide +kernel
theorem dX2_insert_29 : decode cX2_insert 29 = .ok (.iconst 1, 1) := by decide +kernel
theorem dX2_insert_30 : decode cX2_insert 30 = .ok (.iadd, 1) := by decide +kernel
theorem dX2_insert_31 : decode cX2_insert 31 = .ok (.aload_n 0, 1) := by decide +kernel
theorem dX2_insert_32 : decode cX2_insert 32 = .ok (.getfield 18, 3) := by decide +kernel
theorem dX2_insert_35 : decode cX2_insert 35 = .ok (.iload_n 1, 1) := by decide +kernel
theorem dX2_insert_36 : decode cX2_insert 36 = .ok (.isub, 1) := by decide +kernel
theorem dX2_insert_37 : decode cX2_insert 37 = .ok (.invokestatic 22, 3) := by decide +kernel
theorem dX2_insert_40 : decode cX2_insert 40 = .ok (.aload_n 0, 1) := by decide +kernel
theorem dX2_insert_41 : decode cX2_insert 41 = .ok (.getfield 15, 3) := by decide +kernel
theorem dX2_insert_44 : decode cX2_insert 44 = .ok (.iload_n 1, 1) := by decide +kernel
theorem dX2_insert_45 : decode cX2_insert 45 = .ok (.aload_n 0, 1) := by decide +kernel
theorem dX2_insert_46 : decode cX2_insert 46 = .ok (.getfield 15, 3) := by decide +kernel
theorem dX2_insert_49 : decode cX2_insert 49 = .ok (.iload_n 1, 1) := by decide +kernel
theorem dX2_insert_50 : decode cX2_insert 50 = .ok (.iconst 1, 1) := by decide +kernel
theorem dX2_insert_51 : decode cX2_insert 51 = .ok (.iadd, 1) := by decide +kernel
theorem dX2_insert_52 : decode cX2_insert 52 = .ok (.aload_n 0, 1) := by decide +kernel
theorem dX2_insert_53 : decode cX2_insert 53 = .ok (.getfield 18, 3) := by decide +kernel
theorem dX2_insert_56 : decode cX2_insert 56 = .ok (.iload_n 1, 1) := by decide +kernel
theorem dX2_insert_57 : decode cX2_insert 57 = .ok (.isub, 1) := by decide +kernel
theorem dX2_insert_58 : decode cX2_insert 58 = .ok (.invokestatic 22, 3) := by decide +kernel
theorem dX2_insert_61 : decode cX2_insert 61 = .ok (.aload_n 0, 1) := by decide +kernel
theorem dX2_insert_62 : decode cX2_insert 62 = .ok (.getfield 9, 3) := by decide +kernel
theorem dX2_insert_65 : decode cX2_insert 65 = .ok (.iload_n 1, 1) := by decide +kernel
theorem dX2_insert_66 : decode cX2_insert 66 = .ok (.iload_n 2, 1) := by decide +kernel
theorem dX2_insert_67 : decode cX2_insert 67 = .ok (.iastore, 1) := by decide +kernel
theorem dX2_insert_68 : decode cX2_insert 68 = .ok (.aload_n 0, 1) := by decide +kernel
theorem dX2_insert_69 : decode cX2_insert 69 = .ok (.getfield 15, 3) := by decide +kernel
theorem dX2_insert_72 : decode cX2_insert 72 = .ok (.iload_n 1, 1) := by decide +kernel
theorem dX2_insert_73 : decode cX2_insert 73 = .ok (.iload_n 3, 1) := by decide +kernel
theorem dX2_insert_74 : decode cX2_insert 74 = .ok (.iastore, 1) := by decide +kernel
theorem dX2_insert_75 : decode cX2_insert 75 = .ok (.aload_n 0, 1) := by decide +kernel
theorem dX2_insert_76 : decode cX2_insert 76 = .ok (.dup, 1) := by decide +kernel
theorem dX2_insert_77 : decode cX2_insert 77 = .ok (.getfield 18, 3) := by decide +kernel
theorem dX2_insert_80 : decode cX2_insert 80 = .ok (.iconst 1, 1) := by decide +kernel
theorem dX2_insert_81 : decode cX2_insert 81 = .ok (.iadd, 1) := by decide +kernel
theorem dX2_insert_82 : decode cX2_insert 82 = .ok (.putfield 18, 3) := by decide +kernel
theorem dX2_insert_85 : decode cX2_insert 85 = .ok (.return_, 1) := by decide +kernel
theorem dX3_init_0 : decode cX3_init 0 = .ok (.aload_n 0, 1) := by decide +kernel
theorem dX3_init_1 : decode cX3_init 1 = .ok (.invokespecial 3, 3) := by decide +kernel
theorem dX3_init_4 : decode cX3_init 4 = .ok (.aload_n 0, 1) := by decide +kernel
theorem dX3_init_5 : decode cX3_init 5 = .ok (.iconst 3, 1) := by decide +kernel
theorem dX3_init_6 : decode cX3_init 6 = .ok (.newarray .int, 2) := by decide +kernel
theorem dX3_init_8 : decode cX3_init 8 = .ok (.putfield 9, 3) := by decide +kernel
theorem dX3_init_11 : decode cX3_init 11 = .ok (.aload_n 0, 1) := by decide +kernel
theorem dX3_init_12 : decode cX3_init 12 = .ok (.iconst 4, 1) := by decide +kernel
theorem dX3_init_13 : decode cX3_init 13 = .ok (.newarray .int, 2) := by decide +kernel
theorem dX3_init_15 : decode cX3_init 15 = .ok (.putfield 15, 3) := by decide +kernel
theorem dX3_init_18 : decode cX3_init 18 = .ok (.aload_n 0, 1) := by decide +kernel
theorem dX3_init_19 : decode cX3_init 19 = .ok (.bipush 8, 2) := by decide +kernel
theorem dX3_init_21 : decode cX3_init 21 = .ok (.newarray .int, 2) := by decide +kernel
theorem dX3_init_23 : decode cX3_init 23 = .ok (.putfield 18, 3) := by decide +kernel
theorem dX3_init_26 : decode cX3_init 26 = .ok (.aload_n 0, 1) := by decide +kernel
theorem dX3_init_27 : decode cX3_init 27 = .ok (.iconst 0, 1) := by decide +kernel
theorem dX3_init_28 : decode cX3_init 28 = .ok (.putfield 21, 3) := by decide +kernel
theorem dX3_init_31 : decode cX3_init 31 = .ok (.aload_n 0, 1) := by decide +kernel
theorem dX3_init_32 : decode cX3_init 32 = .ok (.iconst 0, 1) := by decide +kernel
theorem dX3_init_33 : decode cX3_init 33 = .ok (.putfield 25, 3) := by decide +kernel
theorem dX3_init_36 : decode cX3_init 36 = .ok (.aload_n 0, 1) := by decide +kernel
theorem dX3_init_37 : decode cX3_init 37 = .ok (.new 28, 3) := by decide +kernel
theorem dX3_init_40 : decode cX3_init 40 = .ok (.dup, 1) := by decide +kernel
theorem dX3_init_41 : decode cX3_init 41 = .ok (.sipush 600, 3) := by decide +kernel
theorem dX3_init_44 : decode cX3_init 44 = .ok (.invokespecial 30, 3) := by decide +kernel
theorem dX3_init_47 : decode cX3_init 47 = .ok (.putfield 33, 3) := by decide +kernel
theorem dX3_init_50 : decode cX3_init 50 = .ok (.aload_n 0, 1) := by decide +kernel
theorem dX3_init_51 : decode cX3_init 51 = .ok (.iconst 0, 1) := by decide +kernel
theorem dX3_init_52 : decode cX3_init 52 = .ok (.putfield 37, 3) := by decide +kernel
theorem dX3_init_55 : decode cX3_init 55 = .ok (.aload_n 0, 1) := by decide +kernel
theorem dX3_init_56 : decode cX3_init 56 = .ok (.iconst 4, 1) := by decide +kernel
theorem dX3_init_57 : decode cX3_init 57 = .ok (.newarray .int, 2) := by decide +kernel
theorem dX3_init_59 : decode cX3_init 59 = .ok (.putfield 40, 3) := by decide +kernel
theorem dX3_init_62 : decode cX3_init 62 = .ok (.return_, 1) := by decide +kernel
theorem dX3_forget_0 : decode cX3_forget 0 = .ok (.aload_n 0, 1) := by decide +kernel
theorem dX3_forget_1 : decode cX3_forget 1 = .ok (.getfield 33, 3) := by decide +kernel
theorem dX3_forget_4 : decode cX3_forget 4 = .ok (.iconst 0, 1) := by decide +kernel
theorem dX3_forget_5 : decode cX3_forget 5 = .ok (.putfield 43, 3) := by decide +kernel
theorem dX3_forget_8 : decode cX3_forget 8 = .ok (.aload_n 0, 1) := by decide +kernel
theorem dX3_forget_9 : decode cX3_forget 9 = .ok (.getfield 40, 3) := by decide +kernel
theorem dX3_forget_12 : decode cX3_forget 12 = .ok (.iconst 0, 1) := by decide +kernel
theorem dX3_forget_13 : decode cX3_forget 13 = .ok (.invokestatic 46, 3) := by decide +kernel
theorem dX3_forget_16 : decode cX3_forget 16 = .ok (.return_, 1) := by decide +kernel
theorem dX3_call_0 : decode cX3_call 0 = .ok (.aload_n 0, 1) := by decide +kernel
theorem dX3_call_1 : decode cX3_call 1 = .ok (.iload_n 2, 1) := by decide +kernel
theorem dX3_call_2 : decode cX3_call 2 = .ok (.iload_n 3, 1) := by decide +kernel
theorem dX3_call_3 : decode cX3_call 3 = .ok (.iload 4, 2) := by decide +kernel
theorem dX3_call_5 : decode cX3_call 5 = .ok (.invokevirtual 52, 3) := by decide +kernel
theorem dX3_call_8 : decode cX3_call 8 = .ok (.iconst 0, 1) := by decide +kernel
theorem dX3_call_9 : decode cX3_call 9 = .ok (.istore 5, 2) := by decide +kernel
theorem dX3_call_11 : decode cX3_call 11 = .ok (.iconst 1, 1) := by decide +kernel
theorem dX3_call_12 : decode cX3_call 12 = .ok (.istore 6, 2) := by decide +kernel
theorem dX3_call_14 : decode cX3_call 14 = .ok (.iload 6, 2) := by decide +kernel
theorem dX3_call_16 : decode cX3_call 16 = .ok (.sipush 300, 3) := by decide +kernel
theorem dX3_call_19 : decode cX3_call 19 = .ok (.if_icmp .gt 154, 3) := by decide +kernel
theorem dX3_call_22 : decode cX3_call 22 = .ok (.aload_n 1, 1) := by decide +kernel
theorem dX3_call_23 : decode cX3_call 23 = .ok (.iload 5, 2) := by decide +kernel
theorem dX3_call_25 : decode cX3_call 25 = .ok (.invokevirtual 56, 3) := by decide +kernel
theorem dX3_call_28 : decode cX3_call 28 = .ok (.ifCond .eq 145, 3) := by decide +kernel
theorem dX3_call_31 : decode cX3_call 31 = .ok (.aload_n 1, 1) := by decide +kernel
theorem dX3_call_32 : decode cX3_call 32 = .ok (.getfield 62, 3) := by decide +kernel
theorem dX3_call_35 : decode cX3_call 35 = .ok (.iload 5, 2) := by decide +kernel
theorem dX3_call_37 : decode cX3_call 37 = .ok (.iaload, 1) := by decide +kernel
theorem dX3_call_38 : decode cX3_call 38 = .ok (.istore 7, 2) := by decide +kernel
theorem dX3_call_40 : decode cX3_call 40 = .ok (.aload_n 1, 1) := by decide +kernel
theorem dX3_call_41 : decode cX3_call 41 = .ok (.getfield 65, 3) := by decide +kernel
theorem dX3_call_44 : decode cX3_call 44 = .ok (.iload 5, 2) := by decide +kernel
theorem dX3_call_46 : decode cX3_call 46 = .ok (.iaload, 1) := by decide +kernel
theorem dX3_call_47 : decode cX3_call 47 = .ok (.istore 8, 2) := by decide +kernel
theorem dX3_call_49 : decode cX3_call 49 = .ok (.iload 7, 2) := by decide +kernel
theorem dX3_call_51 : decode cX3_call 51 = .ok (.bipush 17, 2) := by decide +kernel
theorem dX3_call_53 : decode cX3_call 53 = .ok (.if_icmp .eq 10, 3) := by decide +kernel
theorem dX3_call_56 : decode cX3_call 56 = .ok (.iload 7, 2) := by decide +kernel
theorem dX3_call_58 : decode cX3_call 58 = .ok (.bipush 18, 2) := by decide +kernel
theorem dX3_call_60 : decode cX3_call 60 = .ok (.if_icmp .ne 38, 3) := by decide +kernel
theorem dX3_call_63 : decode cX3_call 63 = .ok (.aload_n 0, 1) := by decide +kernel
theorem dX3_call_64 : decode cX3_call 64 = .ok (.getfield 40, 3) := by decide +kernel
theorem dX3_call_67 : decode cX3_call 67 = .ok (.aload_n 1, 1) := by decide +kernel
theorem dX3_call_68 : decode cX3_call 68 = .ok (.getfield 68, 3) := by decide +kernel
theorem dX3_call_71 : decode cX3_call 71 = .ok (.dup2, 1) := by decide +kernel
theorem dX3_call_72 : decode cX3_call 72 = .ok (.iaload, 1) := by decide +kernel
theorem dX3_call_73 : decode cX3_call 73 = .ok (.iload 6, 2) := by decide +kernel
theorem dX3_call_75 : decode cX3_call 75 = .ok (.iadd, 1) := by decide +kernel
theorem dX3_call_76 : decode cX3_call 76 = .ok (.iastore, 1) := by decide +kernel
theorem dX3_call_77 : decode cX3_call 77 = .ok (.aload_n 0, 1) := by decide +kernel
theorem dX3_call_78 : decode cX3_call 78 = .ok (.aload_n 0, 1) := by decide +kernel
theorem dX3_call_79 : decode cX3_call 79 = .ok (.invokevirtual 71, 3) := by decide +kernel
theorem dX3_call_82 : decode cX3_call 82 = .ok (.putfield 25, 3) := by decide +kernel
theorem dX3_call_85 : decode cX3_call 85 = .ok (.iload 7, 2) := by decide +kernel
theorem dX3_call_87 : decode cX3_call 87 = .ok (.bipush 17, 2) := by decide +kernel
theorem dX3_call_89 : decode cX3_call 89 = .ok (.if_icmp .ne 7, 3) := by decide +kernel
theorem dX3_call_92 : decode cX3_call 92 = .ok (.iconst 1, 1) := by decide +kernel
theorem dX3_call_93 : decode cX3_call 93 = .ok (.goto 4, 3) := by decide +kernel
theorem dX3_call_96 : decode cX3_call 96 = .ok (.iconst 2, 1) := by decide +kernel
theorem dX3_call_97 : decode cX3_call 97 = .ok (.ireturn, 1) := by decide +kernel
theorem dX3_call_98 : decode cX3_call 98 = .ok (.iload 7, 2) := by decide +kernel
theorem dX3_call_100 : decode cX3_call 100 = .ok (.bipush 16, 2) := by decide +kernel
theorem dX3_call_102 : decode cX3_call 102 = .ok (.if_icmp .ne 14, 3) := by decide +kernel
theorem dX3_call_105 : decode cX3_call 105 = .ok (.aload_n 0, 1) := by decide +kernel
theorem dX3_call_106 : decode cX3_call 106 = .ok (.getfield 37, 3) := by decide +kernel
theorem dX3_call_109 : decode cX3_call 109 = .ok (.bipush 20, 2) := by decide +kernel
theorem dX3_call_111 : decode cX3_call 111 = .ok (.if_icmp .lt 5, 3) := by decide +kernel
theorem dX3_call_114 : decode cX3_call 114 = .ok (.iconst 0, 1) := by decide +kernel
theorem dX3_call_115 : decode cX3_call 115 = .ok (.ireturn, 1) := by decide +kernel
theorem dX3_call_116 : decode cX3_call 116 = .ok (.iload 7, 2) := by decide +kernel
theorem dX3_call_118 : decode cX3_call 118 = .ok (.invokestatic 75, 3) := by decide +kernel
theorem dX3_call_121 : decode cX3_call 121 = .ok (.ifCond .eq 18, 3) := by decide +kernel
theorem dX3_call_124 : decode cX3_call 124 = .ok (.aload_n 0, 1) := by decide +kernel
theorem dX3_call_125 : decode cX3_call 125 = .ok (.iload 7, 2) := by decide +kernel
theorem dX3_call_127 : decode cX3_call 127 = .ok (.iload 8, 2) := by decide +kernel
theorem dX3_call_129 : decode cX3_call 129 = .ok (.iload 5, 2) := by decide +kernel
theorem dX3_call_131 : decode cX3_call 131 = .ok (.invokevirtual 78, 3) := by decide +kernel
theorem dX3_call_134 : decode cX3_call 134 = .ok (.istore 5, 2) := by decide +kernel
theorem dX3_call_136 : decode cX3_call 136 = .ok (.goto 31, 3) := by decide +kernel
theorem dX3_call_139 : decode cX3_call 139 = .ok (.iload 7, 2) := by decide +kernel
theorem dX3_call_141 : decode cX3_call 141 = .ok (.invokestatic 82, 3) := by decide +kernel
theorem dX3_call_144 : decode cX3_call 144 = .ok (.ifCond .eq 12, 3) := by decide +kernel
theorem dX3_call_147 : decode cX3_call 147 = .ok (.aload_n 0, 1) := by decide +kernel
theorem dX3_call_148 : decode cX3_call 148 = .ok (.iload 7, 2) := by decide +kernel
theorem dX3_call_150 : decode cX3_call 150 = .ok (.invokevirtual 85, 3) := by decide +kernel
theorem dX3_call_153 : decode cX3_call 153 = .ok (.goto 11, 3) := by decide +kernel
theorem dX3_call_156 : decode cX3_call 156 = .ok (.aload_n 0, 1) := by decide +kernel
theorem dX3_call_157 : decode cX3_call 157 = .ok (.iload 7, 2) := by decide +kernel
theorem dX3_call_159 : decode cX3_call 159 = .ok (.iload 8, 2) := by decide +kernel
theorem dX3_call_161 : decode cX3_call 161 = .ok (.invokevirtual 88, 3) := by decide +kernel
theorem dX3_call_164 : decode cX3_call 164 = .ok (.iinc 5 1, 3) := by decide +kernel
theorem dX3_call_167 : decode cX3_call 167 = .ok (.iinc 6 1, 3) := by decide +kernel
theorem dX3_call_170 : decode cX3_call 170 = .ok (.goto (-156), 3) := by decide +kernel
theorem dX3_call_173 : decode cX3_call 173 = .ok (.iconst 0, 1) := by decide +kernel
theorem dX3_call_174 : decode cX3_call 174 = .ok (.ireturn, 1) := by decide +kernel
theorem dX3_begin_0 : decode cX3_begin 0 = .ok (.aload_n 0, 1) := by decide +kernel
theorem dX3_begin_1 : decode cX3_begin 1 = .ok (.getfield 9, 3) := by decide +kernel
theorem dX3_begin_4 : decode cX3_begin 4 = .ok (.iconst 0, 1) := by decide +kernel
theorem dX3_begin_5 : decode cX3_begin 5 = .ok (.iload_n 1, 1) := by decide +kernel
theorem dX3_begin_6 : decode cX3_begin 6 = .ok (.iastore, 1) := by decide +kernel
theorem dX3_begin_7 : decode cX3_begin 7 = .ok (.aload_n 0, 1) := by decide +kernel
theorem dX3_begin_8 : decode cX3_begin 8 = .ok (.getfield 9, 3) := by decide +kernel
theorem dX3_begin_11 : decode cX3_begin 11 = .ok (.iconst 1, 1) := by decide +kernel
theorem dX3_begin_12 : decode cX3_begin 12 = .ok (.iload_n 2, 1) := by decide +kernel
theorem dX3_begin_13 : decode cX3_begin 13 = .ok (.iastore, 1) := by decide +kernel
theorem dX3_begin_14 : decode cX3_begin 14 = .ok (.aload_n 0, 1) := by decide +kernel
theorem dX3_begin_15 : decode cX3_begin 15 = .ok (.getfield 9, 3) := by decide +kernel
theorem dX3_begin_18 : decode cX3_begin 18 = .ok (.iconst 2, 1) := by decide +kernel
theorem dX3_begin_19 : decode cX3_begin 19 = .ok (.iload_n 3, 1) := by decide +kernel
theorem dX3_begin_20 : decode cX3_begin 20 = .ok (.iastore, 1) := by decide +kernel
theorem dX3_begin_21 : decode cX3_begin 21 = .ok (.aload_n 0, 1) := by decide +kernel
theorem dX3_begin_22 : decode cX3_begin 22 = .ok (.getfield 15, 3) := by decide +kernel
theorem dX3_begin_25 : decode cX3_begin 25 = .ok (.iconst 0, 1) := by decide +kernel
theorem dX3_begin_26 : decode cX3_begin 26 = .ok (.invokestatic 46, 3) := by decide +kernel
theorem dX3_begin_29 : decode cX3_begin 29 = .ok (.aload_n 0, 1) := by decide +kernel
theorem dX3_begin_30 : decode cX3_begin 30 = .ok (.iconst 0, 1) := by decide +kernel
theorem dX3_begin_31 : decode cX3_begin 31 = .ok (.putfield 21, 3) := by decide +kernel
theorem dX3_begin_34 : decode cX3_begin 34 = .ok (.aload_n 0, 1) := by decide +kernel
theorem dX3_begin_35 : decode cX3_begin 35 = .ok (.iconst 0, 1) := by decide +kernel
theorem dX3_begin_36 : decode cX3_begin 36 = .ok (.putfield 37, 3) := by decide +kernel
theorem dX3_begin_39 : decode cX3_begin 39 = .ok (.return_, 1) := by decide +kernel
theorem dX3_jump_0 : decode cX3_jump 0 = .ok (.iload_n 1, 1) := by decide +kernel
theorem dX3_jump_1 : decode cX3_jump 1 = .ok (.bipush 15, 2) := by decide +kernel
theorem dX3_jump_3 : decode cX3_jump 3 = .ok (.if_icmp .ne 14, 3) := by decide +kernel
theorem dX3_jump_6 : decode cX3_jump 6 = .ok (.aload_n 0, 1) := by decide +kernel
theorem dX3_jump_7 : decode cX3_jump 7 = .ok (.invokevirtual 71, 3) := by decide +kernel
theorem dX3_jump_10 : decode cX3_jump 10 = .ok (.ifCond .eq 7, 3) := by decide +kernel
theorem dX3_jump_13 : decode cX3_jump 13 = .ok (.iload_n 3, 1) := by decide +kernel
theorem dX3_jump_14 : decode cX3_jump 14 = .ok (.iconst 1, 1) := by decide +kernel
theorem dX3_jump_15 : decode cX3_jump 15 = .ok (.iadd, 1) := by decide +kernel
theorem dX3_jump_16 : decode cX3_jump 16 = .ok (.ireturn, 1) := by decide +kernel
theorem dX3_jump_17 : decode cX3_jump 17 = .ok (.iload_n 2, 1) := by decide +kernel
theorem dX3_jump_18 : decode cX3_jump 18 = .ok (.ireturn, 1) := by decide +kernel
theorem dX3_combine_0 : decode cX3_combine 0 = .ok (.aload_n 0, 1) := by decide +kernel
theorem dX3_combine_1 : decode cX3_combine 1 = .ok (.invokevirtual 71, 3) := by decide +kernel
theorem dX3_combine_4 : decode cX3_combine 4 = .ok (.istore_n 2, 1) := by decide +kernel
theorem dX3_combine_5 : decode cX3_combine 5 = .ok (.aload_n 0, 1) := by decide +kernel
theorem dX3_combine_6 : decode cX3_combine 6 = .ok (.invokevirtual 71, 3) := by decide +kernel
theorem dX3_combine_9 : decode cX3_combine 9 = .ok (.istore_n 3, 1) := by decide +kernel
theorem dX3_combine_10 : decode cX3_combine 10 = .ok (.aload_n 0, 1) := by decide +kernel
theorem dX3_combine_11 : decode cX3_combine 11 = .ok (.iload_n 1, 1) := by decide +kernel
theorem dX3_combine_12 : decode cX3_combine 12 = .ok (.iload_n 3, 1) := by decide +kernel
theorem dX3_combine_13 : decode cX3_combine 13 = .ok (.iload_n 2, 1) := by decide +kernel
theorem dX3_combine_14 : decode cX3_combine 14 = .ok (.invokestatic 92, 3) := by decide +kernel
theorem dX3_combine_17 : decode cX3_combine 17 = .ok (.invokevirtual 95, 3) := by decide +kernel
theorem dX3_combine_20 : decode cX3_combine 20 = .ok (.return_, 1) := by decide +kernel
theorem dX3_combined_0 : decode cX3_combined 0 = .ok (.iload_n 0, 1) := by decide +kernel
theorem dX3_combined_1 : decode cX3_combined 1 = .ok (.tableswitch 86 7 12 #[39, 43, 47, 51, 63, 75], 39) := by decide +kernel
theorem dX3_combined_40 : decode cX3_combined 40 = .ok (.iload_n 1, 1) := by decide +kernel
theorem dX3_combined_41 : decode cX3_combined 41 = .ok (.iload_n 2, 1) := by decide +kernel
theorem dX3_combined_42 : decode cX3_combined 42 = .ok (.iadd, 1) := by decide +kernel
theorem dX3_combined_43 : decode cX3_combined 43 = .ok (.ireturn, 1) := by decide +kernel
theorem dX3_combined_44 : decode cX3_combined 44 = .ok (.iload_n 1, 1) := by decide +kernel
theorem dX3_combined_45 : decode cX3_combined 45 = .ok (.iload_n 2, 1) := by decide +kernel
theorem dX3_combined_46 : decode cX3_combined 46 = .ok (.isub, 1) := by decide +kernel
theorem dX3_combined_47 : decode cX3_combined 47 = .ok (.ireturn, 1) := by decide +kernel
theorem dX3_combined_48 : decode cX3_combined 48 = .ok (.iload_n 1, 1) := by decide +kernel
theorem dX3_combined_49 : decode cX3_combined 49 = .ok (.iload_n 2, 1) := by decide +kernel
theorem dX3_combined_50 : decode cX3_combined 50 = .ok (.imul, 1) := by decide +kernel
theorem dX3_combined_51 : decode cX3_combined 51 = .ok (.ireturn, 1) := by decide +kernel
theorem dX3_combined_52 : decode cX3_combined 52 = .ok (.iload_n 2, 1) := by decide +kernel
theorem dX3_combined_53 : decode cX3_combined 53 = .ok (.ifCond .ne 7, 3) := by decide +kernel
theorem dX3_combined_56 : decode cX3_combined 56 = .ok (.iconst 0, 1) := by decide +kernel
theorem dX3_combined_57 : decode cX3_combined 57 = .ok (.goto 6, 3) := by decide +kernel
theorem dX3_combined_60 : decode cX3_combined 60 = .ok (.iload_n 1, 1) := by decide +kernel
theorem dX3_combined_61 : decode cX3_combined 61 = .ok (.iload_n 2, 1) := by decide +kernel
theorem dX3_combined_62 : decode cX3_combined 62 = .ok (.idiv, 1) := by decide +kernel
theorem dX3_combined_63 : decode cX3_combined 63 = .ok (.ireturn, 1) := by decide +kernel
theorem dX3_combined_64 : decode cX3_combined 64 = .ok (.iload_n 2, 1) := by decide +kernel
theorem dX3_combined_65 : decode cX3_combined 65 = .ok (.ifCond .ne 7, 3) := by decide +kernel
theorem dX3_combined_68 : decode cX3_combined 68 = .ok (.iconst 0, 1) := by decide +kernel
theorem dX3_combined_69 : decode cX3_combined 69 = .ok (.goto 6, 3) := by decide +kernel
theorem dX3_combined_72 : decode cX3_combined 72 = .ok (.iload_n 1, 1) := by decide +kernel
theorem dX3_combined_73 : decode cX3_combined 73 = .ok (.iload_n 2, 1) := by decide +kernel
theorem dX3_combined_74 : decode cX3_combined 74 = .ok (.irem, 1) := by decide +kernel
theorem dX3_combined_75 : decode cX3_combined 75 = .ok (.ireturn, 1) := by decide +kernel
theorem dX3_combined_76 : decode cX3_combined 76 = .ok (.iload_n 1, 1) := by decide +kernel
theorem dX3_combined_77 : decode cX3_combined 77 = .ok (.iload_n 2, 1) := by decide +kernel
theorem dX3_combined_78 : decode cX3_combined 78 = .ok (.if_icmp .ge 7, 3) := by decide +kernel
theorem dX3_combined_81 : decode cX3_combined 81 = .ok (.iconst 1, 1) := by decide +kernel
theorem dX3_combined_82 : decode cX3_combined 82 = .ok (.goto 4, 3) := by decide +kernel
theorem dX3_combined_85 : decode cX3_combined 85 = .ok (.iconst 0, 1) := by decide +kernel
theorem dX3_combined_86 : decode cX3_combined 86 = .ok (.ireturn, 1) := by decide +kernel
theorem dX3_combined_87 : decode cX3_combined 87 = .ok (.iload_n 1, 1) := by decide +kernel
theorem dX3_combined_88 : decode cX3_combined 88 = .ok (.iload_n 2, 1) := by decide +kernel
theorem dX3_combined_89 : decode cX3_combined 89 = .ok (.if_icmp .ne 7, 3) := by decide +kernel
theorem dX3_combined_92 : decode cX3_combined 92 = .ok (.iconst 1, 1) := by decide +kernel
theorem dX3_combined_93 : decode cX3_combined 93 = .ok (.goto 4, 3) := by decide +kernel
theorem dX3_combined_96 : decode cX3_combined 96 = .ok (.iconst 0, 1) := by decide +kernel
theorem dX3_combined_97 : decode cX3_combined 97 = .ok (.ireturn, 1) := by decide +kernel
theorem dX3_move_0 : decode cX3_move 0 = .ok (.iload_n 1, 1) := by decide +kernel
theorem dX3_move_1 : decode cX3_move 1 = .ok (.tableswitch 168 0 6 #[43, 51, 77, 103, 115, 133, 160], 43) := by decide +kernel
theorem dX3_move_44 : decode cX3_move 44 = .ok (.aload_n 0, 1) := by decide +kernel
theorem dX3_move_45 : decode cX3_move 45 = .ok (.iload_n 2, 1) := by decide +kernel
theorem dX3_move_46 : decode cX3_move 46 = .ok (.invokevirtual 95, 3) := by decide +kernel
theorem dX3_move_49 : decode cX3_move 49 = .ok (.goto 124, 3) := by decide +kernel
theorem dX3_move_52 : decode cX3_move 52 = .ok (.aload_n 0, 1) := by decide +kernel
theorem dX3_move_53 : decode cX3_move 53 = .ok (.iload_n 2, 1) := by decide +kernel
theorem dX3_move_54 : decode cX3_move 54 = .ok (.ifCond .lt 17, 3) := by decide +kernel
theorem dX3_move_57 : decode cX3_move 57 = .ok (.iload_n 2, 1) := by decide +kernel
theorem dX3_move_58 : decode cX3_move 58 = .ok (.iconst 3, 1) := by decide +kernel
theorem dX3_move_59 : decode cX3_move 59 = .ok (.if_icmp .ge 12, 3) := by decide +kernel
theorem dX3_move_62 : decode cX3_move 62 = .ok (.aload_n 0, 1) := by decide +kernel
theorem dX3_move_63 : decode cX3_move 63 = .ok (.getfield 9, 3) := by decide +kernel
theorem dX3_move_66 : decode cX3_move 66 = .ok (.iload_n 2, 1) := by decide +kernel
theorem dX3_move_67 : decode cX3_move 67 = .ok (.iaload, 1) := by decide +kernel
theorem dX3_move_68 : decode cX3_move 68 = .ok (.goto 4, 3) := by decide +kernel
theorem dX3_move_71 : decode cX3_move 71 = .ok (.iconst 0, 1) := by decide +kernel
theorem dX3_move_72 : decode cX3_move 72 = .ok (.invokevirtual 95, 3) := by decide +kernel
theorem dX3_move_75 : decode cX3_move 75 = .ok (.goto 98, 3) := by decide +kernel
theorem dX3_move_78 : decode cX3_move 78 = .ok (.aload_n 0, 1) := by decide +kernel
theorem dX3_move_79 : decode cX3_move 79 = .ok (.iload_n 2, 1) := by decide +kernel
theorem dX3_move_80 : decode cX3_move 80 = .ok (.ifCond .lt 17, 3) := by decide +kernel
theorem dX3_move_83 : decode cX3_move 83 = .ok (.iload_n 2, 1) := by decide +kernel
theorem dX3_move_84 : decode cX3_move 84 = .ok (.iconst 4, 1) := by decide +kernel
theorem dX3_move_85 : decode cX3_move 85 = .ok (.if_icmp .ge 12, 3) := by decide +kernel
theorem dX3_move_88 : decode cX3_move 88 = .ok (.aload_n 0, 1) := by decide +kernel
theorem dX3_move_89 : decode cX3_move 89 = .ok (.getfield 15, 3) := by decide +kernel
theorem dX3_move_92 : decode cX3_move 92 = .ok (.iload_n 2, 1) := by decide +kernel
theorem dX3_move_93 : decode cX3_move 93 = .ok (.iaload, 1) := by decide +kernel
theorem dX3_move_94 : decode cX3_move 94 = .ok (.goto 4, 3) := by decide +kernel
theorem dX3_move_97 : decode cX3_move 97 = .ok (.iconst 0, 1) := by decide +kernel
theorem dX3_move_98 : decode cX3_move 98 = .ok (.invokevirtual 95, 3) := by decide +kernel
theorem dX3_move_101 : decode cX3_move 101 = .ok (.goto 72, 3) := by decide +kernel
theorem dX3_move_104 : decode cX3_move 104 = .ok (.aload_n 0, 1) := by decide +kernel
theorem dX3_move_105 : decode cX3_move 105 = .ok (.iload_n 2, 1) := by decide +kernel
theorem dX3_move_106 : decode cX3_move 106 = .ok (.aload_n 0, 1) := by decide +kernel
theorem dX3_move_107 : decode cX3_move 107 = .ok (.invokevirtual 71, 3) := by decide +kernel
theorem dX3_move_110 : decode cX3_move 110 = .ok (.invokevirtual 98, 3) := by decide +kernel
theorem dX3_move_113 : decode cX3_move 113 = .ok (.goto 60, 3) := by decide +kernel
theorem dX3_move_116 : decode cX3_move 116 = .ok (.aload_n 0, 1) := by decide +kernel
theorem dX3_move_117 : decode cX3_move 117 = .ok (.invokevirtual 71, 3) := by decide +kernel
theorem dX3_move_120 : decode cX3_move 120 = .ok (.istore_n 3, 1) := by decide +kernel
theorem dX3_move_121 : decode cX3_move 121 = .ok (.aload_n 0, 1) := by decide +kernel
theorem dX3_move_122 : decode cX3_move 122 = .ok (.iload_n 3, 1) := by decide +kernel
theorem dX3_move_123 : decode cX3_move 123 = .ok (.invokevirtual 95, 3) := by decide +kernel
theorem dX3_move_126 : decode cX3_move 126 = .ok (.aload_n 0, 1) := by decide +kernel
theorem dX3_move_127 : decode cX3_move 127 = .ok (.iload_n 3, 1) := by decide +kernel
theorem dX3_move_128 : decode cX3_move 128 = .ok (.invokevirtual 95, 3) := by decide +kernel
theorem dX3_move_131 : decode cX3_move 131 = .ok (.goto 42, 3) := by decide +kernel
theorem dX3_move_134 : decode cX3_move 134 = .ok (.aload_n 0, 1) := by decide +kernel
theorem dX3_move_135 : decode cX3_move 135 = .ok (.invokevirtual 71, 3) := by decide +kernel
theorem dX3_move_138 : decode cX3_move 138 = .ok (.istore 4, 2) := by decide +kernel
theorem dX3_move_140 : decode cX3_move 140 = .ok (.aload_n 0, 1) := by decide +kernel
theorem dX3_move_141 : decode cX3_move 141 = .ok (.invokevirtual 71, 3) := by decide +kernel
theorem dX3_move_144 : decode cX3_move 144 = .ok (.istore 5, 2) := by decide +kernel
theorem dX3_move_146 : decode cX3_move 146 = .ok (.aload_n 0, 1) := by decide +kernel
theorem dX3_move_147 : decode cX3_move 147 = .ok (.iload 4, 2) := by decide +kernel
theorem dX3_move_149 : decode cX3_move 149 = .ok (.invokevirtual 95, 3) := by decide +kernel
theorem dX3_move_152 : decode cX3_move 152 = .ok (.aload_n 0, 1) := by decide +kernel
theorem dX3_move_153 : decode cX3_move 153 = .ok (.iload 5, 2) := by decide +kernel
theorem dX3_move_155 : decode cX3_move 155 = .ok (.invokevirtual 95, 3) := by decide +kernel
theorem dX3_move_158 : decode cX3_move 158 = .ok (.goto 15, 3) := by decide +kernel
theorem dX3_move_161 : decode cX3_move 161 = .ok (.aload_n 0, 1) := by decide +kernel
theorem dX3_move_162 : decode cX3_move 162 = .ok (.invokevirtual 71, 3) := by decide +kernel
theorem dX3_move_165 : decode cX3_move 165 = .ok (.pop, 1) := by decide +kernel
theorem dX3_move_166 : decode cX3_move 166 = .ok (.goto 7, 3) := by decide +kernel
theorem dX3_move_169 : decode cX3_move 169 = .ok (.aload_n 0, 1) := by decide +kernel
theorem dX3_move_170 : decode cX3_move 170 = .ok (.invokevirtual 101, 3) := by decide +kernel
theorem dX3_move_173 : decode cX3_move 173 = .ok (.return_, 1) := by decide +kernel
theorem dX3_emit_0 : decode cX3_emit 0 = .ok (.aload_n 0, 1) := by decide +kernel
theorem dX3_emit_1 : decode cX3_emit 1 = .ok (.invokevirtual 71, 3) := by decide +kernel
theorem dX3_emit_4 : decode cX3_emit 4 = .ok (.istore_n 1, 1) := by decide +kernel
theorem dX3_emit_5 : decode cX3_emit 5 = .ok (.aload_n 0, 1) := by decide +kernel
theorem dX3_emit_6 : decode cX3_emit 6 = .ok (.invokevirtual 71, 3) := by decide +kernel
theorem dX3_emit_9 : decode cX3_emit 9 = .ok (.istore_n 2, 1) := by decide +kernel
theorem dX3_emit_10 : decode cX3_emit 10 = .ok (.aload_n 0, 1) := by decide +kernel
theorem dX3_emit_11 : decode cX3_emit 11 = .ok (.dup, 1) := by decide +kernel
theorem dX3_emit_12 : decode cX3_emit 12 = .ok (.getfield 37, 3) := by decide +kernel
theorem dX3_emit_15 : decode cX3_emit 15 = .ok (.iconst 1, 1) := by decide +kernel
theorem dX3_emit_16 : decode cX3_emit 16 = .ok (.iadd, 1) := by decide +kernel
theorem dX3_emit_17 : decode cX3_emit 17 = .ok (.putfield 37, 3) := by decide +kernel
theorem dX3_emit_20 : decode cX3_emit 20 = .ok (.aload_n 0, 1) := by decide +kernel
theorem dX3_emit_21 : decode cX3_emit 21 = .ok (.getfield 33, 3) := by decide +kernel
theorem dX3_emit_24 : decode cX3_emit 24 = .ok (.iload_n 2, 1) := by decide +kernel
theorem dX3_emit_25 : decode cX3_emit 25 = .ok (.iload_n 1, 1) := by decide +kernel
theorem dX3_emit_26 : decode cX3_emit 26 = .ok (.invokevirtual 104, 3) := by decide +kernel
theorem dX3_emit_29 : decode cX3_emit 29 = .ok (.pop, 1) := by decide +kernel
theorem dX3_emit_30 : decode cX3_emit 30 = .ok (.return_, 1) := by decide +kernel
theorem dX3_store_0 : decode cX3_store 0 = .ok (.iload_n 1, 1) := by decide +kernel
theorem dX3_store_1 : decode cX3_store 1 = .ok (.ifCond .lt 15, 3) := by decide +kernel
theorem dX3_store_4 : decode cX3_store 4 = .ok (.iload_n 1, 1) := by decide +kernel
theorem dX3_store_5 : decode cX3_store 5 = .ok (.iconst 4, 1) := by decide +kernel
theorem dX3_store_6 : decode cX3_store 6 = .ok (.if_icmp .ge 10, 3) := by decide +kernel
theorem dX3_store_9 : decode cX3_store 9 = .ok (.aload_n 0, 1) := by decide +kernel
theorem dX3_store_10 : decode cX3_store 10 = .ok (.getfield 15, 3) := by decide +kernel
theorem dX3_store_13 : decode cX3_store 13 = .ok (.iload_n 1, 1) := by decide +kernel
theorem dX3_store_14 : decode cX3_store 14 = .ok (.iload_n 2, 1) := by decide +kernel
theorem dX3_store_15 : decode cX3_store 15 = .ok (.iastore, 1) := by decide +kernel
theorem dX3_store_16 : decode cX3_store 16 = .ok (.return_, 1) := by decide +kernel
theorem dX3_push_0 : decode cX3_push 0 = .ok (.aload_n 0, 1) := by decide +kernel
theorem dX3_push_1 : decode cX3_push 1 = .ok (.getfield 21, 3) := by decide +kernel
theorem dX3_push_4 : decode cX3_push 4 = .ok (.bipush 8, 2) := by decide +kernel
theorem dX3_push_6 : decode cX3_push 6 = .ok (.if_icmp .ge 23, 3) := by decide +kernel
theorem dX3_push_9 : decode cX3_push 9 = .ok (.aload_n 0, 1) := by decide +kernel
theorem dX3_push_10 : decode cX3_push 10 = .ok (.getfield 18, 3) := by decide +kernel
theorem dX3_push_13 : decode cX3_push 13 = .ok (.aload_n 0, 1) := by decide +kernel
theorem dX3_push_14 : decode cX3_push 14 = .ok (.getfield 21, 3) := by decide +kernel
theorem dX3_push_17 : decode cX3_push 17 = .ok (.iload_n 1, 1) := by decide +kernel
theorem dX3_push_18 : decode cX3_push 18 = .ok (.iastore, 1) := by decide +kernel
theorem dX3_push_19 : decode cX3_push 19 = .ok (.aload_n 0, 1) := by decide +kernel
theorem dX3_push_20 : decode cX3_push 20 = .ok (.dup, 1) := by decide +kernel
theorem dX3_push_21 : decode cX3_push 21 = .ok (.getfield 21, 3) := by decide +kernel
theorem dX3_push_24 : decode cX3_push 24 = .ok (.iconst 1, 1) := by decide +kernel
theorem dX3_push_25 : decode cX3_push 25 = .ok (.iadd, 1) := by decide +kernel
theorem dX3_push_26 : decode cX3_push 26 = .ok (.putfield 21, 3) := by decide +kernel
theorem dX3_push_29 : decode cX3_push 29 = .ok (.return_, 1) := by decide +kernel
theorem dX3_pop_0 : decode cX3_pop 0 = .ok (.aload_n 0, 1) := by decide +kernel
theorem dX3_pop_1 : decode cX3_pop 1 = .ok (.getfield 21, 3) := by decide +kernel
theorem dX3_pop_4 : decode cX3_pop 4 = .ok (.ifCond .gt 5, 3) := by decide +kernel
theorem dX3_pop_7 : decode cX3_pop 7 = .ok (.iconst 0, 1) := by decide +kernel
theorem dX3_pop_8 : decode cX3_pop 8 = .ok (.ireturn, 1) := by decide +kernel
theorem dX3_pop_9 : decode cX3_pop 9 = .ok (.aload_n 0, 1) := by decide +kernel
theorem dX3_pop_10 : decode cX3_pop 10 = .ok (.dup, 1) := by decide +kernel
theorem dX3_pop_11 : decode cX3_pop 11 = .ok (.getfield 21, 3) := by decide +kernel
theorem dX3_pop_14 : decode cX3_pop 14 = .ok (.iconst 1, 1) := by decide +kernel
theorem dX3_pop_15 : decode cX3_pop 15 = .ok (.isub, 1) := by decide +kernel
theorem dX3_pop_16 : decode cX3_pop 16 = .ok (.putfield 21, 3) := by decide +kernel
theorem dX3_pop_19 : decode cX3_pop 19 = .ok (.aload_n 0, 1) := by decide +kernel
theorem dX3_pop_20 : decode cX3_pop 20 = .ok (.getfield 18, 3) := by decide +kernel
theorem dX3_pop_23 : decode cX3_pop 23 = .ok (.aload_n 0, 1) := by decide +kernel
theorem dX3_pop_24 : decode cX3_pop 24 = .ok (.getfield 21, 3) := by decide +kernel
theorem dX3_pop_27 : decode cX3_pop 27 = .ok (.iaload, 1) := by decide +kernel
theorem dX3_pop_28 : decode cX3_pop 28 = .ok (.ireturn, 1) := by decide +kernel
theorem dX4_init_0 : decode cX4_init 0 = .ok (.aload_n 0, 1) := by decide +kernel
theorem dX4_init_1 : decode cX4_init 1 = .ok (.invokespecial 1, 3) := by decide +kernel
theorem dX4_init_4 : decode cX4_init 4 = .ok (.aload_n 0, 1) := by decide +kernel
theorem dX4_init_5 : decode cX4_init 5 = .ok (.iload_n 1, 1) := by decide +kernel
theorem dX4_init_6 : decode cX4_init 6 = .ok (.newarray .int, 2) := by decide +kernel
theorem dX4_init_8 : decode cX4_init 8 = .ok (.putfield 7, 3) := by decide +kernel
theorem dX4_init_11 : decode cX4_init 11 = .ok (.aload_n 0, 1) := by decide +kernel
theorem dX4_init_12 : decode cX4_init 12 = .ok (.iload_n 1, 1) := by decide +kernel
theorem dX4_init_13 : decode cX4_init 13 = .ok (.newarray .int, 2) := by decide +kernel
theorem dX4_init_15 : decode cX4_init 15 = .ok (.putfield 13, 3) := by decide +kernel
theorem dX4_init_18 : decode cX4_init 18 = .ok (.aload_n 0, 1) := by decide +kernel
theorem dX4_init_19 : decode cX4_init 19 = .ok (.iconst 0, 1) := by decide +kernel
theorem dX4_init_20 : decode cX4_init 20 = .ok (.putfield 16, 3) := by decide +kernel
theorem dX4_init_23 : decode cX4_init 23 = .ok (.return_, 1) := by decide +kernel
theorem dX4_append_0 : decode cX4_append 0 = .ok (.aload_n 0, 1) := by decide +kernel
theorem dX4_append_1 : decode cX4_append 1 = .ok (.getfield 16, 3) := by decide +kernel
theorem dX4_append_4 : decode cX4_append 4 = .ok (.aload_n 0, 1) := by decide +kernel
theorem dX4_append_5 : decode cX4_append 5 = .ok (.getfield 7, 3) := by decide +kernel
theorem dX4_append_8 : decode cX4_append 8 = .ok (.arraylength, 1) := by decide +kernel
theorem dX4_append_9 : decode cX4_append 9 = .ok (.if_icmp .lt 5, 3) := by decide +kernel
theorem dX4_append_12 : decode cX4_append 12 = .ok (.iconst 0, 1) := by decide +kernel
theorem dX4_append_13 : decode cX4_append 13 = .ok (.ireturn, 1) := by decide +kernel
theorem dX4_append_14 : decode cX4_append 14 = .ok (.aload_n 0, 1) := by decide +kernel
theorem dX4_append_15 : decode cX4_append 15 = .ok (.getfield 7, 3) := by decide +kernel
theorem dX4_append_18 : decode cX4_append 18 = .ok (.aload_n 0, 1) := by decide +kernel
theorem dX4_append_19 : decode cX4_append 19 = .ok (.getfield 16, 3) := by decide +kernel
theorem dX4_append_22 : decode cX4_append 22 = .ok (.iload_n 1, 1) := by decide +kernel
theorem dX4_append_23 : decode cX4_append 23 = .ok (.iastore, 1) := by decide +kernel
theorem dX4_append_24 : decode cX4_append 24 = .ok (.aload_n 0, 1) := by decide +kernel
theorem dX4_append_25 : decode cX4_append 25 = .ok (.getfield 13, 3) := by decide +kernel
theorem dX4_append_28 : decode cX4_append 28 = .ok (.aload_n 0, 1) := by decide +kernel
theorem dX4_append_29 : decode cX4_append 29 = .ok (.getfield 16, 3) := by decide +kernel
theorem dX4_append_32 : decode cX4_append 32 = .ok (.iload_n 2, 1) := by decide +kernel
theorem dX4_append_33 : decode cX4_append 33 = .ok (.iastore, 1) := by decide +kernel
theorem dX4_append_34 : decode cX4_append 34 = .ok (.aload_n 0, 1) := by decide +kernel
theorem dX4_append_35 : decode cX4_append 35 = .ok (.dup, 1) := by decide +kernel
theorem dX4_append_36 : decode cX4_append 36 = .ok (.getfield 16, 3) := by decide +kernel
theorem dX4_append_39 : decode cX4_append 39 = .ok (.iconst 1, 1) := by decide +kernel
theorem dX4_append_40 : decode cX4_append 40 = .ok (.iadd, 1) := by decide +kernel
theorem dX4_append_41 : decode cX4_append 41 = .ok (.putfield 16, 3) := by decide +kernel
theorem dX4_append_44 : decode cX4_append 44 = .ok (.iconst 1, 1) := by decide +kernel
theorem dX4_append_45 : decode cX4_append 45 = .ok (.ireturn, 1) := by decide +kernel
theorem dX4_appendAll_0 : decode cX4_appendAll 0 = .ok (.iconst 0, 1) := by decide +kernel
theorem dX4_appendAll_1 : decode cX4_appendAll 1 = .ok (.istore_n 2, 1) := by decide +kernel
theorem dX4_appendAll_2 : decode cX4_appendAll 2 = .ok (.iload_n 2, 1) := by decide +kernel
theorem dX4_appendAll_3 : decode cX4_appendAll 3 = .ok (.aload_n 1, 1) := by decide +kernel
theorem dX4_appendAll_4 : decode cX4_appendAll 4 = .ok (.getfield 20, 3) := by decide +kernel
theorem dX4_appendAll_7 : decode cX4_appendAll 7 = .ok (.if_icmp .ge 26, 3) := by decide +kernel
theorem dX4_appendAll_10 : decode cX4_appendAll 10 = .ok (.aload_n 0, 1) := by decide +kernel
theorem dX4_appendAll_11 : decode cX4_appendAll 11 = .ok (.aload_n 1, 1) := by decide +kernel
theorem dX4_appendAll_12 : decode cX4_appendAll 12 = .ok (.getfield 23, 3) := by decide +kernel
theorem dX4_appendAll_15 : decode cX4_appendAll 15 = .ok (.iload_n 2, 1) := by decide +kernel
theorem dX4_appendAll_16 : decode cX4_appendAll 16 = .ok (.iaload, 1) := by decide +kernel
theorem dX4_appendAll_17 : decode cX4_appendAll 17 = .ok (.aload_n 1, 1) := by decide +kernel
theorem dX4_appendAll_18 : decode cX4_appendAll 18 = .ok (.getfield 24, 3) := by decide +kernel
theorem dX4_appendAll_21 : decode cX4_appendAll 21 = .ok (.iload_n 2, 1) := by decide +kernel
theorem dX4_appendAll_22 : decode cX4_appendAll 22 = .ok (.iaload, 1) := by decide +kernel
theorem dX4_appendAll_23 : decode cX4_appendAll 23 = .ok (.invokevirtual 25, 3) := by decide +kernel
theorem dX4_appendAll_26 : decode cX4_appendAll 26 = .ok (.pop, 1) := by decide +kernel
theorem dX4_appendAll_27 : decode cX4_appendAll 27 = .ok (.iinc 2 1, 3) := by decide +kernel
theorem dX4_appendAll_30 : decode cX4_appendAll 30 = .ok (.goto (-28), 3) := by decide +kernel
theorem dX4_appendAll_33 : decode cX4_appendAll 33 = .ok (.return_, 1) := by decide +kernel
theorem dX5_init_0 : decode cX5_init 0 = .ok (.aload_n 0, 1) := by decide +kernel
theorem dX5_init_1 : decode cX5_init 1 = .ok (.invokespecial 3, 3) := by decide +kernel
theorem dX5_init_4 : decode cX5_init 4 = .ok (.aload_n 0, 1) := by decide +kernel
theorem dX5_init_5 : decode cX5_init 5 = .ok (.bipush 64, 2) := by decide +kernel
theorem dX5_init_7 : decode cX5_init 7 = .ok (.newarray .int, 2) := by decide +kernel
theorem dX5_init_9 : decode cX5_init 9 = .ok (.putfield 9, 3) := by decide +kernel
theorem dX5_init_12 : decode cX5_init 12 = .ok (.aload_n 0, 1) := by decide +kernel
theorem dX5_init_13 : decode cX5_init 13 = .ok (.bipush 64, 2) := by decide +kernel
theorem dX5_init_15 : decode cX5_init 15 = .ok (.newarray .int, 2) := by decide +kernel
theorem dX5_init_17 : decode cX5_init 17 = .ok (.putfield 15, 3) := by decide +kernel
theorem dX5_init_20 : decode cX5_init 20 = .ok (.aload_n 0, 1) := by decide +kernel
theorem dX5_init_21 : decode cX5_init 21 = .ok (.iconst 0, 1) := by decide +kernel
theorem dX5_init_22 : decode cX5_init 22 = .ok (.putfield 18, 3) := by decide +kernel
theorem dX5_init_25 : decode cX5_init 25 = .ok (.aload_n 0, 1) := by decide +kernel
theorem dX5_init_26 : decode cX5_init 26 = .ok (.iload_n 1, 1) := by decide +kernel
theorem dX5_init_27 : decode cX5_init 27 = .ok (.putfield 22, 3) := by decide +kernel
theorem dX5_init_30 : decode cX5_init 30 = .ok (.return_, 1) := by decide +kernel
theorem dX5_append_0 : decode cX5_append 0 = .ok (.aload_n 0, 1) := by decide +kernel
theorem dX5_append_1 : decode cX5_append 1 = .ok (.getfield 18, 3) := by decide +kernel
theorem dX5_append_4 : decode cX5_append 4 = .ok (.bipush 64, 2) := by decide +kernel
theorem dX5_append_6 : decode cX5_append 6 = .ok (.if_icmp .lt 6, 3) := by decide +kernel
theorem dX5_append_9 : decode cX5_append 9 = .ok (.bipush (-3), 2) := by decide +kernel
theorem dX5_append_11 : decode cX5_append 11 = .ok (.ireturn, 1) := by decide +kernel
theorem dX5_append_12 : decode cX5_append 12 = .ok (.aload_n 0, 1) := by decide +kernel
theorem dX5_append_13 : decode cX5_append 13 = .ok (.getfield 9, 3) := by decide +kernel
theorem dX5_append_16 : decode cX5_append 16 = .ok (.aload_n 0, 1) := by decide +kernel
theorem dX5_append_17 : decode cX5_append 17 = .ok (.getfield 18, 3) := by decide +kernel
theorem dX5_append_20 : decode cX5_append 20 = .ok (.iload_n 1, 1) := by decide +kernel
theorem dX5_append_21 : decode cX5_append 21 = .ok (.iastore, 1) := by decide +kernel
theorem dX5_append_22 : decode cX5_append 22 = .ok (.aload_n 0, 1) := by decide +kernel
theorem dX5_append_23 : decode cX5_append 23 = .ok (.getfield 15, 3) := by decide +kernel
theorem dX5_append_26 : decode cX5_append 26 = .ok (.aload_n 0, 1) := by decide +kernel
theorem dX5_append_27 : decode cX5_append 27 = .ok (.getfield 18, 3) := by decide +kernel
theorem dX5_append_30 : decode cX5_append 30 = .ok (.iload_n 2, 1) := by decide +kernel
theorem dX5_append_31 : decode cX5_append 31 = .ok (.iastore, 1) := by decide +kernel
theorem dX5_append_32 : decode cX5_append 32 = .ok (.aload_n 0, 1) := by decide +kernel
theorem dX5_append_33 : decode cX5_append 33 = .ok (.dup, 1) := by decide +kernel
theorem dX5_append_34 : decode cX5_append 34 = .ok (.getfield 18, 3) := by decide +kernel
theorem dX5_append_37 : decode cX5_append 37 = .ok (.iconst 1, 1) := by decide +kernel
theorem dX5_append_38 : decode cX5_append 38 = .ok (.iadd, 1) := by decide +kernel
theorem dX5_append_39 : decode cX5_append 39 = .ok (.putfield 18, 3) := by decide +kernel
theorem dX5_append_42 : decode cX5_append 42 = .ok (.aload_n 0, 1) := by decide +kernel
theorem dX5_append_43 : decode cX5_append 43 = .ok (.getfield 18, 3) := by decide +kernel
theorem dX5_append_46 : decode cX5_append 46 = .ok (.iconst 1, 1) := by decide +kernel
theorem dX5_append_47 : decode cX5_append 47 = .ok (.isub, 1) := by decide +kernel
theorem dX5_append_48 : decode cX5_append 48 = .ok (.ireturn, 1) := by decide +kernel
theorem dX5_has_0 : decode cX5_has 0 = .ok (.iload_n 1, 1) := by decide +kernel
theorem dX5_has_1 : decode cX5_has 1 = .ok (.ifCond .lt 15, 3) := by decide +kernel
theorem dX5_has_4 : decode cX5_has 4 = .ok (.iload_n 1, 1) := by decide +kernel
theorem dX5_has_5 : decode cX5_has 5 = .ok (.aload_n 0, 1) := by decide +kernel
theorem dX5_has_6 : decode cX5_has 6 = .ok (.getfield 18, 3) := by decide +kernel
theorem dX5_has_9 : decode cX5_has 9 = .ok (.if_icmp .ge 7, 3) := by decide +kernel
theorem dX5_has_12 : decode cX5_has 12 = .ok (.iconst 1, 1) := by decide +kernel
theorem dX5_has_13 : decode cX5_has 13 = .ok (.goto 4, 3) := by decide +kernel
theorem dX5_has_16 : decode cX5_has 16 = .ok (.iconst 0, 1) := by decide +kernel
theorem dX5_has_17 : decode cX5_has 17 = .ok (.ireturn, 1) := by decide +kernel
theorem dX5_argumentCount_0 : decode cX5_argumentCount 0 = .ok (.aload_n 0, 1) := by decide +kernel
theorem dX5_argumentCount_1 : decode cX5_argumentCount 1 = .ok (.getfield 22, 3) := by decide +kernel
theorem dX5_argumentCount_4 : decode cX5_argumentCount 4 = .ok (.iconst 1, 1) := by decide +kernel
theorem dX5_argumentCount_5 : decode cX5_argumentCount 5 = .ok (.if_icmp .eq 11, 3) := by decide +kernel
theorem dX5_argumentCount_8 : decode cX5_argumentCount 8 = .ok (.aload_n 0, 1) := by decide +kernel
theorem dX5_argumentCount_9 : decode cX5_argumentCount 9 = .ok (.getfield 22, 3) := by decide +kernel
theorem dX5_argumentCount_12 : decode cX5_argumentCount 12 = .ok (.iconst 2, 1) := by decide +kernel
theorem dX5_argumentCount_13 : decode cX5_argumentCount 13 = .ok (.if_icmp .ne 7, 3) := by decide +kernel
theorem dX5_argumentCount_16 : decode cX5_argumentCount 16 = .ok (.iconst 3, 1) := by decide +kernel
theorem dX5_argumentCount_17 : decode cX5_argumentCount 17 = .ok (.goto 4, 3) := by decide +kernel
theorem dX5_argumentCount_20 : decode cX5_argumentCount 20 = .ok (.iconst 2, 1) := by decide +kernel
theorem dX5_argumentCount_21 : decode cX5_argumentCount 21 = .ok (.ireturn, 1) := by decide +kernel

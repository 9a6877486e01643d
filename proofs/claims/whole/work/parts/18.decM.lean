theorem dX7_init_0 : decode cX7_init 0 = .ok (.aload_n 0, 1) := by decide +kernel
theorem dX7_init_1 : decode cX7_init 1 = .ok (.invokespecial 1, 3) := by decide +kernel
theorem dX7_init_4 : decode cX7_init 4 = .ok (.aload_n 0, 1) := by decide +kernel
theorem dX7_init_5 : decode cX7_init 5 = .ok (.bipush 120, 2) := by decide +kernel
theorem dX7_init_7 : decode cX7_init 7 = .ok (.newarray .int, 2) := by decide +kernel
theorem dX7_init_9 : decode cX7_init 9 = .ok (.putfield 9, 3) := by decide +kernel
theorem dX7_init_12 : decode cX7_init 12 = .ok (.aload_n 0, 1) := by decide +kernel
theorem dX7_init_13 : decode cX7_init 13 = .ok (.bipush 120, 2) := by decide +kernel
theorem dX7_init_15 : decode cX7_init 15 = .ok (.newarray .int, 2) := by decide +kernel
theorem dX7_init_17 : decode cX7_init 17 = .ok (.putfield 13, 3) := by decide +kernel
theorem dX7_init_20 : decode cX7_init 20 = .ok (.aload_n 0, 1) := by decide +kernel
theorem dX7_init_21 : decode cX7_init 21 = .ok (.iconst 4, 1) := by decide +kernel
theorem dX7_init_22 : decode cX7_init 22 = .ok (.bipush 64, 2) := by decide +kernel
theorem dX7_init_24 : decode cX7_init 24 = .ok (.multianewarray 16 2, 4) := by decide +kernel
theorem dX7_init_28 : decode cX7_init 28 = .ok (.putfield 18, 3) := by decide +kernel
theorem dX7_init_31 : decode cX7_init 31 = .ok (.aload_n 0, 1) := by decide +kernel
theorem dX7_init_32 : decode cX7_init 32 = .ok (.iconst 4, 1) := by decide +kernel
theorem dX7_init_33 : decode cX7_init 33 = .ok (.bipush 64, 2) := by decide +kernel
theorem dX7_init_35 : decode cX7_init 35 = .ok (.multianewarray 16 2, 4) := by decide +kernel
theorem dX7_init_39 : decode cX7_init 39 = .ok (.putfield 21, 3) := by decide +kernel
theorem dX7_init_42 : decode cX7_init 42 = .ok (.aload_n 0, 1) := by decide +kernel
theorem dX7_init_43 : decode cX7_init 43 = .ok (.iconst 4, 1) := by decide +kernel
theorem dX7_init_44 : decode cX7_init 44 = .ok (.newarray .int, 2) := by decide +kernel
theorem dX7_init_46 : decode cX7_init 46 = .ok (.putfield 24, 3) := by decide +kernel
theorem dX7_init_49 : decode cX7_init 49 = .ok (.aload_n 0, 1) := by decide +kernel
theorem dX7_init_50 : decode cX7_init 50 = .ok (.sipush 620, 3) := by decide +kernel
theorem dX7_init_53 : decode cX7_init 53 = .ok (.newarray .int, 2) := by decide +kernel
theorem dX7_init_55 : decode cX7_init 55 = .ok (.putfield 27, 3) := by decide +kernel
theorem dX7_init_58 : decode cX7_init 58 = .ok (.aload_n 0, 1) := by decide +kernel
theorem dX7_init_59 : decode cX7_init 59 = .ok (.sipush 620, 3) := by decide +kernel
theorem dX7_init_62 : decode cX7_init 62 = .ok (.newarray .int, 2) := by decide +kernel
theorem dX7_init_64 : decode cX7_init 64 = .ok (.putfield 30, 3) := by decide +kernel
theorem dX7_init_67 : decode cX7_init 67 = .ok (.aload_n 0, 1) := by decide +kernel
theorem dX7_init_68 : decode cX7_init 68 = .ok (.sipush 620, 3) := by decide +kernel
theorem dX7_init_71 : decode cX7_init 71 = .ok (.newarray .int, 2) := by decide +kernel
theorem dX7_init_73 : decode cX7_init 73 = .ok (.putfield 33, 3) := by decide +kernel
theorem dX7_init_76 : decode cX7_init 76 = .ok (.aload_n 0, 1) := by decide +kernel
theorem dX7_init_77 : decode cX7_init 77 = .ok (.sipush 600, 3) := by decide +kernel
theorem dX7_init_80 : decode cX7_init 80 = .ok (.newarray .int, 2) := by decide +kernel
theorem dX7_init_82 : decode cX7_init 82 = .ok (.putfield 36, 3) := by decide +kernel
theorem dX7_init_85 : decode cX7_init 85 = .ok (.aload_n 0, 1) := by decide +kernel
theorem dX7_init_86 : decode cX7_init 86 = .ok (.sipush 600, 3) := by decide +kernel
theorem dX7_init_89 : decode cX7_init 89 = .ok (.newarray .int, 2) := by decide +kernel
theorem dX7_init_91 : decode cX7_init 91 = .ok (.putfield 39, 3) := by decide +kernel
theorem dX7_init_94 : decode cX7_init 94 = .ok (.aload_n 0, 1) := by decide +kernel
theorem dX7_init_95 : decode cX7_init 95 = .ok (.iconst (-1), 1) := by decide +kernel
theorem dX7_init_96 : decode cX7_init 96 = .ok (.putfield 42, 3) := by decide +kernel
theorem dX7_init_99 : decode cX7_init 99 = .ok (.aload_n 0, 1) := by decide +kernel
theorem dX7_init_100 : decode cX7_init 100 = .ok (.bipush 8, 2) := by decide +kernel
theorem dX7_init_102 : decode cX7_init 102 = .ok (.newarray .int, 2) := by decide +kernel
theorem dX7_init_104 : decode cX7_init 104 = .ok (.putfield 46, 3) := by decide +kernel
theorem dX7_init_107 : decode cX7_init 107 = .ok (.aload_n 0, 1) := by decide +kernel
theorem dX7_init_108 : decode cX7_init 108 = .ok (.bipush 8, 2) := by decide +kernel
theorem dX7_init_110 : decode cX7_init 110 = .ok (.newarray .int, 2) := by decide +kernel
theorem dX7_init_112 : decode cX7_init 112 = .ok (.putfield 49, 3) := by decide +kernel
theorem dX7_init_115 : decode cX7_init 115 = .ok (.aload_n 0, 1) := by decide +kernel
theorem dX7_init_116 : decode cX7_init 116 = .ok (.iconst 4, 1) := by decide +kernel
theorem dX7_init_117 : decode cX7_init 117 = .ok (.newarray .int, 2) := by decide +kernel
theorem dX7_init_119 : decode cX7_init 119 = .ok (.putfield 52, 3) := by decide +kernel
theorem dX7_init_122 : decode cX7_init 122 = .ok (.aload_n 0, 1) := by decide +kernel
theorem dX7_init_123 : decode cX7_init 123 = .ok (.iload_n 1, 1) := by decide +kernel
theorem dX7_init_124 : decode cX7_init 124 = .ok (.iconst 1, 1) := by decide +kernel
theorem dX7_init_125 : decode cX7_init 125 = .ok (.if_icmp .ge 7, 3) := by decide +kernel
theorem dX7_init_128 : decode cX7_init 128 = .ok (.iconst 1, 1) := by decide +kernel
theorem dX7_init_129 : decode cX7_init 129 = .ok (.goto 15, 3) := by decide +kernel
theorem dX7_init_132 : decode cX7_init 132 = .ok (.iload_n 1, 1) := by decide +kernel
theorem dX7_init_133 : decode cX7_init 133 = .ok (.bipush 16, 2) := by decide +kernel
theorem dX7_init_135 : decode cX7_init 135 = .ok (.if_icmp .le 8, 3) := by decide +kernel
theorem dX7_init_138 : decode cX7_init 138 = .ok (.bipush 16, 2) := by decide +kernel
theorem dX7_init_140 : decode cX7_init 140 = .ok (.goto 4, 3) := by decide +kernel
theorem dX7_init_143 : decode cX7_init 143 = .ok (.iload_n 1, 1) := by decide +kernel
theorem dX7_init_144 : decode cX7_init 144 = .ok (.putfield 55, 3) := by decide +kernel
theorem dX7_init_147 : decode cX7_init 147 = .ok (.return_, 1) := by decide +kernel
theorem dX7_record_0 : decode cX7_record 0 = .ok (.aload_n 0, 1) := by decide +kernel
theorem dX7_record_1 : decode cX7_record 1 = .ok (.getfield 58, 3) := by decide +kernel
theorem dX7_record_4 : decode cX7_record 4 = .ok (.bipush 120, 2) := by decide +kernel
theorem dX7_record_6 : decode cX7_record 6 = .ok (.if_icmp .ne 6, 3) := by decide +kernel
theorem dX7_record_9 : decode cX7_record 9 = .ok (.bipush (-3), 2) := by decide +kernel
theorem dX7_record_11 : decode cX7_record 11 = .ok (.ireturn, 1) := by decide +kernel
theorem dX7_record_12 : decode cX7_record 12 = .ok (.aload_n 0, 1) := by decide +kernel
theorem dX7_record_13 : decode cX7_record 13 = .ok (.getfield 9, 3) := by decide +kernel
theorem dX7_record_16 : decode cX7_record 16 = .ok (.aload_n 0, 1) := by decide +kernel
theorem dX7_record_17 : decode cX7_record 17 = .ok (.getfield 58, 3) := by decide +kernel
theorem dX7_record_20 : decode cX7_record 20 = .ok (.iload_n 1, 1) := by decide +kernel
theorem dX7_record_21 : decode cX7_record 21 = .ok (.iastore, 1) := by decide +kernel
theorem dX7_record_22 : decode cX7_record 22 = .ok (.aload_n 0, 1) := by decide +kernel
theorem dX7_record_23 : decode cX7_record 23 = .ok (.getfield 13, 3) := by decide +kernel
theorem dX7_record_26 : decode cX7_record 26 = .ok (.aload_n 0, 1) := by decide +kernel
theorem dX7_record_27 : decode cX7_record 27 = .ok (.getfield 58, 3) := by decide +kernel
theorem dX7_record_30 : decode cX7_record 30 = .ok (.iload_n 2, 1) := by decide +kernel
theorem dX7_record_31 : decode cX7_record 31 = .ok (.iastore, 1) := by decide +kernel
theorem dX7_record_32 : decode cX7_record 32 = .ok (.aload_n 0, 1) := by decide +kernel
theorem dX7_record_33 : decode cX7_record 33 = .ok (.dup, 1) := by decide +kernel
theorem dX7_record_34 : decode cX7_record 34 = .ok (.getfield 58, 3) := by decide +kernel
theorem dX7_record_37 : decode cX7_record 37 = .ok (.iconst 1, 1) := by decide +kernel
theorem dX7_record_38 : decode cX7_record 38 = .ok (.iadd, 1) := by decide +kernel
theorem dX7_record_39 : decode cX7_record 39 = .ok (.putfield 58, 3) := by decide +kernel
theorem dX7_record_42 : decode cX7_record 42 = .ok (.aload_n 0, 1) := by decide +kernel
theorem dX7_record_43 : decode cX7_record 43 = .ok (.getfield 58, 3) := by decide +kernel
theorem dX7_record_46 : decode cX7_record 46 = .ok (.iconst 1, 1) := by decide +kernel
theorem dX7_record_47 : decode cX7_record 47 = .ok (.isub, 1) := by decide +kernel
theorem dX7_record_48 : decode cX7_record 48 = .ok (.ireturn, 1) := by decide +kernel
theorem dX7_wipe_0 : decode cX7_wipe 0 = .ok (.aload_n 0, 1) := by decide +kernel
theorem dX7_wipe_1 : decode cX7_wipe 1 = .ok (.getfield 58, 3) := by decide +kernel
theorem dX7_wipe_4 : decode cX7_wipe 4 = .ok (.istore_n 1, 1) := by decide +kernel
theorem dX7_wipe_5 : decode cX7_wipe 5 = .ok (.aload_n 0, 1) := by decide +kernel
theorem dX7_wipe_6 : decode cX7_wipe 6 = .ok (.iconst 0, 1) := by decide +kernel
theorem dX7_wipe_7 : decode cX7_wipe 7 = .ok (.putfield 58, 3) := by decide +kernel
theorem dX7_wipe_10 : decode cX7_wipe 10 = .ok (.iload_n 1, 1) := by decide +kernel
theorem dX7_wipe_11 : decode cX7_wipe 11 = .ok (.ireturn, 1) := by decide +kernel
theorem dX7_is_0 : decode cX7_is 0 = .ok (.iload_n 0, 1) := by decide +kernel
theorem dX7_is_1 : decode cX7_is 1 = .ok (.ifCond .lt 12, 3) := by decide +kernel
theorem dX7_is_4 : decode cX7_is 4 = .ok (.iload_n 0, 1) := by decide +kernel
theorem dX7_is_5 : decode cX7_is 5 = .ok (.iconst 4, 1) := by decide +kernel
theorem dX7_is_6 : decode cX7_is 6 = .ok (.if_icmp .ge 7, 3) := by decide +kernel
theorem dX7_is_9 : decode cX7_is 9 = .ok (.iconst 1, 1) := by decide +kernel
theorem dX7_is_10 : decode cX7_is 10 = .ok (.goto 4, 3) := by decide +kernel
theorem dX7_is_13 : decode cX7_is 13 = .ok (.iconst 0, 1) := by decide +kernel
theorem dX7_is_14 : decode cX7_is 14 = .ok (.ireturn, 1) := by decide +kernel
theorem dX7_code_0 : decode cX7_code 0 = .ok (.iload_n 1, 1) := by decide +kernel
theorem dX7_code_1 : decode cX7_code 1 = .ok (.invokestatic 61, 3) := by decide +kernel
theorem dX7_code_4 : decode cX7_code 4 = .ok (.ifCond .ne 5, 3) := by decide +kernel
theorem dX7_code_7 : decode cX7_code 7 = .ok (.iconst (-1), 1) := by decide +kernel
theorem dX7_code_8 : decode cX7_code 8 = .ok (.ireturn, 1) := by decide +kernel
theorem dX7_code_9 : decode cX7_code 9 = .ok (.aload_n 0, 1) := by decide +kernel
theorem dX7_code_10 : decode cX7_code 10 = .ok (.getfield 24, 3) := by decide +kernel
theorem dX7_code_13 : decode cX7_code 13 = .ok (.iload_n 1, 1) := by decide +kernel
theorem dX7_code_14 : decode cX7_code 14 = .ok (.iaload, 1) := by decide +kernel
theorem dX7_code_15 : decode cX7_code 15 = .ok (.bipush 64, 2) := by decide +kernel
theorem dX7_code_17 : decode cX7_code 17 = .ok (.if_icmp .ne 6, 3) := by decide +kernel
theorem dX7_code_20 : decode cX7_code 20 = .ok (.bipush (-3), 2) := by decide +kernel
theorem dX7_code_22 : decode cX7_code 22 = .ok (.ireturn, 1) := by decide +kernel
theorem dX7_code_23 : decode cX7_code 23 = .ok (.aload_n 0, 1) := by decide +kernel
theorem dX7_code_24 : decode cX7_code 24 = .ok (.getfield 18, 3) := by decide +kernel
theorem dX7_code_27 : decode cX7_code 27 = .ok (.iload_n 1, 1) := by decide +kernel
theorem dX7_code_28 : decode cX7_code 28 = .ok (.aaload, 1) := by decide +kernel
theorem dX7_code_29 : decode cX7_code 29 = .ok (.aload_n 0, 1) := by decide +kernel
theorem dX7_code_30 : decode cX7_code 30 = .ok (.getfield 24, 3) := by decide +kernel
theorem dX7_code_33 : decode cX7_code 33 = .ok (.iload_n 1, 1) := by decide +kernel
theorem dX7_code_34 : decode cX7_code 34 = .ok (.iaload, 1) := by decide +kernel
theorem dX7_code_35 : decode cX7_code 35 = .ok (.iload_n 2, 1) := by decide +kernel
theorem dX7_code_36 : decode cX7_code 36 = .ok (.iastore, 1) := by decide +kernel
theorem dX7_code_37 : decode cX7_code 37 = .ok (.aload_n 0, 1) := by decide +kernel
theorem dX7_code_38 : decode cX7_code 38 = .ok (.getfield 21, 3) := by decide +kernel
theorem dX7_code_41 : decode cX7_code 41 = .ok (.iload_n 1, 1) := by decide +kernel
theorem dX7_code_42 : decode cX7_code 42 = .ok (.aaload, 1) := by decide +kernel
theorem dX7_code_43 : decode cX7_code 43 = .ok (.aload_n 0, 1) := by decide +kernel
theorem dX7_code_44 : decode cX7_code 44 = .ok (.getfield 24, 3) := by decide +kernel
theorem dX7_code_47 : decode cX7_code 47 = .ok (.iload_n 1, 1) := by decide +kernel
theorem dX7_code_48 : decode cX7_code 48 = .ok (.iaload, 1) := by decide +kernel
theorem dX7_code_49 : decode cX7_code 49 = .ok (.iload_n 3, 1) := by decide +kernel
theorem dX7_code_50 : decode cX7_code 50 = .ok (.iastore, 1) := by decide +kernel
theorem dX7_code_51 : decode cX7_code 51 = .ok (.aload_n 0, 1) := by decide +kernel
theorem dX7_code_52 : decode cX7_code 52 = .ok (.getfield 24, 3) := by decide +kernel
theorem dX7_code_55 : decode cX7_code 55 = .ok (.iload_n 1, 1) := by decide +kernel
theorem dX7_code_56 : decode cX7_code 56 = .ok (.dup2, 1) := by decide +kernel
theorem dX7_code_57 : decode cX7_code 57 = .ok (.iaload, 1) := by decide +kernel
theorem dX7_code_58 : decode cX7_code 58 = .ok (.iconst 1, 1) := by decide +kernel
theorem dX7_code_59 : decode cX7_code 59 = .ok (.iadd, 1) := by decide +kernel
theorem dX7_code_60 : decode cX7_code 60 = .ok (.iastore, 1) := by decide +kernel
theorem dX7_code_61 : decode cX7_code 61 = .ok (.aload_n 0, 1) := by decide +kernel
theorem dX7_code_62 : decode cX7_code 62 = .ok (.getfield 24, 3) := by decide +kernel
theorem dX7_code_65 : decode cX7_code 65 = .ok (.iload_n 1, 1) := by decide +kernel
theorem dX7_code_66 : decode cX7_code 66 = .ok (.iaload, 1) := by decide +kernel
theorem dX7_code_67 : decode cX7_code 67 = .ok (.iconst 1, 1) := by decide +kernel
theorem dX7_code_68 : decode cX7_code 68 = .ok (.isub, 1) := by decide +kernel
theorem dX7_code_69 : decode cX7_code 69 = .ok (.ireturn, 1) := by decide +kernel
theorem dX7_clear_0 : decode cX7_clear 0 = .ok (.iload_n 1, 1) := by decide +kernel
theorem dX7_clear_1 : decode cX7_clear 1 = .ok (.invokestatic 61, 3) := by decide +kernel
theorem dX7_clear_4 : decode cX7_clear 4 = .ok (.ifCond .ne 5, 3) := by decide +kernel
theorem dX7_clear_7 : decode cX7_clear 7 = .ok (.iconst (-1), 1) := by decide +kernel
theorem dX7_clear_8 : decode cX7_clear 8 = .ok (.ireturn, 1) := by decide +kernel
theorem dX7_clear_9 : decode cX7_clear 9 = .ok (.aload_n 0, 1) := by decide +kernel
theorem dX7_clear_10 : decode cX7_clear 10 = .ok (.getfield 24, 3) := by decide +kernel
theorem dX7_clear_13 : decode cX7_clear 13 = .ok (.iload_n 1, 1) := by decide +kernel
theorem dX7_clear_14 : decode cX7_clear 14 = .ok (.iaload, 1) := by decide +kernel
theorem dX7_clear_15 : decode cX7_clear 15 = .ok (.istore_n 2, 1) := by decide +kernel
theorem dX7_clear_16 : decode cX7_clear 16 = .ok (.aload_n 0, 1) := by decide +kernel
theorem dX7_clear_17 : decode cX7_clear 17 = .ok (.getfield 24, 3) := by decide +kernel
theorem dX7_clear_20 : decode cX7_clear 20 = .ok (.iload_n 1, 1) := by decide +kernel
theorem dX7_clear_21 : decode cX7_clear 21 = .ok (.iconst 0, 1) := by decide +kernel
theorem dX7_clear_22 : decode cX7_clear 22 = .ok (.iastore, 1) := by decide +kernel
theorem dX7_clear_23 : decode cX7_clear 23 = .ok (.iload_n 2, 1) := by decide +kernel
theorem dX7_clear_24 : decode cX7_clear 24 = .ok (.ireturn, 1) := by decide +kernel
theorem dX7_isBad_0 : decode cX7_isBad 0 = .ok (.aload_n 0, 1) := by decide +kernel
theorem dX7_isBad_1 : decode cX7_isBad 1 = .ok (.getfield 18, 3) := by decide +kernel
theorem dX7_isBad_4 : decode cX7_isBad 4 = .ok (.iload_n 1, 1) := by decide +kernel
theorem dX7_isBad_5 : decode cX7_isBad 5 = .ok (.aaload, 1) := by decide +kernel
theorem dX7_isBad_6 : decode cX7_isBad 6 = .ok (.iload_n 2, 1) := by decide +kernel
theorem dX7_isBad_7 : decode cX7_isBad 7 = .ok (.iaload, 1) := by decide +kernel
theorem dX7_isBad_8 : decode cX7_isBad 8 = .ok (.istore_n 3, 1) := by decide +kernel
theorem dX7_isBad_9 : decode cX7_isBad 9 = .ok (.aload_n 0, 1) := by decide +kernel
theorem dX7_isBad_10 : decode cX7_isBad 10 = .ok (.getfield 21, 3) := by decide +kernel
theorem dX7_isBad_13 : decode cX7_isBad 13 = .ok (.iload_n 1, 1) := by decide +kernel
theorem dX7_isBad_14 : decode cX7_isBad 14 = .ok (.aaload, 1) := by decide +kernel
theorem dX7_isBad_15 : decode cX7_isBad 15 = .ok (.iload_n 2, 1) := by decide +kernel
theorem dX7_isBad_16 : decode cX7_isBad 16 = .ok (.iaload, 1) := by decide +kernel
theorem dX7_isBad_17 : decode cX7_isBad 17 = .ok (.istore 4, 2) := by decide +kernel
theorem dX7_isBad_19 : decode cX7_isBad 19 = .ok (.iload_n 3, 1) := by decide +kernel
theorem dX7_isBad_20 : decode cX7_isBad 20 = .ok (.ifCond .lt 30, 3) := by decide +kernel
theorem dX7_isBad_23 : decode cX7_isBad 23 = .ok (.iload_n 3, 1) := by decide +kernel
theorem dX7_isBad_24 : decode cX7_isBad 24 = .ok (.bipush 18, 2) := by decide +kernel
theorem dX7_isBad_26 : decode cX7_isBad 26 = .ok (.if_icmp .gt 24, 3) := by decide +kernel
theorem dX7_isBad_29 : decode cX7_isBad 29 = .ok (.iload_n 3, 1) := by decide +kernel
theorem dX7_isBad_30 : decode cX7_isBad 30 = .ok (.bipush 16, 2) := by decide +kernel
theorem dX7_isBad_32 : decode cX7_isBad 32 = .ok (.if_icmp .ne 7, 3) := by decide +kernel
theorem dX7_isBad_35 : decode cX7_isBad 35 = .ok (.iload_n 1, 1) := by decide +kernel
theorem dX7_isBad_36 : decode cX7_isBad 36 = .ok (.ifCond .ne 14, 3) := by decide +kernel
theorem dX7_isBad_39 : decode cX7_isBad 39 = .ok (.iload_n 3, 1) := by decide +kernel
theorem dX7_isBad_40 : decode cX7_isBad 40 = .ok (.bipush 18, 2) := by decide +kernel
theorem dX7_isBad_42 : decode cX7_isBad 42 = .ok (.if_icmp .ne 10, 3) := by decide +kernel
theorem dX7_isBad_45 : decode cX7_isBad 45 = .ok (.iload_n 1, 1) := by decide +kernel
theorem dX7_isBad_46 : decode cX7_isBad 46 = .ok (.iconst 3, 1) := by decide +kernel
theorem dX7_isBad_47 : decode cX7_isBad 47 = .ok (.if_icmp .eq 5, 3) := by decide +kernel
theorem dX7_isBad_50 : decode cX7_isBad 50 = .ok (.iconst 1, 1) := by decide +kernel
theorem dX7_isBad_51 : decode cX7_isBad 51 = .ok (.ireturn, 1) := by decide +kernel
theorem dX7_isBad_52 : decode cX7_isBad 52 = .ok (.iload_n 3, 1) := by decide +kernel
theorem dX7_isBad_53 : decode cX7_isBad 53 = .ok (.iconst 1, 1) := by decide +kernel
theorem dX7_isBad_54 : decode cX7_isBad 54 = .ok (.if_icmp .ne 24, 3) := by decide +kernel
theorem dX7_isBad_57 : decode cX7_isBad 57 = .ok (.iload 4, 2) := by decide +kernel
theorem dX7_isBad_59 : decode cX7_isBad 59 = .ok (.ifCond .lt 13, 3) := by decide +kernel
theorem dX7_isBad_62 : decode cX7_isBad 62 = .ok (.iload 4, 2) := by decide +kernel
theorem dX7_isBad_64 : decode cX7_isBad 64 = .ok (.getstatic 65, 3) := by decide +kernel
theorem dX7_isBad_67 : decode cX7_isBad 67 = .ok (.iload_n 1, 1) := by decide +kernel
theorem dX7_isBad_68 : decode cX7_isBad 68 = .ok (.iaload, 1) := by decide +kernel
theorem dX7_isBad_69 : decode cX7_isBad 69 = .ok (.if_icmp .lt 7, 3) := by decide +kernel
theorem dX7_isBad_72 : decode cX7_isBad 72 = .ok (.iconst 1, 1) := by decide +kernel
theorem dX7_isBad_73 : decode cX7_isBad 73 = .ok (.goto 4, 3) := by decide +kernel
theorem dX7_isBad_76 : decode cX7_isBad 76 = .ok (.iconst 0, 1) := by decide +kernel
theorem dX7_isBad_77 : decode cX7_isBad 77 = .ok (.ireturn, 1) := by decide +kernel
theorem dX7_isBad_78 : decode cX7_isBad 78 = .ok (.iload_n 3, 1) := by decide +kernel
theorem dX7_isBad_79 : decode cX7_isBad 79 = .ok (.iconst 2, 1) := by decide +kernel
theorem dX7_isBad_80 : decode cX7_isBad 80 = .ok (.if_icmp .eq 8, 3) := by decide +kernel
theorem dX7_isBad_83 : decode cX7_isBad 83 = .ok (.iload_n 3, 1) := by decide +kernel
theorem dX7_isBad_84 : decode cX7_isBad 84 = .ok (.iconst 3, 1) := by decide +kernel
theorem dX7_isBad_85 : decode cX7_isBad 85 = .ok (.if_icmp .ne 20, 3) := by decide +kernel
theorem dX7_isBad_88 : decode cX7_isBad 88 = .ok (.iload 4, 2) := by decide +kernel
theorem dX7_isBad_90 : decode cX7_isBad 90 = .ok (.ifCond .lt 9, 3) := by decide +kernel
theorem dX7_isBad_93 : decode cX7_isBad 93 = .ok (.iload 4, 2) := by decide +kernel
theorem dX7_isBad_95 : decode cX7_isBad 95 = .ok (.iconst 3, 1) := by decide +kernel
theorem dX7_isBad_96 : decode cX7_isBad 96 = .ok (.if_icmp .le 7, 3) := by decide +kernel
theorem dX7_isBad_99 : decode cX7_isBad 99 = .ok (.iconst 1, 1) := by decide +kernel
theorem dX7_isBad_100 : decode cX7_isBad 100 = .ok (.goto 4, 3) := by decide +kernel
theorem dX7_isBad_103 : decode cX7_isBad 103 = .ok (.iconst 0, 1) := by decide +kernel
theorem dX7_isBad_104 : decode cX7_isBad 104 = .ok (.ireturn, 1) := by decide +kernel
theorem dX7_isBad_105 : decode cX7_isBad 105 = .ok (.iload_n 3, 1) := by decide +kernel
theorem dX7_isBad_106 : decode cX7_isBad 106 = .ok (.bipush 14, 2) := by decide +kernel
theorem dX7_isBad_108 : decode cX7_isBad 108 = .ok (.if_icmp .eq 9, 3) := by decide +kernel
theorem dX7_isBad_111 : decode cX7_isBad 111 = .ok (.iload_n 3, 1) := by decide +kernel
theorem dX7_isBad_112 : decode cX7_isBad 112 = .ok (.bipush 15, 2) := by decide +kernel
theorem dX7_isBad_114 : decode cX7_isBad 114 = .ok (.if_icmp .ne 23, 3) := by decide +kernel
theorem dX7_isBad_117 : decode cX7_isBad 117 = .ok (.iload 4, 2) := by decide +kernel
theorem dX7_isBad_119 : decode cX7_isBad 119 = .ok (.ifCond .lt 14, 3) := by decide +kernel
theorem dX7_isBad_122 : decode cX7_isBad 122 = .ok (.iload 4, 2) := by decide +kernel
theorem dX7_isBad_124 : decode cX7_isBad 124 = .ok (.aload_n 0, 1) := by decide +kernel
theorem dX7_isBad_125 : decode cX7_isBad 125 = .ok (.getfield 24, 3) := by decide +kernel
theorem dX7_isBad_128 : decode cX7_isBad 128 = .ok (.iload_n 1, 1) := by decide +kernel
theorem dX7_isBad_129 : decode cX7_isBad 129 = .ok (.iaload, 1) := by decide +kernel
theorem dX7_isBad_130 : decode cX7_isBad 130 = .ok (.if_icmp .lt 7, 3) := by decide +kernel
theorem dX7_isBad_133 : decode cX7_isBad 133 = .ok (.iconst 1, 1) := by decide +kernel
theorem dX7_isBad_134 : decode cX7_isBad 134 = .ok (.goto 4, 3) := by decide +kernel
theorem dX7_isBad_137 : decode cX7_isBad 137 = .ok (.iconst 0, 1) := by decide +kernel
theorem dX7_isBad_138 : decode cX7_isBad 138 = .ok (.ireturn, 1) := by decide +kernel
theorem dX7_needs_0 : decode cX7_needs 0 = .ok (.iload_n 1, 1) := by decide +kernel
theorem dX7_needs_1 : decode cX7_needs 1 = .ok (.iconst 5, 1) := by decide +kernel
theorem dX7_needs_2 : decode cX7_needs 2 = .ok (.if_icmp .eq 21, 3) := by decide +kernel
theorem dX7_needs_5 : decode cX7_needs 5 = .ok (.iload_n 1, 1) := by decide +kernel
theorem dX7_needs_6 : decode cX7_needs 6 = .ok (.bipush 7, 2) := by decide +kernel
theorem dX7_needs_8 : decode cX7_needs 8 = .ok (.if_icmp .lt 9, 3) := by decide +kernel
theorem dX7_needs_11 : decode cX7_needs 11 = .ok (.iload_n 1, 1) := by decide +kernel
theorem dX7_needs_12 : decode cX7_needs 12 = .ok (.bipush 13, 2) := by decide +kernel
theorem dX7_needs_14 : decode cX7_needs 14 = .ok (.if_icmp .le 9, 3) := by decide +kernel
theorem dX7_needs_17 : decode cX7_needs 17 = .ok (.iload_n 1, 1) := by decide +kernel
theorem dX7_needs_18 : decode cX7_needs 18 = .ok (.bipush 16, 2) := by decide +kernel
theorem dX7_needs_20 : decode cX7_needs 20 = .ok (.if_icmp .ne 5, 3) := by decide +kernel
theorem dX7_needs_23 : decode cX7_needs 23 = .ok (.iconst 2, 1) := by decide +kernel
theorem dX7_needs_24 : decode cX7_needs 24 = .ok (.ireturn, 1) := by decide +kernel
theorem dX7_needs_25 : decode cX7_needs 25 = .ok (.iload_n 1, 1) := by decide +kernel
theorem dX7_needs_26 : decode cX7_needs 26 = .ok (.iconst 3, 1) := by decide +kernel
theorem dX7_needs_27 : decode cX7_needs 27 = .ok (.if_icmp .eq 20, 3) := by decide +kernel
theorem dX7_needs_30 : decode cX7_needs 30 = .ok (.iload_n 1, 1) := by decide +kernel
theorem dX7_needs_31 : decode cX7_needs 31 = .ok (.iconst 4, 1) := by decide +kernel
theorem dX7_needs_32 : decode cX7_needs 32 = .ok (.if_icmp .eq 15, 3) := by decide +kernel
theorem dX7_needs_35 : decode cX7_needs 35 = .ok (.iload_n 1, 1) := by decide +kernel
theorem dX7_needs_36 : decode cX7_needs 36 = .ok (.bipush 6, 2) := by decide +kernel
theorem dX7_needs_38 : decode cX7_needs 38 = .ok (.if_icmp .eq 9, 3) := by decide +kernel
theorem dX7_needs_41 : decode cX7_needs 41 = .ok (.iload_n 1, 1) := by decide +kernel
theorem dX7_needs_42 : decode cX7_needs 42 = .ok (.bipush 15, 2) := by decide +kernel
theorem dX7_needs_44 : decode cX7_needs 44 = .ok (.if_icmp .ne 5, 3) := by decide +kernel
theorem dX7_needs_47 : decode cX7_needs 47 = .ok (.iconst 1, 1) := by decide +kernel
theorem dX7_needs_48 : decode cX7_needs 48 = .ok (.ireturn, 1) := by decide +kernel
theorem dX7_needs_49 : decode cX7_needs 49 = .ok (.iload_n 1, 1) := by decide +kernel
theorem dX7_needs_50 : decode cX7_needs 50 = .ok (.bipush 17, 2) := by decide +kernel
theorem dX7_needs_52 : decode cX7_needs 52 = .ok (.if_icmp .ne 11, 3) := by decide +kernel
theorem dX7_needs_55 : decode cX7_needs 55 = .ok (.iload_n 0, 1) := by decide +kernel
theorem dX7_needs_56 : decode cX7_needs 56 = .ok (.ifCond .eq 7, 3) := by decide +kernel
theorem dX7_needs_59 : decode cX7_needs 59 = .ok (.iconst 1, 1) := by decide +kernel
theorem dX7_needs_60 : decode cX7_needs 60 = .ok (.goto 4, 3) := by decide +kernel
theorem dX7_needs_63 : decode cX7_needs 63 = .ok (.iconst 0, 1) := by decide +kernel
theorem dX7_needs_64 : decode cX7_needs 64 = .ok (.ireturn, 1) := by decide +kernel
theorem dX7_grows_0 : decode cX7_grows 0 = .ok (.iload_n 0, 1) := by decide +kernel
theorem dX7_grows_1 : decode cX7_grows 1 = .ok (.iconst 2, 1) := by decide +kernel
theorem dX7_grows_2 : decode cX7_grows 2 = .ok (.if_icmp .le 8, 3) := by decide +kernel
theorem dX7_grows_5 : decode cX7_grows 5 = .ok (.iload_n 0, 1) := by decide +kernel
theorem dX7_grows_6 : decode cX7_grows 6 = .ok (.iconst 4, 1) := by decide +kernel
theorem dX7_grows_7 : decode cX7_grows 7 = .ok (.if_icmp .ne 5, 3) := by decide +kernel
theorem dX7_grows_10 : decode cX7_grows 10 = .ok (.iconst 1, 1) := by decide +kernel
theorem dX7_grows_11 : decode cX7_grows 11 = .ok (.ireturn, 1) := by decide +kernel
theorem dX7_grows_12 : decode cX7_grows 12 = .ok (.iload_n 0, 1) := by decide +kernel
theorem dX7_grows_13 : decode cX7_grows 13 = .ok (.iconst 3, 1) := by decide +kernel
theorem dX7_grows_14 : decode cX7_grows 14 = .ok (.if_icmp .eq 27, 3) := by decide +kernel
theorem dX7_grows_17 : decode cX7_grows 17 = .ok (.iload_n 0, 1) := by decide +kernel
theorem dX7_grows_18 : decode cX7_grows 18 = .ok (.bipush 6, 2) := by decide +kernel
theorem dX7_grows_20 : decode cX7_grows 20 = .ok (.if_icmp .eq 21, 3) := by decide +kernel
theorem dX7_grows_23 : decode cX7_grows 23 = .ok (.iload_n 0, 1) := by decide +kernel
theorem dX7_grows_24 : decode cX7_grows 24 = .ok (.bipush 7, 2) := by decide +kernel
theorem dX7_grows_26 : decode cX7_grows 26 = .ok (.if_icmp .lt 9, 3) := by decide +kernel
theorem dX7_grows_29 : decode cX7_grows 29 = .ok (.iload_n 0, 1) := by decide +kernel
theorem dX7_grows_30 : decode cX7_grows 30 = .ok (.bipush 13, 2) := by decide +kernel
theorem dX7_grows_32 : decode cX7_grows 32 = .ok (.if_icmp .le 9, 3) := by decide +kernel
theorem dX7_grows_35 : decode cX7_grows 35 = .ok (.iload_n 0, 1) := by decide +kernel
theorem dX7_grows_36 : decode cX7_grows 36 = .ok (.bipush 15, 2) := by decide +kernel
theorem dX7_grows_38 : decode cX7_grows 38 = .ok (.if_icmp .ne 5, 3) := by decide +kernel
theorem dX7_grows_41 : decode cX7_grows 41 = .ok (.iconst (-1), 1) := by decide +kernel
theorem dX7_grows_42 : decode cX7_grows 42 = .ok (.ireturn, 1) := by decide +kernel
theorem dX7_grows_43 : decode cX7_grows 43 = .ok (.iload_n 0, 1) := by decide +kernel
theorem dX7_grows_44 : decode cX7_grows 44 = .ok (.bipush 16, 2) := by decide +kernel
theorem dX7_grows_46 : decode cX7_grows 46 = .ok (.if_icmp .ne 8, 3) := by decide +kernel
theorem dX7_grows_49 : decode cX7_grows 49 = .ok (.bipush (-2), 2) := by decide +kernel
theorem dX7_grows_51 : decode cX7_grows 51 = .ok (.goto 4, 3) := by decide +kernel
theorem dX7_grows_54 : decode cX7_grows 54 = .ok (.iconst 0, 1) := by decide +kernel
theorem dX7_grows_55 : decode cX7_grows 55 = .ok (.ireturn, 1) := by decide +kernel
theorem dX7_firstWrong_0 : decode cX7_firstWrong 0 = .ok (.aload_n 0, 1) := by decide +kernel
theorem dX7_firstWrong_1 : decode cX7_firstWrong 1 = .ok (.getfield 24, 3) := by decide +kernel
theorem dX7_firstWrong_4 : decode cX7_firstWrong 4 = .ok (.iload_n 1, 1) := by decide +kernel
theorem dX7_firstWrong_5 : decode cX7_firstWrong 5 = .ok (.iaload, 1) := by decide +kernel
theorem dX7_firstWrong_6 : decode cX7_firstWrong 6 = .ok (.istore_n 2, 1) := by decide +kernel
theorem dX7_firstWrong_7 : decode cX7_firstWrong 7 = .ok (.iload_n 2, 1) := by decide +kernel
theorem dX7_firstWrong_8 : decode cX7_firstWrong 8 = .ok (.newarray .int, 2) := by decide +kernel
theorem dX7_firstWrong_10 : decode cX7_firstWrong 10 = .ok (.astore_n 3, 1) := by decide +kernel
theorem dX7_firstWrong_11 : decode cX7_firstWrong 11 = .ok (.iconst 0, 1) := by decide +kernel
theorem dX7_firstWrong_12 : decode cX7_firstWrong 12 = .ok (.istore 4, 2) := by decide +kernel
theorem dX7_firstWrong_14 : decode cX7_firstWrong 14 = .ok (.iload 4, 2) := by decide +kernel
theorem dX7_firstWrong_16 : decode cX7_firstWrong 16 = .ok (.iload_n 2, 1) := by decide +kernel
theorem dX7_firstWrong_17 : decode cX7_firstWrong 17 = .ok (.if_icmp .ge 28, 3) := by decide +kernel
theorem dX7_firstWrong_20 : decode cX7_firstWrong 20 = .ok (.aload_n 3, 1) := by decide +kernel
theorem dX7_firstWrong_21 : decode cX7_firstWrong 21 = .ok (.iload 4, 2) := by decide +kernel
theorem dX7_firstWrong_23 : decode cX7_firstWrong 23 = .ok (.aload_n 0, 1) := by decide +kernel
theorem dX7_firstWrong_24 : decode cX7_firstWrong 24 = .ok (.iload_n 1, 1) := by decide +kernel
theorem dX7_firstWrong_25 : decode cX7_firstWrong 25 = .ok (.iload 4, 2) := by decide +kernel
theorem dX7_firstWrong_27 : decode cX7_firstWrong 27 = .ok (.invokevirtual 68, 3) := by decide +kernel
theorem dX7_firstWrong_30 : decode cX7_firstWrong 30 = .ok (.ifCond .eq 7, 3) := by decide +kernel
theorem dX7_firstWrong_33 : decode cX7_firstWrong 33 = .ok (.iconst 1, 1) := by decide +kernel
theorem dX7_firstWrong_34 : decode cX7_firstWrong 34 = .ok (.goto 4, 3) := by decide +kernel
theorem dX7_firstWrong_37 : decode cX7_firstWrong 37 = .ok (.iconst 0, 1) := by decide +kernel
theorem dX7_firstWrong_38 : decode cX7_firstWrong 38 = .ok (.iastore, 1) := by decide +kernel
theorem dX7_firstWrong_39 : decode cX7_firstWrong 39 = .ok (.iinc 4 1, 3) := by decide +kernel
theorem dX7_firstWrong_42 : decode cX7_firstWrong 42 = .ok (.goto (-28), 3) := by decide +kernel
theorem dX7_firstWrong_45 : decode cX7_firstWrong 45 = .ok (.bipush 9, 2) := by decide +kernel
theorem dX7_firstWrong_47 : decode cX7_firstWrong 47 = .ok (.iload_n 2, 1) := by decide +kernel
theorem dX7_firstWrong_48 : decode cX7_firstWrong 48 = .ok (.imul, 1) := by decide +kernel
theorem dX7_firstWrong_49 : decode cX7_firstWrong 49 = .ok (.newarray .int, 2) := by decide +kernel
theorem dX7_firstWrong_51 : decode cX7_firstWrong 51 = .ok (.astore 4, 2) := by decide +kernel
theorem dX7_firstWrong_53 : decode cX7_firstWrong 53 = .ok (.aload 4, 2) := by decide +kernel
theorem dX7_firstWrong_55 : decode cX7_firstWrong 55 = .ok (.iconst 0, 1) := by decide +kernel
theorem dX7_firstWrong_56 : decode cX7_firstWrong 56 = .ok (.iconst 1, 1) := by decide +kernel
theorem dX7_firstWrong_57 : decode cX7_firstWrong 57 = .ok (.iastore, 1) := by decide +kernel
theorem dX7_firstWrong_58 : decode cX7_firstWrong 58 = .ok (.iconst 1, 1) := by decide +kernel
theorem dX7_firstWrong_59 : decode cX7_firstWrong 59 = .ok (.istore 5, 2) := by decide +kernel
theorem dX7_firstWrong_61 : decode cX7_firstWrong 61 = .ok (.iload 5, 2) := by decide +kernel
theorem dX7_firstWrong_63 : decode cX7_firstWrong 63 = .ok (.ifCond .eq 294, 3) := by decide +kernel
theorem dX7_firstWrong_66 : decode cX7_firstWrong 66 = .ok (.iconst 0, 1) := by decide +kernel
theorem dX7_firstWrong_67 : decode cX7_firstWrong 67 = .ok (.istore 5, 2) := by decide +kernel
theorem dX7_firstWrong_69 : decode cX7_firstWrong 69 = .ok (.iconst 0, 1) := by decide +kernel
theorem dX7_firstWrong_70 : decode cX7_firstWrong 70 = .ok (.istore 6, 2) := by decide +kernel
theorem dX7_firstWrong_72 : decode cX7_firstWrong 72 = .ok (.iload 6, 2) := by decide +kernel
theorem dX7_firstWrong_74 : decode cX7_firstWrong 74 = .ok (.iload_n 2, 1) := by decide +kernel
theorem dX7_firstWrong_75 : decode cX7_firstWrong 75 = .ok (.if_icmp .ge 279, 3) := by decide +kernel
theorem dX7_firstWrong_78 : decode cX7_firstWrong 78 = .ok (.iconst 0, 1) := by decide +kernel
theorem dX7_firstWrong_79 : decode cX7_firstWrong 79 = .ok (.istore 7, 2) := by decide +kernel
theorem dX7_firstWrong_81 : decode cX7_firstWrong 81 = .ok (.iconst 0, 1) := by decide +kernel
theorem dX7_firstWrong_82 : decode cX7_firstWrong 82 = .ok (.istore 8, 2) := by decide +kernel
theorem dX7_firstWrong_84 : decode cX7_firstWrong 84 = .ok (.iload 8, 2) := by decide +kernel
theorem dX7_firstWrong_86 : decode cX7_firstWrong 86 = .ok (.bipush 9, 2) := by decide +kernel
theorem dX7_firstWrong_88 : decode cX7_firstWrong 88 = .ok (.if_icmp .ge 260, 3) := by decide +kernel
theorem dX7_firstWrong_91 : decode cX7_firstWrong 91 = .ok (.aload 4, 2) := by decide +kernel
theorem dX7_firstWrong_93 : decode cX7_firstWrong 93 = .ok (.bipush 9, 2) := by decide +kernel
theorem dX7_firstWrong_95 : decode cX7_firstWrong 95 = .ok (.iload 6, 2) := by decide +kernel
theorem dX7_firstWrong_97 : decode cX7_firstWrong 97 = .ok (.imul, 1) := by decide +kernel
theorem dX7_firstWrong_98 : decode cX7_firstWrong 98 = .ok (.iload 8, 2) := by decide +kernel
theorem dX7_firstWrong_100 : decode cX7_firstWrong 100 = .ok (.iadd, 1) := by decide +kernel
theorem dX7_firstWrong_101 : decode cX7_firstWrong 101 = .ok (.iaload, 1) := by decide +kernel
theorem dX7_firstWrong_102 : decode cX7_firstWrong 102 = .ok (.ifCond .ne 6, 3) := by decide +kernel
theorem dX7_firstWrong_105 : decode cX7_firstWrong 105 = .ok (.goto 237, 3) := by decide +kernel
theorem dX7_firstWrong_108 : decode cX7_firstWrong 108 = .ok (.iinc 7 1, 3) := by decide +kernel
theorem dX7_firstWrong_111 : decode cX7_firstWrong 111 = .ok (.iload 7, 2) := by decide +kernel
theorem dX7_firstWrong_113 : decode cX7_firstWrong 113 = .ok (.iconst 2, 1) := by decide +kernel
theorem dX7_firstWrong_114 : decode cX7_firstWrong 114 = .ok (.if_icmp .ne 8, 3) := by decide +kernel
theorem dX7_firstWrong_117 : decode cX7_firstWrong 117 = .ok (.aload_n 3, 1) := by decide +kernel
theorem dX7_firstWrong_118 : decode cX7_firstWrong 118 = .ok (.iload 6, 2) := by decide +kernel
theorem dX7_firstWrong_120 : decode cX7_firstWrong 120 = .ok (.iconst 1, 1) := by decide +kernel
theorem dX7_firstWrong_121 : decode cX7_firstWrong 121 = .ok (.iastore, 1) := by decide +kernel
theorem dX7_firstWrong_122 : decode cX7_firstWrong 122 = .ok (.aload 4, 2) := by decide +kernel
theorem dX7_firstWrong_124 : decode cX7_firstWrong 124 = .ok (.bipush 9, 2) := by decide +kernel
theorem dX7_firstWrong_126 : decode cX7_firstWrong 126 = .ok (.iload 6, 2) := by decide +kernel
theorem dX7_firstWrong_128 : decode cX7_firstWrong 128 = .ok (.imul, 1) := by decide +kernel
theorem dX7_firstWrong_129 : decode cX7_firstWrong 129 = .ok (.iload 8, 2) := by decide +kernel
theorem dX7_firstWrong_131 : decode cX7_firstWrong 131 = .ok (.iadd, 1) := by decide +kernel
theorem dX7_firstWrong_132 : decode cX7_firstWrong 132 = .ok (.iaload, 1) := by decide +kernel
theorem dX7_firstWrong_133 : decode cX7_firstWrong 133 = .ok (.iconst 2, 1) := by decide +kernel
theorem dX7_firstWrong_134 : decode cX7_firstWrong 134 = .ok (.if_icmp .ne 6, 3) := by decide +kernel
theorem dX7_firstWrong_137 : decode cX7_firstWrong 137 = .ok (.goto 205, 3) := by decide +kernel
theorem dX7_firstWrong_140 : decode cX7_firstWrong 140 = .ok (.aload 4, 2) := by decide +kernel
theorem dX7_firstWrong_142 : decode cX7_firstWrong 142 = .ok (.bipush 9, 2) := by decide +kernel
theorem dX7_firstWrong_144 : decode cX7_firstWrong 144 = .ok (.iload 6, 2) := by decide +kernel
theorem dX7_firstWrong_146 : decode cX7_firstWrong 146 = .ok (.imul, 1) := by decide +kernel
theorem dX7_firstWrong_147 : decode cX7_firstWrong 147 = .ok (.iload 8, 2) := by decide +kernel
theorem dX7_firstWrong_149 : decode cX7_firstWrong 149 = .ok (.iadd, 1) := by decide +kernel
theorem dX7_firstWrong_150 : decode cX7_firstWrong 150 = .ok (.iconst 2, 1) := by decide +kernel
theorem dX7_firstWrong_151 : decode cX7_firstWrong 151 = .ok (.iastore, 1) := by decide +kernel
theorem dX7_firstWrong_152 : decode cX7_firstWrong 152 = .ok (.iconst 1, 1) := by decide +kernel
theorem dX7_firstWrong_153 : decode cX7_firstWrong 153 = .ok (.istore 5, 2) := by decide +kernel
theorem dX7_firstWrong_155 : decode cX7_firstWrong 155 = .ok (.aload_n 0, 1) := by decide +kernel
theorem dX7_firstWrong_156 : decode cX7_firstWrong 156 = .ok (.iload_n 1, 1) := by decide +kernel
theorem dX7_firstWrong_157 : decode cX7_firstWrong 157 = .ok (.iload 6, 2) := by decide +kernel
theorem dX7_firstWrong_159 : decode cX7_firstWrong 159 = .ok (.invokevirtual 68, 3) := by decide +kernel
theorem dX7_firstWrong_162 : decode cX7_firstWrong 162 = .ok (.ifCond .eq 6, 3) := by decide +kernel
theorem dX7_firstWrong_165 : decode cX7_firstWrong 165 = .ok (.goto 177, 3) := by decide +kernel
theorem dX7_firstWrong_168 : decode cX7_firstWrong 168 = .ok (.aload_n 0, 1) := by decide +kernel
theorem dX7_firstWrong_169 : decode cX7_firstWrong 169 = .ok (.getfield 18, 3) := by decide +kernel
theorem dX7_firstWrong_172 : decode cX7_firstWrong 172 = .ok (.iload_n 1, 1) := by decide +kernel
theorem dX7_firstWrong_173 : decode cX7_firstWrong 173 = .ok (.aaload, 1) := by decide +kernel
theorem dX7_firstWrong_174 : decode cX7_firstWrong 174 = .ok (.iload 6, 2) := by decide +kernel
theorem dX7_firstWrong_176 : decode cX7_firstWrong 176 = .ok (.iaload, 1) := by decide +kernel
theorem dX7_firstWrong_177 : decode cX7_firstWrong 177 = .ok (.istore 9, 2) := by decide +kernel
theorem dX7_firstWrong_179 : decode cX7_firstWrong 179 = .ok (.iload 8, 2) := by decide +kernel
theorem dX7_firstWrong_181 : decode cX7_firstWrong 181 = .ok (.iload 9, 2) := by decide +kernel
theorem dX7_firstWrong_183 : decode cX7_firstWrong 183 = .ok (.invokestatic 72, 3) := by decide +kernel
theorem dX7_firstWrong_186 : decode cX7_firstWrong 186 = .ok (.iadd, 1) := by decide +kernel
theorem dX7_firstWrong_187 : decode cX7_firstWrong 187 = .ok (.istore 10, 2) := by decide +kernel
theorem dX7_firstWrong_189 : decode cX7_firstWrong 189 = .ok (.iload 9, 2) := by decide +kernel
theorem dX7_firstWrong_191 : decode cX7_firstWrong 191 = .ok (.bipush 14, 2) := by decide +kernel
theorem dX7_firstWrong_193 : decode cX7_firstWrong 193 = .ok (.if_icmp .eq 21, 3) := by decide +kernel
theorem dX7_firstWrong_196 : decode cX7_firstWrong 196 = .ok (.iload 9, 2) := by decide +kernel
theorem dX7_firstWrong_198 : decode cX7_firstWrong 198 = .ok (.bipush 17, 2) := by decide +kernel
theorem dX7_firstWrong_200 : decode cX7_firstWrong 200 = .ok (.if_icmp .eq 14, 3) := by decide +kernel
theorem dX7_firstWrong_203 : decode cX7_firstWrong 203 = .ok (.iload 9, 2) := by decide +kernel
theorem dX7_firstWrong_205 : decode cX7_firstWrong 205 = .ok (.bipush 18, 2) := by decide +kernel
theorem dX7_firstWrong_207 : decode cX7_firstWrong 207 = .ok (.if_icmp .eq 7, 3) := by decide +kernel
theorem dX7_firstWrong_210 : decode cX7_firstWrong 210 = .ok (.iconst 1, 1) := by decide +kernel
theorem dX7_firstWrong_211 : decode cX7_firstWrong 211 = .ok (.goto 4, 3) := by decide +kernel
theorem dX7_firstWrong_214 : decode cX7_firstWrong 214 = .ok (.iconst 0, 1) := by decide +kernel
theorem dX7_firstWrong_215 : decode cX7_firstWrong 215 = .ok (.istore 11, 2) := by decide +kernel
theorem dX7_firstWrong_217 : decode cX7_firstWrong 217 = .ok (.iload 8, 2) := by decide +kernel
theorem dX7_firstWrong_219 : decode cX7_firstWrong 219 = .ok (.iload_n 1, 1) := by decide +kernel
theorem dX7_firstWrong_220 : decode cX7_firstWrong 220 = .ok (.iload 9, 2) := by decide +kernel
theorem dX7_firstWrong_222 : decode cX7_firstWrong 222 = .ok (.invokestatic 76, 3) := by decide +kernel
theorem dX7_firstWrong_225 : decode cX7_firstWrong 225 = .ok (.if_icmp .lt 23, 3) := by decide +kernel
theorem dX7_firstWrong_228 : decode cX7_firstWrong 228 = .ok (.iload 10, 2) := by decide +kernel
theorem dX7_firstWrong_230 : decode cX7_firstWrong 230 = .ok (.bipush 8, 2) := by decide +kernel
theorem dX7_firstWrong_232 : decode cX7_firstWrong 232 = .ok (.if_icmp .gt 16, 3) := by decide +kernel
theorem dX7_firstWrong_235 : decode cX7_firstWrong 235 = .ok (.iload 11, 2) := by decide +kernel
theorem dX7_firstWrong_237 : decode cX7_firstWrong 237 = .ok (.ifCond .eq 19, 3) := by decide +kernel
theorem dX7_firstWrong_240 : decode cX7_firstWrong 240 = .ok (.iload 6, 2) := by decide +kernel
theorem dX7_firstWrong_242 : decode cX7_firstWrong 242 = .ok (.iconst 1, 1) := by decide +kernel
theorem dX7_firstWrong_243 : decode cX7_firstWrong 243 = .ok (.iadd, 1) := by decide +kernel
theorem dX7_firstWrong_244 : decode cX7_firstWrong 244 = .ok (.iload_n 2, 1) := by decide +kernel
theorem dX7_firstWrong_245 : decode cX7_firstWrong 245 = .ok (.if_icmp .ne 11, 3) := by decide +kernel
theorem dX7_firstWrong_248 : decode cX7_firstWrong 248 = .ok (.aload_n 3, 1) := by decide +kernel
theorem dX7_firstWrong_249 : decode cX7_firstWrong 249 = .ok (.iload 6, 2) := by decide +kernel
theorem dX7_firstWrong_251 : decode cX7_firstWrong 251 = .ok (.iconst 1, 1) := by decide +kernel
theorem dX7_firstWrong_252 : decode cX7_firstWrong 252 = .ok (.iastore, 1) := by decide +kernel
theorem dX7_firstWrong_253 : decode cX7_firstWrong 253 = .ok (.goto 89, 3) := by decide +kernel
theorem dX7_firstWrong_256 : decode cX7_firstWrong 256 = .ok (.iload 11, 2) := by decide +kernel
theorem dX7_firstWrong_258 : decode cX7_firstWrong 258 = .ok (.ifCond .eq 33, 3) := by decide +kernel
theorem dX7_firstWrong_261 : decode cX7_firstWrong 261 = .ok (.aload 4, 2) := by decide +kernel
theorem dX7_firstWrong_263 : decode cX7_firstWrong 263 = .ok (.bipush 9, 2) := by decide +kernel
theorem dX7_firstWrong_265 : decode cX7_firstWrong 265 = .ok (.iload 6, 2) := by decide +kernel
theorem dX7_firstWrong_267 : decode cX7_firstWrong 267 = .ok (.iconst 1, 1) := by decide +kernel
theorem dX7_firstWrong_268 : decode cX7_firstWrong 268 = .ok (.iadd, 1) := by decide +kernel
theorem dX7_firstWrong_269 : decode cX7_firstWrong 269 = .ok (.imul, 1) := by decide +kernel
theorem dX7_firstWrong_270 : decode cX7_firstWrong 270 = .ok (.iload 10, 2) := by decide +kernel
theorem dX7_firstWrong_272 : decode cX7_firstWrong 272 = .ok (.iadd, 1) := by decide +kernel
theorem dX7_firstWrong_273 : decode cX7_firstWrong 273 = .ok (.iaload, 1) := by decide +kernel
theorem dX7_firstWrong_274 : decode cX7_firstWrong 274 = .ok (.ifCond .ne 17, 3) := by decide +kernel
theorem dX7_firstWrong_277 : decode cX7_firstWrong 277 = .ok (.aload 4, 2) := by decide +kernel
theorem dX7_firstWrong_279 : decode cX7_firstWrong 279 = .ok (.bipush 9, 2) := by decide +kernel
theorem dX7_firstWrong_281 : decode cX7_firstWrong 281 = .ok (.iload 6, 2) := by decide +kernel
theorem dX7_firstWrong_283 : decode cX7_firstWrong 283 = .ok (.iconst 1, 1) := by decide +kernel
theorem dX7_firstWrong_284 : decode cX7_firstWrong 284 = .ok (.iadd, 1) := by decide +kernel
theorem dX7_firstWrong_285 : decode cX7_firstWrong 285 = .ok (.imul, 1) := by decide +kernel
theorem dX7_firstWrong_286 : decode cX7_firstWrong 286 = .ok (.iload 10, 2) := by decide +kernel
theorem dX7_firstWrong_288 : decode cX7_firstWrong 288 = .ok (.iadd, 1) := by decide +kernel
theorem dX7_firstWrong_289 : decode cX7_firstWrong 289 = .ok (.iconst 1, 1) := by decide +kernel
theorem dX7_firstWrong_290 : decode cX7_firstWrong 290 = .ok (.iastore, 1) := by decide +kernel
theorem dX7_firstWrong_291 : decode cX7_firstWrong 291 = .ok (.aload_n 0, 1) := by decide +kernel
theorem dX7_firstWrong_292 : decode cX7_firstWrong 292 = .ok (.getfield 21, 3) := by decide +kernel
theorem dX7_firstWrong_295 : decode cX7_firstWrong 295 = .ok (.iload_n 1, 1) := by decide +kernel
theorem dX7_firstWrong_296 : decode cX7_firstWrong 296 = .ok (.aaload, 1) := by decide +kernel
theorem dX7_firstWrong_297 : decode cX7_firstWrong 297 = .ok (.iload 6, 2) := by decide +kernel
theorem dX7_firstWrong_299 : decode cX7_firstWrong 299 = .ok (.iaload, 1) := by decide +kernel
theorem dX7_firstWrong_300 : decode cX7_firstWrong 300 = .ok (.istore 12, 2) := by decide +kernel
theorem dX7_firstWrong_302 : decode cX7_firstWrong 302 = .ok (.iload 9, 2) := by decide +kernel
theorem dX7_firstWrong_304 : decode cX7_firstWrong 304 = .ok (.bipush 14, 2) := by decide +kernel
theorem dX7_firstWrong_306 : decode cX7_firstWrong 306 = .ok (.if_icmp .eq 10, 3) := by decide +kernel
theorem dX7_firstWrong_309 : decode cX7_firstWrong 309 = .ok (.iload 9, 2) := by decide +kernel
theorem dX7_firstWrong_311 : decode cX7_firstWrong 311 = .ok (.bipush 15, 2) := by decide +kernel
theorem dX7_firstWrong_313 : decode cX7_firstWrong 313 = .ok (.if_icmp .ne 29, 3) := by decide +kernel
theorem dX7_firstWrong_316 : decode cX7_firstWrong 316 = .ok (.aload 4, 2) := by decide +kernel
theorem dX7_firstWrong_318 : decode cX7_firstWrong 318 = .ok (.bipush 9, 2) := by decide +kernel
theorem dX7_firstWrong_320 : decode cX7_firstWrong 320 = .ok (.iload 12, 2) := by decide +kernel
theorem dX7_firstWrong_322 : decode cX7_firstWrong 322 = .ok (.imul, 1) := by decide +kernel
theorem dX7_firstWrong_323 : decode cX7_firstWrong 323 = .ok (.iload 10, 2) := by decide +kernel
theorem dX7_firstWrong_325 : decode cX7_firstWrong 325 = .ok (.iadd, 1) := by decide +kernel
theorem dX7_firstWrong_326 : decode cX7_firstWrong 326 = .ok (.iaload, 1) := by decide +kernel
theorem dX7_firstWrong_327 : decode cX7_firstWrong 327 = .ok (.ifCond .ne 15, 3) := by decide +kernel
theorem dX7_firstWrong_330 : decode cX7_firstWrong 330 = .ok (.aload 4, 2) := by decide +kernel
theorem dX7_firstWrong_332 : decode cX7_firstWrong 332 = .ok (.bipush 9, 2) := by decide +kernel
theorem dX7_firstWrong_334 : decode cX7_firstWrong 334 = .ok (.iload 12, 2) := by decide +kernel
theorem dX7_firstWrong_336 : decode cX7_firstWrong 336 = .ok (.imul, 1) := by decide +kernel
theorem dX7_firstWrong_337 : decode cX7_firstWrong 337 = .ok (.iload 10, 2) := by decide +kernel
theorem dX7_firstWrong_339 : decode cX7_firstWrong 339 = .ok (.iadd, 1) := by decide +kernel
theorem dX7_firstWrong_340 : decode cX7_firstWrong 340 = .ok (.iconst 1, 1) := by decide +kernel
theorem dX7_firstWrong_341 : decode cX7_firstWrong 341 = .ok (.iastore, 1) := by decide +kernel
theorem dX7_firstWrong_342 : decode cX7_firstWrong 342 = .ok (.iinc 8 1, 3) := by decide +kernel
theorem dX7_firstWrong_345 : decode cX7_firstWrong 345 = .ok (.goto (-261), 3) := by decide +kernel
theorem dX7_firstWrong_348 : decode cX7_firstWrong 348 = .ok (.iinc 6 1, 3) := by decide +kernel
theorem dX7_firstWrong_351 : decode cX7_firstWrong 351 = .ok (.goto (-279), 3) := by decide +kernel
theorem dX7_firstWrong_354 : decode cX7_firstWrong 354 = .ok (.goto (-293), 3) := by decide +kernel
theorem dX7_firstWrong_357 : decode cX7_firstWrong 357 = .ok (.iconst 0, 1) := by decide +kernel
theorem dX7_firstWrong_358 : decode cX7_firstWrong 358 = .ok (.istore 6, 2) := by decide +kernel
theorem dX7_firstWrong_360 : decode cX7_firstWrong 360 = .ok (.iload 6, 2) := by decide +kernel
theorem dX7_firstWrong_362 : decode cX7_firstWrong 362 = .ok (.iload_n 2, 1) := by decide +kernel
theorem dX7_firstWrong_363 : decode cX7_firstWrong 363 = .ok (.if_icmp .ge 20, 3) := by decide +kernel
theorem dX7_firstWrong_366 : decode cX7_firstWrong 366 = .ok (.aload_n 3, 1) := by decide +kernel
theorem dX7_firstWrong_367 : decode cX7_firstWrong 367 = .ok (.iload 6, 2) := by decide +kernel
theorem dX7_firstWrong_369 : decode cX7_firstWrong 369 = .ok (.iaload, 1) := by decide +kernel
theorem dX7_firstWrong_370 : decode cX7_firstWrong 370 = .ok (.iconst 1, 1) := by decide +kernel
theorem dX7_firstWrong_371 : decode cX7_firstWrong 371 = .ok (.if_icmp .ne 6, 3) := by decide +kernel
theorem dX7_firstWrong_374 : decode cX7_firstWrong 374 = .ok (.iload 6, 2) := by decide +kernel
theorem dX7_firstWrong_376 : decode cX7_firstWrong 376 = .ok (.ireturn, 1) := by decide +kernel
theorem dX7_firstWrong_377 : decode cX7_firstWrong 377 = .ok (.iinc 6 1, 3) := by decide +kernel
theorem dX7_firstWrong_380 : decode cX7_firstWrong 380 = .ok (.goto (-20), 3) := by decide +kernel
theorem dX7_firstWrong_383 : decode cX7_firstWrong 383 = .ok (.bipush (-2), 2) := by decide +kernel
theorem dX7_firstWrong_385 : decode cX7_firstWrong 385 = .ok (.ireturn, 1) := by decide +kernel
theorem dX7_check_0 : decode cX7_check 0 = .ok (.iload_n 1, 1) := by decide +kernel
theorem dX7_check_1 : decode cX7_check 1 = .ok (.invokestatic 61, 3) := by decide +kernel
theorem dX7_check_4 : decode cX7_check 4 = .ok (.ifCond .ne 5, 3) := by decide +kernel
theorem dX7_check_7 : decode cX7_check 7 = .ok (.iconst (-1), 1) := by decide +kernel
theorem dX7_check_8 : decode cX7_check 8 = .ok (.ireturn, 1) := by decide +kernel
theorem dX7_check_9 : decode cX7_check 9 = .ok (.aload_n 0, 1) := by decide +kernel
theorem dX7_check_10 : decode cX7_check 10 = .ok (.getfield 24, 3) := by decide +kernel
theorem dX7_check_13 : decode cX7_check 13 = .ok (.iload_n 1, 1) := by decide +kernel
theorem dX7_check_14 : decode cX7_check 14 = .ok (.iaload, 1) := by decide +kernel
theorem dX7_check_15 : decode cX7_check 15 = .ok (.ifCond .ne 8, 3) := by decide +kernel
theorem dX7_check_18 : decode cX7_check 18 = .ok (.bipush 64, 2) := by decide +kernel
theorem dX7_check_20 : decode cX7_check 20 = .ok (.goto 8, 3) := by decide +kernel
theorem dX7_check_23 : decode cX7_check 23 = .ok (.aload_n 0, 1) := by decide +kernel
theorem dX7_check_24 : decode cX7_check 24 = .ok (.iload_n 1, 1) := by decide +kernel
theorem dX7_check_25 : decode cX7_check 25 = .ok (.invokevirtual 80, 3) := by decide +kernel
theorem dX7_check_28 : decode cX7_check 28 = .ok (.ireturn, 1) := by decide +kernel
theorem dX7_reckoned_0 : decode cX7_reckoned 0 = .ok (.iload_n 0, 1) := by decide +kernel
theorem dX7_reckoned_1 : decode cX7_reckoned 1 = .ok (.tableswitch 86 7 12 #[39, 43, 47, 51, 63, 75], 39) := by decide +kernel
theorem dX7_reckoned_40 : decode cX7_reckoned 40 = .ok (.iload_n 1, 1) := by decide +kernel
theorem dX7_reckoned_41 : decode cX7_reckoned 41 = .ok (.iload_n 2, 1) := by decide +kernel
theorem dX7_reckoned_42 : decode cX7_reckoned 42 = .ok (.iadd, 1) := by decide +kernel
theorem dX7_reckoned_43 : decode cX7_reckoned 43 = .ok (.ireturn, 1) := by decide +kernel
theorem dX7_reckoned_44 : decode cX7_reckoned 44 = .ok (.iload_n 1, 1) := by decide +kernel
theorem dX7_reckoned_45 : decode cX7_reckoned 45 = .ok (.iload_n 2, 1) := by decide +kernel
theorem dX7_reckoned_46 : decode cX7_reckoned 46 = .ok (.isub, 1) := by decide +kernel
theorem dX7_reckoned_47 : decode cX7_reckoned 47 = .ok (.ireturn, 1) := by decide +kernel
theorem dX7_reckoned_48 : decode cX7_reckoned 48 = .ok (.iload_n 1, 1) := by decide +kernel
theorem dX7_reckoned_49 : decode cX7_reckoned 49 = .ok (.iload_n 2, 1) := by decide +kernel
theorem dX7_reckoned_50 : decode cX7_reckoned 50 = .ok (.imul, 1) := by decide +kernel
theorem dX7_reckoned_51 : decode cX7_reckoned 51 = .ok (.ireturn, 1) := by decide +kernel
theorem dX7_reckoned_52 : decode cX7_reckoned 52 = .ok (.iload_n 2, 1) := by decide +kernel
theorem dX7_reckoned_53 : decode cX7_reckoned 53 = .ok (.ifCond .ne 7, 3) := by decide +kernel
theorem dX7_reckoned_56 : decode cX7_reckoned 56 = .ok (.iconst 0, 1) := by decide +kernel
theorem dX7_reckoned_57 : decode cX7_reckoned 57 = .ok (.goto 6, 3) := by decide +kernel
theorem dX7_reckoned_60 : decode cX7_reckoned 60 = .ok (.iload_n 1, 1) := by decide +kernel
theorem dX7_reckoned_61 : decode cX7_reckoned 61 = .ok (.iload_n 2, 1) := by decide +kernel
theorem dX7_reckoned_62 : decode cX7_reckoned 62 = .ok (.idiv, 1) := by decide +kernel
theorem dX7_reckoned_63 : decode cX7_reckoned 63 = .ok (.ireturn, 1) := by decide +kernel
theorem dX7_reckoned_64 : decode cX7_reckoned 64 = .ok (.iload_n 2, 1) := by decide +kernel
theorem dX7_reckoned_65 : decode cX7_reckoned 65 = .ok (.ifCond .ne 7, 3) := by decide +kernel
theorem dX7_reckoned_68 : decode cX7_reckoned 68 = .ok (.iconst 0, 1) := by decide +kernel
theorem dX7_reckoned_69 : decode cX7_reckoned 69 = .ok (.goto 6, 3) := by decide +kernel
theorem dX7_reckoned_72 : decode cX7_reckoned 72 = .ok (.iload_n 1, 1) := by decide +kernel
theorem dX7_reckoned_73 : decode cX7_reckoned 73 = .ok (.iload_n 2, 1) := by decide +kernel
theorem dX7_reckoned_74 : decode cX7_reckoned 74 = .ok (.irem, 1) := by decide +kernel
theorem dX7_reckoned_75 : decode cX7_reckoned 75 = .ok (.ireturn, 1) := by decide +kernel
theorem dX7_reckoned_76 : decode cX7_reckoned 76 = .ok (.iload_n 1, 1) := by decide +kernel
theorem dX7_reckoned_77 : decode cX7_reckoned 77 = .ok (.iload_n 2, 1) := by decide +kernel
theorem dX7_reckoned_78 : decode cX7_reckoned 78 = .ok (.if_icmp .ge 7, 3) := by decide +kernel
theorem dX7_reckoned_81 : decode cX7_reckoned 81 = .ok (.iconst 1, 1) := by decide +kernel
theorem dX7_reckoned_82 : decode cX7_reckoned 82 = .ok (.goto 4, 3) := by decide +kernel
theorem dX7_reckoned_85 : decode cX7_reckoned 85 = .ok (.iconst 0, 1) := by decide +kernel
theorem dX7_reckoned_86 : decode cX7_reckoned 86 = .ok (.ireturn, 1) := by decide +kernel
theorem dX7_reckoned_87 : decode cX7_reckoned 87 = .ok (.iload_n 1, 1) := by decide +kernel
theorem dX7_reckoned_88 : decode cX7_reckoned 88 = .ok (.iload_n 2, 1) := by decide +kernel
theorem dX7_reckoned_89 : decode cX7_reckoned 89 = .ok (.if_icmp .ne 7, 3) := by decide +kernel
theorem dX7_reckoned_92 : decode cX7_reckoned 92 = .ok (.iconst 1, 1) := by decide +kernel
theorem dX7_reckoned_93 : decode cX7_reckoned 93 = .ok (.goto 4, 3) := by decide +kernel
theorem dX7_reckoned_96 : decode cX7_reckoned 96 = .ok (.iconst 0, 1) := by decide +kernel
theorem dX7_reckoned_97 : decode cX7_reckoned 97 = .ok (.ireturn, 1) := by decide +kernel
theorem dX7_call_0 : decode cX7_call 0 = .ok (.aload_n 0, 1) := by decide +kernel
theorem dX7_call_1 : decode cX7_call 1 = .ok (.getfield 52, 3) := by decide +kernel
theorem dX7_call_4 : decode cX7_call 4 = .ok (.iconst 0, 1) := by decide +kernel
theorem dX7_call_5 : decode cX7_call 5 = .ok (.invokestatic 83, 3) := by decide +kernel
theorem dX7_call_8 : decode cX7_call 8 = .ok (.iconst 0, 1) := by decide +kernel
theorem dX7_call_9 : decode cX7_call 9 = .ok (.istore 6, 2) := by decide +kernel
theorem dX7_call_11 : decode cX7_call 11 = .ok (.iconst 0, 1) := by decide +kernel
theorem dX7_call_12 : decode cX7_call 12 = .ok (.istore 7, 2) := by decide +kernel
theorem dX7_call_14 : decode cX7_call 14 = .ok (.iconst 0, 1) := by decide +kernel
theorem dX7_call_15 : decode cX7_call 15 = .ok (.istore 8, 2) := by decide +kernel
theorem dX7_call_17 : decode cX7_call 17 = .ok (.aload_n 0, 1) := by decide +kernel
theorem dX7_call_18 : decode cX7_call 18 = .ok (.iconst 0, 1) := by decide +kernel
theorem dX7_call_19 : decode cX7_call 19 = .ok (.putfield 89, 3) := by decide +kernel
theorem dX7_call_22 : decode cX7_call 22 = .ok (.aload_n 0, 1) := by decide +kernel
theorem dX7_call_23 : decode cX7_call 23 = .ok (.iconst 0, 1) := by decide +kernel
theorem dX7_call_24 : decode cX7_call 24 = .ok (.putfield 92, 3) := by decide +kernel
theorem dX7_call_27 : decode cX7_call 27 = .ok (.aload_n 0, 1) := by decide +kernel
theorem dX7_call_28 : decode cX7_call 28 = .ok (.getfield 89, 3) := by decide +kernel
theorem dX7_call_31 : decode cX7_call 31 = .ok (.sipush 300, 3) := by decide +kernel
theorem dX7_call_34 : decode cX7_call 34 = .ok (.if_icmp .ne 5, 3) := by decide +kernel
theorem dX7_call_37 : decode cX7_call 37 = .ok (.iconst 0, 1) := by decide +kernel
theorem dX7_call_38 : decode cX7_call 38 = .ok (.ireturn, 1) := by decide +kernel
theorem dX7_call_39 : decode cX7_call 39 = .ok (.aload_n 0, 1) := by decide +kernel
theorem dX7_call_40 : decode cX7_call 40 = .ok (.dup, 1) := by decide +kernel
theorem dX7_call_41 : decode cX7_call 41 = .ok (.getfield 89, 3) := by decide +kernel
theorem dX7_call_44 : decode cX7_call 44 = .ok (.iconst 1, 1) := by decide +kernel
theorem dX7_call_45 : decode cX7_call 45 = .ok (.iadd, 1) := by decide +kernel
theorem dX7_call_46 : decode cX7_call 46 = .ok (.putfield 89, 3) := by decide +kernel
theorem dX7_call_49 : decode cX7_call 49 = .ok (.aload_n 0, 1) := by decide +kernel
theorem dX7_call_50 : decode cX7_call 50 = .ok (.getfield 18, 3) := by decide +kernel
theorem dX7_call_53 : decode cX7_call 53 = .ok (.iload_n 1, 1) := by decide +kernel
theorem dX7_call_54 : decode cX7_call 54 = .ok (.aaload, 1) := by decide +kernel
theorem dX7_call_55 : decode cX7_call 55 = .ok (.iload 7, 2) := by decide +kernel
theorem dX7_call_57 : decode cX7_call 57 = .ok (.iaload, 1) := by decide +kernel
theorem dX7_call_58 : decode cX7_call 58 = .ok (.istore 9, 2) := by decide +kernel
theorem dX7_call_60 : decode cX7_call 60 = .ok (.aload_n 0, 1) := by decide +kernel
theorem dX7_call_61 : decode cX7_call 61 = .ok (.getfield 21, 3) := by decide +kernel
theorem dX7_call_64 : decode cX7_call 64 = .ok (.iload_n 1, 1) := by decide +kernel
theorem dX7_call_65 : decode cX7_call 65 = .ok (.aaload, 1) := by decide +kernel
theorem dX7_call_66 : decode cX7_call 66 = .ok (.iload 7, 2) := by decide +kernel
theorem dX7_call_68 : decode cX7_call 68 = .ok (.iaload, 1) := by decide +kernel
theorem dX7_call_69 : decode cX7_call 69 = .ok (.istore 10, 2) := by decide +kernel
theorem dX7_call_71 : decode cX7_call 71 = .ok (.iinc 7 1, 3) := by decide +kernel
theorem dX7_call_74 : decode cX7_call 74 = .ok (.iload 9, 2) := by decide +kernel
theorem dX7_call_76 : decode cX7_call 76 = .ok (.tableswitch 388 0 18 #[92, 107, 141, 161, 181, 203, 246, 388, 388, 388, 388, 388, 388, 388, 252, 259, 279, 362, 381], 92) := by decide +kernel
theorem dX7_call_168 : decode cX7_call 168 = .ok (.aload_n 0, 1) := by decide +kernel
theorem dX7_call_169 : decode cX7_call 169 = .ok (.getfield 49, 3) := by decide +kernel
theorem dX7_call_172 : decode cX7_call 172 = .ok (.iload 6, 2) := by decide +kernel
theorem dX7_call_174 : decode cX7_call 174 = .ok (.iinc 6 1, 3) := by decide +kernel
theorem dX7_call_177 : decode cX7_call 177 = .ok (.iload 10, 2) := by decide +kernel
theorem dX7_call_179 : decode cX7_call 179 = .ok (.iastore, 1) := by decide +kernel
theorem dX7_call_180 : decode cX7_call 180 = .ok (.goto 317, 3) := by decide +kernel
theorem dX7_call_183 : decode cX7_call 183 = .ok (.aload_n 0, 1) := by decide +kernel
theorem dX7_call_184 : decode cX7_call 184 = .ok (.getfield 49, 3) := by decide +kernel
theorem dX7_call_187 : decode cX7_call 187 = .ok (.iload 6, 2) := by decide +kernel
theorem dX7_call_189 : decode cX7_call 189 = .ok (.iinc 6 1, 3) := by decide +kernel
theorem dX7_call_192 : decode cX7_call 192 = .ok (.iload 10, 2) := by decide +kernel
theorem dX7_call_194 : decode cX7_call 194 = .ok (.ifCond .ne 7, 3) := by decide +kernel
theorem dX7_call_197 : decode cX7_call 197 = .ok (.iload_n 2, 1) := by decide +kernel
theorem dX7_call_198 : decode cX7_call 198 = .ok (.goto 15, 3) := by decide +kernel
theorem dX7_call_201 : decode cX7_call 201 = .ok (.iload 10, 2) := by decide +kernel
theorem dX7_call_203 : decode cX7_call 203 = .ok (.iconst 1, 1) := by decide +kernel
theorem dX7_call_204 : decode cX7_call 204 = .ok (.if_icmp .ne 7, 3) := by decide +kernel
theorem dX7_call_207 : decode cX7_call 207 = .ok (.iload_n 3, 1) := by decide +kernel
theorem dX7_call_208 : decode cX7_call 208 = .ok (.goto 5, 3) := by decide +kernel
theorem dX7_call_211 : decode cX7_call 211 = .ok (.iload 4, 2) := by decide +kernel
theorem dX7_call_213 : decode cX7_call 213 = .ok (.iastore, 1) := by decide +kernel
theorem dX7_call_214 : decode cX7_call 214 = .ok (.goto 283, 3) := by decide +kernel
theorem dX7_call_217 : decode cX7_call 217 = .ok (.aload_n 0, 1) := by decide +kernel
theorem dX7_call_218 : decode cX7_call 218 = .ok (.getfield 49, 3) := by decide +kernel
theorem dX7_call_221 : decode cX7_call 221 = .ok (.iload 6, 2) := by decide +kernel
theorem dX7_call_223 : decode cX7_call 223 = .ok (.iinc 6 1, 3) := by decide +kernel
theorem dX7_call_226 : decode cX7_call 226 = .ok (.aload_n 0, 1) := by decide +kernel
theorem dX7_call_227 : decode cX7_call 227 = .ok (.getfield 52, 3) := by decide +kernel
theorem dX7_call_230 : decode cX7_call 230 = .ok (.iload 10, 2) := by decide +kernel
theorem dX7_call_232 : decode cX7_call 232 = .ok (.iaload, 1) := by decide +kernel
theorem dX7_call_233 : decode cX7_call 233 = .ok (.iastore, 1) := by decide +kernel
theorem dX7_call_234 : decode cX7_call 234 = .ok (.goto 263, 3) := by decide +kernel
theorem dX7_call_237 : decode cX7_call 237 = .ok (.aload_n 0, 1) := by decide +kernel
theorem dX7_call_238 : decode cX7_call 238 = .ok (.getfield 52, 3) := by decide +kernel
theorem dX7_call_241 : decode cX7_call 241 = .ok (.iload 10, 2) := by decide +kernel
theorem dX7_call_243 : decode cX7_call 243 = .ok (.aload_n 0, 1) := by decide +kernel
theorem dX7_call_244 : decode cX7_call 244 = .ok (.getfield 49, 3) := by decide +kernel
theorem dX7_call_247 : decode cX7_call 247 = .ok (.iinc 6 (-1), 3) := by decide +kernel
theorem dX7_call_250 : decode cX7_call 250 = .ok (.iload 6, 2) := by decide +kernel
theorem dX7_call_252 : decode cX7_call 252 = .ok (.iaload, 1) := by decide +kernel
theorem dX7_call_253 : decode cX7_call 253 = .ok (.iastore, 1) := by decide +kernel
theorem dX7_call_254 : decode cX7_call 254 = .ok (.goto 243, 3) := by decide +kernel
theorem dX7_call_257 : decode cX7_call 257 = .ok (.aload_n 0, 1) := by decide +kernel
theorem dX7_call_258 : decode cX7_call 258 = .ok (.getfield 49, 3) := by decide +kernel
theorem dX7_call_261 : decode cX7_call 261 = .ok (.iload 6, 2) := by decide +kernel
theorem dX7_call_263 : decode cX7_call 263 = .ok (.aload_n 0, 1) := by decide +kernel
theorem dX7_call_264 : decode cX7_call 264 = .ok (.getfield 49, 3) := by decide +kernel
theorem dX7_call_267 : decode cX7_call 267 = .ok (.iload 6, 2) := by decide +kernel
theorem dX7_call_269 : decode cX7_call 269 = .ok (.iconst 1, 1) := by decide +kernel
theorem dX7_call_270 : decode cX7_call 270 = .ok (.isub, 1) := by decide +kernel
theorem dX7_call_271 : decode cX7_call 271 = .ok (.iaload, 1) := by decide +kernel
theorem dX7_call_272 : decode cX7_call 272 = .ok (.iastore, 1) := by decide +kernel
theorem dX7_call_273 : decode cX7_call 273 = .ok (.iinc 6 1, 3) := by decide +kernel
theorem dX7_call_276 : decode cX7_call 276 = .ok (.goto 221, 3) := by decide +kernel
theorem dX7_call_279 : decode cX7_call 279 = .ok (.aload_n 0, 1) := by decide +kernel
theorem dX7_call_280 : decode cX7_call 280 = .ok (.getfield 49, 3) := by decide +kernel
theorem dX7_call_283 : decode cX7_call 283 = .ok (.iload 6, 2) := by decide +kernel
theorem dX7_call_285 : decode cX7_call 285 = .ok (.iconst 1, 1) := by decide +kernel
theorem dX7_call_286 : decode cX7_call 286 = .ok (.isub, 1) := by decide +kernel
theorem dX7_call_287 : decode cX7_call 287 = .ok (.iaload, 1) := by decide +kernel
theorem dX7_call_288 : decode cX7_call 288 = .ok (.istore 11, 2) := by decide +kernel
theorem dX7_call_290 : decode cX7_call 290 = .ok (.aload_n 0, 1) := by decide +kernel
theorem dX7_call_291 : decode cX7_call 291 = .ok (.getfield 49, 3) := by decide +kernel
theorem dX7_call_294 : decode cX7_call 294 = .ok (.iload 6, 2) := by decide +kernel
theorem dX7_call_296 : decode cX7_call 296 = .ok (.iconst 1, 1) := by decide +kernel
theorem dX7_call_297 : decode cX7_call 297 = .ok (.isub, 1) := by decide +kernel
theorem dX7_call_298 : decode cX7_call 298 = .ok (.aload_n 0, 1) := by decide +kernel
theorem dX7_call_299 : decode cX7_call 299 = .ok (.getfield 49, 3) := by decide +kernel
theorem dX7_call_302 : decode cX7_call 302 = .ok (.iload 6, 2) := by decide +kernel
theorem dX7_call_304 : decode cX7_call 304 = .ok (.iconst 2, 1) := by decide +kernel
theorem dX7_call_305 : decode cX7_call 305 = .ok (.isub, 1) := by decide +kernel
theorem dX7_call_306 : decode cX7_call 306 = .ok (.iaload, 1) := by decide +kernel
theorem dX7_call_307 : decode cX7_call 307 = .ok (.iastore, 1) := by decide +kernel
theorem dX7_call_308 : decode cX7_call 308 = .ok (.aload_n 0, 1) := by decide +kernel
theorem dX7_call_309 : decode cX7_call 309 = .ok (.getfield 49, 3) := by decide +kernel
theorem dX7_call_312 : decode cX7_call 312 = .ok (.iload 6, 2) := by decide +kernel
theorem dX7_call_314 : decode cX7_call 314 = .ok (.iconst 2, 1) := by decide +kernel
theorem dX7_call_315 : decode cX7_call 315 = .ok (.isub, 1) := by decide +kernel
theorem dX7_call_316 : decode cX7_call 316 = .ok (.iload 11, 2) := by decide +kernel
theorem dX7_call_318 : decode cX7_call 318 = .ok (.iastore, 1) := by decide +kernel
theorem dX7_call_319 : decode cX7_call 319 = .ok (.goto 178, 3) := by decide +kernel
theorem dX7_call_322 : decode cX7_call 322 = .ok (.iinc 6 (-1), 3) := by decide +kernel
theorem dX7_call_325 : decode cX7_call 325 = .ok (.goto 172, 3) := by decide +kernel
theorem dX7_call_328 : decode cX7_call 328 = .ok (.iload 10, 2) := by decide +kernel
theorem dX7_call_330 : decode cX7_call 330 = .ok (.istore 7, 2) := by decide +kernel
theorem dX7_call_332 : decode cX7_call 332 = .ok (.goto 165, 3) := by decide +kernel
theorem dX7_call_335 : decode cX7_call 335 = .ok (.iinc 6 (-1), 3) := by decide +kernel
theorem dX7_call_338 : decode cX7_call 338 = .ok (.aload_n 0, 1) := by decide +kernel
theorem dX7_call_339 : decode cX7_call 339 = .ok (.getfield 49, 3) := by decide +kernel
theorem dX7_call_342 : decode cX7_call 342 = .ok (.iload 6, 2) := by decide +kernel
theorem dX7_call_344 : decode cX7_call 344 = .ok (.iaload, 1) := by decide +kernel
theorem dX7_call_345 : decode cX7_call 345 = .ok (.ifCond .ne 152, 3) := by decide +kernel
theorem dX7_call_348 : decode cX7_call 348 = .ok (.iload 10, 2) := by decide +kernel
theorem dX7_call_350 : decode cX7_call 350 = .ok (.istore 7, 2) := by decide +kernel
theorem dX7_call_352 : decode cX7_call 352 = .ok (.goto 145, 3) := by decide +kernel
theorem dX7_call_355 : decode cX7_call 355 = .ok (.iload 8, 2) := by decide +kernel
theorem dX7_call_357 : decode cX7_call 357 = .ok (.bipush 20, 2) := by decide +kernel
theorem dX7_call_359 : decode cX7_call 359 = .ok (.if_icmp .ne 5, 3) := by decide +kernel
theorem dX7_call_362 : decode cX7_call 362 = .ok (.iconst 0, 1) := by decide +kernel
theorem dX7_call_363 : decode cX7_call 363 = .ok (.ireturn, 1) := by decide +kernel
theorem dX7_call_364 : decode cX7_call 364 = .ok (.iinc 8 1, 3) := by decide +kernel
theorem dX7_call_367 : decode cX7_call 367 = .ok (.iinc 6 (-2), 3) := by decide +kernel
theorem dX7_call_370 : decode cX7_call 370 = .ok (.aload_n 0, 1) := by decide +kernel
theorem dX7_call_371 : decode cX7_call 371 = .ok (.getfield 96, 3) := by decide +kernel
theorem dX7_call_374 : decode cX7_call 374 = .ok (.sipush 620, 3) := by decide +kernel
theorem dX7_call_377 : decode cX7_call 377 = .ok (.if_icmp .ge 48, 3) := by decide +kernel
theorem dX7_call_380 : decode cX7_call 380 = .ok (.aload_n 0, 1) := by decide +kernel
theorem dX7_call_381 : decode cX7_call 381 = .ok (.getfield 27, 3) := by decide +kernel
theorem dX7_call_384 : decode cX7_call 384 = .ok (.aload_n 0, 1) := by decide +kernel
theorem dX7_call_385 : decode cX7_call 385 = .ok (.getfield 96, 3) := by decide +kernel
theorem dX7_call_388 : decode cX7_call 388 = .ok (.aload_n 0, 1) := by decide +kernel
theorem dX7_call_389 : decode cX7_call 389 = .ok (.getfield 49, 3) := by decide +kernel
theorem dX7_call_392 : decode cX7_call 392 = .ok (.iload 6, 2) := by decide +kernel
theorem dX7_call_394 : decode cX7_call 394 = .ok (.iaload, 1) := by decide +kernel
theorem dX7_call_395 : decode cX7_call 395 = .ok (.iastore, 1) := by decide +kernel
theorem dX7_call_396 : decode cX7_call 396 = .ok (.aload_n 0, 1) := by decide +kernel
theorem dX7_call_397 : decode cX7_call 397 = .ok (.getfield 30, 3) := by decide +kernel
theorem dX7_call_400 : decode cX7_call 400 = .ok (.aload_n 0, 1) := by decide +kernel
theorem dX7_call_401 : decode cX7_call 401 = .ok (.getfield 96, 3) := by decide +kernel
theorem dX7_call_404 : decode cX7_call 404 = .ok (.aload_n 0, 1) := by decide +kernel
theorem dX7_call_405 : decode cX7_call 405 = .ok (.getfield 49, 3) := by decide +kernel
theorem dX7_call_408 : decode cX7_call 408 = .ok (.iload 6, 2) := by decide +kernel
theorem dX7_call_410 : decode cX7_call 410 = .ok (.iconst 1, 1) := by decide +kernel
theorem dX7_call_411 : decode cX7_call 411 = .ok (.iadd, 1) := by decide +kernel
theorem dX7_call_412 : decode cX7_call 412 = .ok (.iaload, 1) := by decide +kernel
theorem dX7_call_413 : decode cX7_call 413 = .ok (.iastore, 1) := by decide +kernel
theorem dX7_call_414 : decode cX7_call 414 = .ok (.aload_n 0, 1) := by decide +kernel
theorem dX7_call_415 : decode cX7_call 415 = .ok (.getfield 33, 3) := by decide +kernel
theorem dX7_call_418 : decode cX7_call 418 = .ok (.aload_n 0, 1) := by decide +kernel
theorem dX7_call_419 : decode cX7_call 419 = .ok (.getfield 96, 3) := by decide +kernel
theorem dX7_call_422 : decode cX7_call 422 = .ok (.iload 5, 2) := by decide +kernel
theorem dX7_call_424 : decode cX7_call 424 = .ok (.iastore, 1) := by decide +kernel
theorem dX7_call_425 : decode cX7_call 425 = .ok (.aload_n 0, 1) := by decide +kernel
theorem dX7_call_426 : decode cX7_call 426 = .ok (.dup, 1) := by decide +kernel
theorem dX7_call_427 : decode cX7_call 427 = .ok (.getfield 96, 3) := by decide +kernel
theorem dX7_call_430 : decode cX7_call 430 = .ok (.iconst 1, 1) := by decide +kernel
theorem dX7_call_431 : decode cX7_call 431 = .ok (.iadd, 1) := by decide +kernel
theorem dX7_call_432 : decode cX7_call 432 = .ok (.putfield 96, 3) := by decide +kernel
theorem dX7_call_435 : decode cX7_call 435 = .ok (.goto 62, 3) := by decide +kernel
theorem dX7_call_438 : decode cX7_call 438 = .ok (.iload_n 1, 1) := by decide +kernel
theorem dX7_call_439 : decode cX7_call 439 = .ok (.ifCond .eq 16, 3) := by decide +kernel
theorem dX7_call_442 : decode cX7_call 442 = .ok (.aload_n 0, 1) := by decide +kernel
theorem dX7_call_443 : decode cX7_call 443 = .ok (.aload_n 0, 1) := by decide +kernel
theorem dX7_call_444 : decode cX7_call 444 = .ok (.getfield 49, 3) := by decide +kernel
theorem dX7_call_447 : decode cX7_call 447 = .ok (.iload 6, 2) := by decide +kernel
theorem dX7_call_449 : decode cX7_call 449 = .ok (.iconst 1, 1) := by decide +kernel
theorem dX7_call_450 : decode cX7_call 450 = .ok (.isub, 1) := by decide +kernel
theorem dX7_call_451 : decode cX7_call 451 = .ok (.iaload, 1) := by decide +kernel
theorem dX7_call_452 : decode cX7_call 452 = .ok (.putfield 99, 3) := by decide +kernel
theorem dX7_call_455 : decode cX7_call 455 = .ok (.iconst 1, 1) := by decide +kernel
theorem dX7_call_456 : decode cX7_call 456 = .ok (.ireturn, 1) := by decide +kernel
theorem dX7_call_457 : decode cX7_call 457 = .ok (.aload_n 0, 1) := by decide +kernel
theorem dX7_call_458 : decode cX7_call 458 = .ok (.iconst 1, 1) := by decide +kernel
theorem dX7_call_459 : decode cX7_call 459 = .ok (.putfield 92, 3) := by decide +kernel
theorem dX7_call_462 : decode cX7_call 462 = .ok (.iconst 1, 1) := by decide +kernel
theorem dX7_call_463 : decode cX7_call 463 = .ok (.ireturn, 1) := by decide +kernel
theorem dX7_call_464 : decode cX7_call 464 = .ok (.iinc 6 (-1), 3) := by decide +kernel
theorem dX7_call_467 : decode cX7_call 467 = .ok (.aload_n 0, 1) := by decide +kernel
theorem dX7_call_468 : decode cX7_call 468 = .ok (.getfield 49, 3) := by decide +kernel
theorem dX7_call_471 : decode cX7_call 471 = .ok (.iload 6, 2) := by decide +kernel
theorem dX7_call_473 : decode cX7_call 473 = .ok (.iconst 1, 1) := by decide +kernel
theorem dX7_call_474 : decode cX7_call 474 = .ok (.isub, 1) := by decide +kernel
theorem dX7_call_475 : decode cX7_call 475 = .ok (.iload 9, 2) := by decide +kernel
theorem dX7_call_477 : decode cX7_call 477 = .ok (.aload_n 0, 1) := by decide +kernel
theorem dX7_call_478 : decode cX7_call 478 = .ok (.getfield 49, 3) := by decide +kernel
theorem dX7_call_481 : decode cX7_call 481 = .ok (.iload 6, 2) := by decide +kernel
theorem dX7_call_483 : decode cX7_call 483 = .ok (.iconst 1, 1) := by decide +kernel
theorem dX7_call_484 : decode cX7_call 484 = .ok (.isub, 1) := by decide +kernel
theorem dX7_call_485 : decode cX7_call 485 = .ok (.iaload, 1) := by decide +kernel
theorem dX7_call_486 : decode cX7_call 486 = .ok (.aload_n 0, 1) := by decide +kernel
theorem dX7_call_487 : decode cX7_call 487 = .ok (.getfield 49, 3) := by decide +kernel
theorem dX7_call_490 : decode cX7_call 490 = .ok (.iload 6, 2) := by decide +kernel
theorem dX7_call_492 : decode cX7_call 492 = .ok (.iaload, 1) := by decide +kernel
theorem dX7_call_493 : decode cX7_call 493 = .ok (.invokestatic 102, 3) := by decide +kernel
theorem dX7_call_496 : decode cX7_call 496 = .ok (.iastore, 1) := by decide +kernel
theorem dX7_call_497 : decode cX7_call 497 = .ok (.goto (-470), 3) := by decide +kernel
theorem dX7_good_0 : decode cX7_good 0 = .ok (.iload_n 2, 1) := by decide +kernel
theorem dX7_good_1 : decode cX7_good 1 = .ok (.ifCond .eq 12, 3) := by decide +kernel
theorem dX7_good_4 : decode cX7_good 4 = .ok (.aload_n 0, 1) := by decide +kernel
theorem dX7_good_5 : decode cX7_good 5 = .ok (.getfield 24, 3) := by decide +kernel
theorem dX7_good_8 : decode cX7_good 8 = .ok (.iload_n 1, 1) := by decide +kernel
theorem dX7_good_9 : decode cX7_good 9 = .ok (.iaload, 1) := by decide +kernel
theorem dX7_good_10 : decode cX7_good 10 = .ok (.ifCond .eq 22, 3) := by decide +kernel
theorem dX7_good_13 : decode cX7_good 13 = .ok (.aload_n 0, 1) := by decide +kernel
theorem dX7_good_14 : decode cX7_good 14 = .ok (.getfield 24, 3) := by decide +kernel
theorem dX7_good_17 : decode cX7_good 17 = .ok (.iload_n 1, 1) := by decide +kernel
theorem dX7_good_18 : decode cX7_good 18 = .ok (.iaload, 1) := by decide +kernel
theorem dX7_good_19 : decode cX7_good 19 = .ok (.ifCond .le 17, 3) := by decide +kernel
theorem dX7_good_22 : decode cX7_good 22 = .ok (.aload_n 0, 1) := by decide +kernel
theorem dX7_good_23 : decode cX7_good 23 = .ok (.iload_n 1, 1) := by decide +kernel
theorem dX7_good_24 : decode cX7_good 24 = .ok (.invokevirtual 80, 3) := by decide +kernel
theorem dX7_good_27 : decode cX7_good 27 = .ok (.bipush (-2), 2) := by decide +kernel
theorem dX7_good_29 : decode cX7_good 29 = .ok (.if_icmp .ne 7, 3) := by decide +kernel
theorem dX7_good_32 : decode cX7_good 32 = .ok (.iconst 1, 1) := by decide +kernel
theorem dX7_good_33 : decode cX7_good 33 = .ok (.goto 4, 3) := by decide +kernel
theorem dX7_good_36 : decode cX7_good 36 = .ok (.iconst 0, 1) := by decide +kernel
theorem dX7_good_37 : decode cX7_good 37 = .ok (.ireturn, 1) := by decide +kernel
theorem dX7_map_0 : decode cX7_map 0 = .ok (.aload_n 0, 1) := by decide +kernel
theorem dX7_map_1 : decode cX7_map 1 = .ok (.iconst 0, 1) := by decide +kernel
theorem dX7_map_2 : decode cX7_map 2 = .ok (.putfield 96, 3) := by decide +kernel
theorem dX7_map_5 : decode cX7_map 5 = .ok (.iconst 0, 1) := by decide +kernel
theorem dX7_map_6 : decode cX7_map 6 = .ok (.istore_n 1, 1) := by decide +kernel
theorem dX7_map_7 : decode cX7_map 7 = .ok (.iload_n 1, 1) := by decide +kernel
theorem dX7_map_8 : decode cX7_map 8 = .ok (.aload_n 0, 1) := by decide +kernel
theorem dX7_map_9 : decode cX7_map 9 = .ok (.getfield 58, 3) := by decide +kernel
theorem dX7_map_12 : decode cX7_map 12 = .ok (.if_icmp .ge 56, 3) := by decide +kernel
theorem dX7_map_15 : decode cX7_map 15 = .ok (.aload_n 0, 1) := by decide +kernel
theorem dX7_map_16 : decode cX7_map 16 = .ok (.iconst 0, 1) := by decide +kernel
theorem dX7_map_17 : decode cX7_map 17 = .ok (.aload_n 0, 1) := by decide +kernel
theorem dX7_map_18 : decode cX7_map 18 = .ok (.getfield 9, 3) := by decide +kernel
theorem dX7_map_21 : decode cX7_map 21 = .ok (.iload_n 1, 1) := by decide +kernel
theorem dX7_map_22 : decode cX7_map 22 = .ok (.iaload, 1) := by decide +kernel
theorem dX7_map_23 : decode cX7_map 23 = .ok (.aload_n 0, 1) := by decide +kernel
theorem dX7_map_24 : decode cX7_map 24 = .ok (.getfield 13, 3) := by decide +kernel
theorem dX7_map_27 : decode cX7_map 27 = .ok (.iload_n 1, 1) := by decide +kernel
theorem dX7_map_28 : decode cX7_map 28 = .ok (.iaload, 1) := by decide +kernel
theorem dX7_map_29 : decode cX7_map 29 = .ok (.iconst 0, 1) := by decide +kernel
theorem dX7_map_30 : decode cX7_map 30 = .ok (.iload_n 1, 1) := by decide +kernel
theorem dX7_map_31 : decode cX7_map 31 = .ok (.aload_n 0, 1) := by decide +kernel
theorem dX7_map_32 : decode cX7_map 32 = .ok (.getfield 55, 3) := by decide +kernel
theorem dX7_map_35 : decode cX7_map 35 = .ok (.idiv, 1) := by decide +kernel
theorem dX7_map_36 : decode cX7_map 36 = .ok (.invokevirtual 106, 3) := by decide +kernel
theorem dX7_map_39 : decode cX7_map 39 = .ok (.ifCond .ne 10, 3) := by decide +kernel
theorem dX7_map_42 : decode cX7_map 42 = .ok (.aload_n 0, 1) := by decide +kernel
theorem dX7_map_43 : decode cX7_map 43 = .ok (.iload_n 1, 1) := by decide +kernel
theorem dX7_map_44 : decode cX7_map 44 = .ok (.putfield 42, 3) := by decide +kernel
theorem dX7_map_47 : decode cX7_map 47 = .ok (.iconst 0, 1) := by decide +kernel
theorem dX7_map_48 : decode cX7_map 48 = .ok (.ireturn, 1) := by decide +kernel
theorem dX7_map_49 : decode cX7_map 49 = .ok (.aload_n 0, 1) := by decide +kernel
theorem dX7_map_50 : decode cX7_map 50 = .ok (.getfield 46, 3) := by decide +kernel
theorem dX7_map_53 : decode cX7_map 53 = .ok (.iconst 4, 1) := by decide +kernel
theorem dX7_map_54 : decode cX7_map 54 = .ok (.dup2, 1) := by decide +kernel
theorem dX7_map_55 : decode cX7_map 55 = .ok (.iaload, 1) := by decide +kernel
theorem dX7_map_56 : decode cX7_map 56 = .ok (.aload_n 0, 1) := by decide +kernel
theorem dX7_map_57 : decode cX7_map 57 = .ok (.getfield 89, 3) := by decide +kernel
theorem dX7_map_60 : decode cX7_map 60 = .ok (.iadd, 1) := by decide +kernel
theorem dX7_map_61 : decode cX7_map 61 = .ok (.iastore, 1) := by decide +kernel
theorem dX7_map_62 : decode cX7_map 62 = .ok (.iinc 1 1, 3) := by decide +kernel
theorem dX7_map_65 : decode cX7_map 65 = .ok (.goto (-58), 3) := by decide +kernel
theorem dX7_map_68 : decode cX7_map 68 = .ok (.aload_n 0, 1) := by decide +kernel
theorem dX7_map_69 : decode cX7_map 69 = .ok (.getfield 46, 3) := by decide +kernel
theorem dX7_map_72 : decode cX7_map 72 = .ok (.iconst 1, 1) := by decide +kernel
theorem dX7_map_73 : decode cX7_map 73 = .ok (.aload_n 0, 1) := by decide +kernel
theorem dX7_map_74 : decode cX7_map 74 = .ok (.getfield 96, 3) := by decide +kernel
theorem dX7_map_77 : decode cX7_map 77 = .ok (.iastore, 1) := by decide +kernel
theorem dX7_map_78 : decode cX7_map 78 = .ok (.aload_n 0, 1) := by decide +kernel
theorem dX7_map_79 : decode cX7_map 79 = .ok (.getfield 96, 3) := by decide +kernel
theorem dX7_map_82 : decode cX7_map 82 = .ok (.sipush 600, 3) := by decide +kernel
theorem dX7_map_85 : decode cX7_map 85 = .ok (.if_icmp .gt 5, 3) := by decide +kernel
theorem dX7_map_88 : decode cX7_map 88 = .ok (.iconst 1, 1) := by decide +kernel
theorem dX7_map_89 : decode cX7_map 89 = .ok (.ireturn, 1) := by decide +kernel
theorem dX7_map_90 : decode cX7_map 90 = .ok (.aload_n 0, 1) := by decide +kernel
theorem dX7_map_91 : decode cX7_map 91 = .ok (.sipush 4000, 3) := by decide +kernel
theorem dX7_map_94 : decode cX7_map 94 = .ok (.putfield 42, 3) := by decide +kernel
theorem dX7_map_97 : decode cX7_map 97 = .ok (.iconst 0, 1) := by decide +kernel
theorem dX7_map_98 : decode cX7_map 98 = .ok (.ireturn, 1) := by decide +kernel
theorem dX7_join_0 : decode cX7_join 0 = .ok (.aload_n 0, 1) := by decide +kernel
theorem dX7_join_1 : decode cX7_join 1 = .ok (.getfield 24, 3) := by decide +kernel
theorem dX7_join_4 : decode cX7_join 4 = .ok (.iconst 1, 1) := by decide +kernel
theorem dX7_join_5 : decode cX7_join 5 = .ok (.iaload, 1) := by decide +kernel
theorem dX7_join_6 : decode cX7_join 6 = .ok (.ifCond .ne 5, 3) := by decide +kernel
theorem dX7_join_9 : decode cX7_join 9 = .ok (.iconst 1, 1) := by decide +kernel
theorem dX7_join_10 : decode cX7_join 10 = .ok (.ireturn, 1) := by decide +kernel
theorem dX7_join_11 : decode cX7_join 11 = .ok (.iconst 0, 1) := by decide +kernel
theorem dX7_join_12 : decode cX7_join 12 = .ok (.istore_n 1, 1) := by decide +kernel
theorem dX7_join_13 : decode cX7_join 13 = .ok (.iconst 0, 1) := by decide +kernel
theorem dX7_join_14 : decode cX7_join 14 = .ok (.istore_n 2, 1) := by decide +kernel
theorem dX7_join_15 : decode cX7_join 15 = .ok (.iload_n 2, 1) := by decide +kernel
theorem dX7_join_16 : decode cX7_join 16 = .ok (.aload_n 0, 1) := by decide +kernel
theorem dX7_join_17 : decode cX7_join 17 = .ok (.getfield 96, 3) := by decide +kernel
theorem dX7_join_20 : decode cX7_join 20 = .ok (.if_icmp .ge 165, 3) := by decide +kernel
theorem dX7_join_23 : decode cX7_join 23 = .ok (.iload_n 1, 1) := by decide +kernel
theorem dX7_join_24 : decode cX7_join 24 = .ok (.iconst 1, 1) := by decide +kernel
theorem dX7_join_25 : decode cX7_join 25 = .ok (.isub, 1) := by decide +kernel
theorem dX7_join_26 : decode cX7_join 26 = .ok (.istore_n 3, 1) := by decide +kernel
theorem dX7_join_27 : decode cX7_join 27 = .ok (.iload_n 3, 1) := by decide +kernel
theorem dX7_join_28 : decode cX7_join 28 = .ok (.ifCond .lt 39, 3) := by decide +kernel
theorem dX7_join_31 : decode cX7_join 31 = .ok (.aload_n 0, 1) := by decide +kernel
theorem dX7_join_32 : decode cX7_join 32 = .ok (.getfield 33, 3) := by decide +kernel
theorem dX7_join_35 : decode cX7_join 35 = .ok (.iload_n 3, 1) := by decide +kernel
theorem dX7_join_36 : decode cX7_join 36 = .ok (.iaload, 1) := by decide +kernel
theorem dX7_join_37 : decode cX7_join 37 = .ok (.aload_n 0, 1) := by decide +kernel
theorem dX7_join_38 : decode cX7_join 38 = .ok (.getfield 33, 3) := by decide +kernel
theorem dX7_join_41 : decode cX7_join 41 = .ok (.iload_n 2, 1) := by decide +kernel
theorem dX7_join_42 : decode cX7_join 42 = .ok (.iaload, 1) := by decide +kernel
theorem dX7_join_43 : decode cX7_join 43 = .ok (.if_icmp .ne 18, 3) := by decide +kernel
theorem dX7_join_46 : decode cX7_join 46 = .ok (.aload_n 0, 1) := by decide +kernel
theorem dX7_join_47 : decode cX7_join 47 = .ok (.getfield 27, 3) := by decide +kernel
theorem dX7_join_50 : decode cX7_join 50 = .ok (.iload_n 3, 1) := by decide +kernel
theorem dX7_join_51 : decode cX7_join 51 = .ok (.iaload, 1) := by decide +kernel
theorem dX7_join_52 : decode cX7_join 52 = .ok (.aload_n 0, 1) := by decide +kernel
theorem dX7_join_53 : decode cX7_join 53 = .ok (.getfield 27, 3) := by decide +kernel
theorem dX7_join_56 : decode cX7_join 56 = .ok (.iload_n 2, 1) := by decide +kernel
theorem dX7_join_57 : decode cX7_join 57 = .ok (.iaload, 1) := by decide +kernel
theorem dX7_join_58 : decode cX7_join 58 = .ok (.if_icmp .eq 9, 3) := by decide +kernel
theorem dX7_join_61 : decode cX7_join 61 = .ok (.iinc 3 (-1), 3) := by decide +kernel
theorem dX7_join_64 : decode cX7_join 64 = .ok (.goto (-37), 3) := by decide +kernel
theorem dX7_join_67 : decode cX7_join 67 = .ok (.iload_n 3, 1) := by decide +kernel
theorem dX7_join_68 : decode cX7_join 68 = .ok (.ifCond .ge 45, 3) := by decide +kernel
theorem dX7_join_71 : decode cX7_join 71 = .ok (.aload_n 0, 1) := by decide +kernel
theorem dX7_join_72 : decode cX7_join 72 = .ok (.getfield 27, 3) := by decide +kernel
theorem dX7_join_75 : decode cX7_join 75 = .ok (.iload_n 1, 1) := by decide +kernel
theorem dX7_join_76 : decode cX7_join 76 = .ok (.aload_n 0, 1) := by decide +kernel
theorem dX7_join_77 : decode cX7_join 77 = .ok (.getfield 27, 3) := by decide +kernel
theorem dX7_join_80 : decode cX7_join 80 = .ok (.iload_n 2, 1) := by decide +kernel
theorem dX7_join_81 : decode cX7_join 81 = .ok (.iaload, 1) := by decide +kernel
theorem dX7_join_82 : decode cX7_join 82 = .ok (.iastore, 1) := by decide +kernel
theorem dX7_join_83 : decode cX7_join 83 = .ok (.aload_n 0, 1) := by decide +kernel
theorem dX7_join_84 : decode cX7_join 84 = .ok (.getfield 30, 3) := by decide +kernel
theorem dX7_join_87 : decode cX7_join 87 = .ok (.iload_n 1, 1) := by decide +kernel
theorem dX7_join_88 : decode cX7_join 88 = .ok (.aload_n 0, 1) := by decide +kernel
theorem dX7_join_89 : decode cX7_join 89 = .ok (.getfield 30, 3) := by decide +kernel
theorem dX7_join_92 : decode cX7_join 92 = .ok (.iload_n 2, 1) := by decide +kernel
theorem dX7_join_93 : decode cX7_join 93 = .ok (.iaload, 1) := by decide +kernel
theorem dX7_join_94 : decode cX7_join 94 = .ok (.iastore, 1) := by decide +kernel
theorem dX7_join_95 : decode cX7_join 95 = .ok (.aload_n 0, 1) := by decide +kernel
theorem dX7_join_96 : decode cX7_join 96 = .ok (.getfield 33, 3) := by decide +kernel
theorem dX7_join_99 : decode cX7_join 99 = .ok (.iload_n 1, 1) := by decide +kernel
theorem dX7_join_100 : decode cX7_join 100 = .ok (.aload_n 0, 1) := by decide +kernel
theorem dX7_join_101 : decode cX7_join 101 = .ok (.getfield 33, 3) := by decide +kernel
theorem dX7_join_104 : decode cX7_join 104 = .ok (.iload_n 2, 1) := by decide +kernel
theorem dX7_join_105 : decode cX7_join 105 = .ok (.iaload, 1) := by decide +kernel
theorem dX7_join_106 : decode cX7_join 106 = .ok (.iastore, 1) := by decide +kernel
theorem dX7_join_107 : decode cX7_join 107 = .ok (.iinc 1 1, 3) := by decide +kernel
theorem dX7_join_110 : decode cX7_join 110 = .ok (.goto 69, 3) := by decide +kernel
theorem dX7_join_113 : decode cX7_join 113 = .ok (.aload_n 0, 1) := by decide +kernel
theorem dX7_join_114 : decode cX7_join 114 = .ok (.iconst 1, 1) := by decide +kernel
theorem dX7_join_115 : decode cX7_join 115 = .ok (.aload_n 0, 1) := by decide +kernel
theorem dX7_join_116 : decode cX7_join 116 = .ok (.getfield 27, 3) := by decide +kernel
theorem dX7_join_119 : decode cX7_join 119 = .ok (.iload_n 2, 1) := by decide +kernel
theorem dX7_join_120 : decode cX7_join 120 = .ok (.iaload, 1) := by decide +kernel
theorem dX7_join_121 : decode cX7_join 121 = .ok (.aload_n 0, 1) := by decide +kernel
theorem dX7_join_122 : decode cX7_join 122 = .ok (.getfield 30, 3) := by decide +kernel
theorem dX7_join_125 : decode cX7_join 125 = .ok (.iload_n 3, 1) := by decide +kernel
theorem dX7_join_126 : decode cX7_join 126 = .ok (.iaload, 1) := by decide +kernel
theorem dX7_join_127 : decode cX7_join 127 = .ok (.aload_n 0, 1) := by decide +kernel
theorem dX7_join_128 : decode cX7_join 128 = .ok (.getfield 30, 3) := by decide +kernel
theorem dX7_join_131 : decode cX7_join 131 = .ok (.iload_n 2, 1) := by decide +kernel
theorem dX7_join_132 : decode cX7_join 132 = .ok (.iaload, 1) := by decide +kernel
theorem dX7_join_133 : decode cX7_join 133 = .ok (.iconst 0, 1) := by decide +kernel
theorem dX7_join_134 : decode cX7_join 134 = .ok (.invokevirtual 106, 3) := by decide +kernel
theorem dX7_join_137 : decode cX7_join 137 = .ok (.ifCond .ne 19, 3) := by decide +kernel
theorem dX7_join_140 : decode cX7_join 140 = .ok (.aload_n 0, 1) := by decide +kernel
theorem dX7_join_141 : decode cX7_join 141 = .ok (.sipush 1000, 3) := by decide +kernel
theorem dX7_join_144 : decode cX7_join 144 = .ok (.aload_n 0, 1) := by decide +kernel
theorem dX7_join_145 : decode cX7_join 145 = .ok (.getfield 33, 3) := by decide +kernel
theorem dX7_join_148 : decode cX7_join 148 = .ok (.iload_n 2, 1) := by decide +kernel
theorem dX7_join_149 : decode cX7_join 149 = .ok (.iaload, 1) := by decide +kernel
theorem dX7_join_150 : decode cX7_join 150 = .ok (.iadd, 1) := by decide +kernel
theorem dX7_join_151 : decode cX7_join 151 = .ok (.putfield 42, 3) := by decide +kernel
theorem dX7_join_154 : decode cX7_join 154 = .ok (.iconst 0, 1) := by decide +kernel
theorem dX7_join_155 : decode cX7_join 155 = .ok (.ireturn, 1) := by decide +kernel
theorem dX7_join_156 : decode cX7_join 156 = .ok (.aload_n 0, 1) := by decide +kernel
theorem dX7_join_157 : decode cX7_join 157 = .ok (.getfield 46, 3) := by decide +kernel
theorem dX7_join_160 : decode cX7_join 160 = .ok (.iconst 5, 1) := by decide +kernel
theorem dX7_join_161 : decode cX7_join 161 = .ok (.dup2, 1) := by decide +kernel
theorem dX7_join_162 : decode cX7_join 162 = .ok (.iaload, 1) := by decide +kernel
theorem dX7_join_163 : decode cX7_join 163 = .ok (.aload_n 0, 1) := by decide +kernel
theorem dX7_join_164 : decode cX7_join 164 = .ok (.getfield 89, 3) := by decide +kernel
theorem dX7_join_167 : decode cX7_join 167 = .ok (.iadd, 1) := by decide +kernel
theorem dX7_join_168 : decode cX7_join 168 = .ok (.iastore, 1) := by decide +kernel
theorem dX7_join_169 : decode cX7_join 169 = .ok (.aload_n 0, 1) := by decide +kernel
theorem dX7_join_170 : decode cX7_join 170 = .ok (.getfield 30, 3) := by decide +kernel
theorem dX7_join_173 : decode cX7_join 173 = .ok (.iload_n 3, 1) := by decide +kernel
theorem dX7_join_174 : decode cX7_join 174 = .ok (.aload_n 0, 1) := by decide +kernel
theorem dX7_join_175 : decode cX7_join 175 = .ok (.getfield 99, 3) := by decide +kernel
theorem dX7_join_178 : decode cX7_join 178 = .ok (.iastore, 1) := by decide +kernel
theorem dX7_join_179 : decode cX7_join 179 = .ok (.iinc 2 1, 3) := by decide +kernel
theorem dX7_join_182 : decode cX7_join 182 = .ok (.goto (-167), 3) := by decide +kernel
theorem dX7_join_185 : decode cX7_join 185 = .ok (.aload_n 0, 1) := by decide +kernel
theorem dX7_join_186 : decode cX7_join 186 = .ok (.iload_n 1, 1) := by decide +kernel
theorem dX7_join_187 : decode cX7_join 187 = .ok (.putfield 96, 3) := by decide +kernel
theorem dX7_join_190 : decode cX7_join 190 = .ok (.iconst 1, 1) := by decide +kernel
theorem dX7_join_191 : decode cX7_join 191 = .ok (.ireturn, 1) := by decide +kernel
theorem dX7_fold_0 : decode cX7_fold 0 = .ok (.aload_n 0, 1) := by decide +kernel
theorem dX7_fold_1 : decode cX7_fold 1 = .ok (.iconst 0, 1) := by decide +kernel
theorem dX7_fold_2 : decode cX7_fold 2 = .ok (.putfield 110, 3) := by decide +kernel
theorem dX7_fold_5 : decode cX7_fold 5 = .ok (.iconst 0, 1) := by decide +kernel
theorem dX7_fold_6 : decode cX7_fold 6 = .ok (.istore_n 1, 1) := by decide +kernel
theorem dX7_fold_7 : decode cX7_fold 7 = .ok (.iload_n 1, 1) := by decide +kernel
theorem dX7_fold_8 : decode cX7_fold 8 = .ok (.aload_n 0, 1) := by decide +kernel
theorem dX7_fold_9 : decode cX7_fold 9 = .ok (.getfield 96, 3) := by decide +kernel
theorem dX7_fold_12 : decode cX7_fold 12 = .ok (.if_icmp .ge 204, 3) := by decide +kernel
theorem dX7_fold_15 : decode cX7_fold 15 = .ok (.iconst 0, 1) := by decide +kernel
theorem dX7_fold_16 : decode cX7_fold 16 = .ok (.istore_n 2, 1) := by decide +kernel
theorem dX7_fold_17 : decode cX7_fold 17 = .ok (.iload_n 2, 1) := by decide +kernel
theorem dX7_fold_18 : decode cX7_fold 18 = .ok (.aload_n 0, 1) := by decide +kernel
theorem dX7_fold_19 : decode cX7_fold 19 = .ok (.getfield 110, 3) := by decide +kernel
theorem dX7_fold_22 : decode cX7_fold 22 = .ok (.if_icmp .ge 24, 3) := by decide +kernel
theorem dX7_fold_25 : decode cX7_fold 25 = .ok (.aload_n 0, 1) := by decide +kernel
theorem dX7_fold_26 : decode cX7_fold 26 = .ok (.getfield 36, 3) := by decide +kernel
theorem dX7_fold_29 : decode cX7_fold 29 = .ok (.iload_n 2, 1) := by decide +kernel
theorem dX7_fold_30 : decode cX7_fold 30 = .ok (.iaload, 1) := by decide +kernel
theorem dX7_fold_31 : decode cX7_fold 31 = .ok (.aload_n 0, 1) := by decide +kernel
theorem dX7_fold_32 : decode cX7_fold 32 = .ok (.getfield 27, 3) := by decide +kernel
theorem dX7_fold_35 : decode cX7_fold 35 = .ok (.iload_n 1, 1) := by decide +kernel
theorem dX7_fold_36 : decode cX7_fold 36 = .ok (.iaload, 1) := by decide +kernel
theorem dX7_fold_37 : decode cX7_fold 37 = .ok (.if_icmp .ge 9, 3) := by decide +kernel
theorem dX7_fold_40 : decode cX7_fold 40 = .ok (.iinc 2 1, 3) := by decide +kernel
theorem dX7_fold_43 : decode cX7_fold 43 = .ok (.goto (-26), 3) := by decide +kernel
theorem dX7_fold_46 : decode cX7_fold 46 = .ok (.iload_n 2, 1) := by decide +kernel
theorem dX7_fold_47 : decode cX7_fold 47 = .ok (.aload_n 0, 1) := by decide +kernel
theorem dX7_fold_48 : decode cX7_fold 48 = .ok (.getfield 110, 3) := by decide +kernel
theorem dX7_fold_51 : decode cX7_fold 51 = .ok (.if_icmp .eq 18, 3) := by decide +kernel
theorem dX7_fold_54 : decode cX7_fold 54 = .ok (.aload_n 0, 1) := by decide +kernel
theorem dX7_fold_55 : decode cX7_fold 55 = .ok (.getfield 36, 3) := by decide +kernel
theorem dX7_fold_58 : decode cX7_fold 58 = .ok (.iload_n 2, 1) := by decide +kernel
theorem dX7_fold_59 : decode cX7_fold 59 = .ok (.iaload, 1) := by decide +kernel
theorem dX7_fold_60 : decode cX7_fold 60 = .ok (.aload_n 0, 1) := by decide +kernel
theorem dX7_fold_61 : decode cX7_fold 61 = .ok (.getfield 27, 3) := by decide +kernel
theorem dX7_fold_64 : decode cX7_fold 64 = .ok (.iload_n 1, 1) := by decide +kernel
theorem dX7_fold_65 : decode cX7_fold 65 = .ok (.iaload, 1) := by decide +kernel
theorem dX7_fold_66 : decode cX7_fold 66 = .ok (.if_icmp .eq 84, 3) := by decide +kernel
theorem dX7_fold_69 : decode cX7_fold 69 = .ok (.aload_n 0, 1) := by decide +kernel
theorem dX7_fold_70 : decode cX7_fold 70 = .ok (.getfield 110, 3) := by decide +kernel
theorem dX7_fold_73 : decode cX7_fold 73 = .ok (.istore_n 3, 1) := by decide +kernel
theorem dX7_fold_74 : decode cX7_fold 74 = .ok (.iload_n 3, 1) := by decide +kernel
theorem dX7_fold_75 : decode cX7_fold 75 = .ok (.iload_n 2, 1) := by decide +kernel
theorem dX7_fold_76 : decode cX7_fold 76 = .ok (.if_icmp .le 37, 3) := by decide +kernel
theorem dX7_fold_79 : decode cX7_fold 79 = .ok (.aload_n 0, 1) := by decide +kernel
theorem dX7_fold_80 : decode cX7_fold 80 = .ok (.getfield 36, 3) := by decide +kernel
theorem dX7_fold_83 : decode cX7_fold 83 = .ok (.iload_n 3, 1) := by decide +kernel
theorem dX7_fold_84 : decode cX7_fold 84 = .ok (.aload_n 0, 1) := by decide +kernel
theorem dX7_fold_85 : decode cX7_fold 85 = .ok (.getfield 36, 3) := by decide +kernel
theorem dX7_fold_88 : decode cX7_fold 88 = .ok (.iload_n 3, 1) := by decide +kernel
theorem dX7_fold_89 : decode cX7_fold 89 = .ok (.iconst 1, 1) := by decide +kernel
theorem dX7_fold_90 : decode cX7_fold 90 = .ok (.isub, 1) := by decide +kernel
theorem dX7_fold_91 : decode cX7_fold 91 = .ok (.iaload, 1) := by decide +kernel
theorem dX7_fold_92 : decode cX7_fold 92 = .ok (.iastore, 1) := by decide +kernel
theorem dX7_fold_93 : decode cX7_fold 93 = .ok (.aload_n 0, 1) := by decide +kernel
theorem dX7_fold_94 : decode cX7_fold 94 = .ok (.getfield 39, 3) := by decide +kernel
theorem dX7_fold_97 : decode cX7_fold 97 = .ok (.iload_n 3, 1) := by decide +kernel
theorem dX7_fold_98 : decode cX7_fold 98 = .ok (.aload_n 0, 1) := by decide +kernel
theorem dX7_fold_99 : decode cX7_fold 99 = .ok (.getfield 39, 3) := by decide +kernel
theorem dX7_fold_102 : decode cX7_fold 102 = .ok (.iload_n 3, 1) := by decide +kernel
theorem dX7_fold_103 : decode cX7_fold 103 = .ok (.iconst 1, 1) := by decide +kernel
theorem dX7_fold_104 : decode cX7_fold 104 = .ok (.isub, 1) := by decide +kernel
theorem dX7_fold_105 : decode cX7_fold 105 = .ok (.iaload, 1) := by decide +kernel
theorem dX7_fold_106 : decode cX7_fold 106 = .ok (.iastore, 1) := by decide +kernel
theorem dX7_fold_107 : decode cX7_fold 107 = .ok (.iinc 3 (-1), 3) := by decide +kernel
theorem dX7_fold_110 : decode cX7_fold 110 = .ok (.goto (-36), 3) := by decide +kernel
theorem dX7_fold_113 : decode cX7_fold 113 = .ok (.aload_n 0, 1) := by decide +kernel
theorem dX7_fold_114 : decode cX7_fold 114 = .ok (.getfield 36, 3) := by decide +kernel
theorem dX7_fold_117 : decode cX7_fold 117 = .ok (.iload_n 2, 1) := by decide +kernel
theorem dX7_fold_118 : decode cX7_fold 118 = .ok (.aload_n 0, 1) := by decide +kernel
theorem dX7_fold_119 : decode cX7_fold 119 = .ok (.getfield 27, 3) := by decide +kernel
theorem dX7_fold_122 : decode cX7_fold 122 = .ok (.iload_n 1, 1) := by decide +kernel
theorem dX7_fold_123 : decode cX7_fold 123 = .ok (.iaload, 1) := by decide +kernel
theorem dX7_fold_124 : decode cX7_fold 124 = .ok (.iastore, 1) := by decide +kernel
theorem dX7_fold_125 : decode cX7_fold 125 = .ok (.aload_n 0, 1) := by decide +kernel
theorem dX7_fold_126 : decode cX7_fold 126 = .ok (.getfield 39, 3) := by decide +kernel
theorem dX7_fold_129 : decode cX7_fold 129 = .ok (.iload_n 2, 1) := by decide +kernel
theorem dX7_fold_130 : decode cX7_fold 130 = .ok (.aload_n 0, 1) := by decide +kernel
theorem dX7_fold_131 : decode cX7_fold 131 = .ok (.getfield 30, 3) := by decide +kernel
theorem dX7_fold_134 : decode cX7_fold 134 = .ok (.iload_n 1, 1) := by decide +kernel
theorem dX7_fold_135 : decode cX7_fold 135 = .ok (.iaload, 1) := by decide +kernel
theorem dX7_fold_136 : decode cX7_fold 136 = .ok (.iastore, 1) := by decide +kernel
theorem dX7_fold_137 : decode cX7_fold 137 = .ok (.aload_n 0, 1) := by decide +kernel
theorem dX7_fold_138 : decode cX7_fold 138 = .ok (.dup, 1) := by decide +kernel
theorem dX7_fold_139 : decode cX7_fold 139 = .ok (.getfield 110, 3) := by decide +kernel
theorem dX7_fold_142 : decode cX7_fold 142 = .ok (.iconst 1, 1) := by decide +kernel
theorem dX7_fold_143 : decode cX7_fold 143 = .ok (.iadd, 1) := by decide +kernel
theorem dX7_fold_144 : decode cX7_fold 144 = .ok (.putfield 110, 3) := by decide +kernel
theorem dX7_fold_147 : decode cX7_fold 147 = .ok (.goto 63, 3) := by decide +kernel
theorem dX7_fold_150 : decode cX7_fold 150 = .ok (.aload_n 0, 1) := by decide +kernel
theorem dX7_fold_151 : decode cX7_fold 151 = .ok (.iconst 2, 1) := by decide +kernel
theorem dX7_fold_152 : decode cX7_fold 152 = .ok (.aload_n 0, 1) := by decide +kernel
theorem dX7_fold_153 : decode cX7_fold 153 = .ok (.getfield 27, 3) := by decide +kernel
theorem dX7_fold_156 : decode cX7_fold 156 = .ok (.iload_n 1, 1) := by decide +kernel
theorem dX7_fold_157 : decode cX7_fold 157 = .ok (.iaload, 1) := by decide +kernel
theorem dX7_fold_158 : decode cX7_fold 158 = .ok (.aload_n 0, 1) := by decide +kernel
theorem dX7_fold_159 : decode cX7_fold 159 = .ok (.getfield 39, 3) := by decide +kernel
theorem dX7_fold_162 : decode cX7_fold 162 = .ok (.iload_n 2, 1) := by decide +kernel
theorem dX7_fold_163 : decode cX7_fold 163 = .ok (.iaload, 1) := by decide +kernel
theorem dX7_fold_164 : decode cX7_fold 164 = .ok (.aload_n 0, 1) := by decide +kernel
theorem dX7_fold_165 : decode cX7_fold 165 = .ok (.getfield 30, 3) := by decide +kernel
theorem dX7_fold_168 : decode cX7_fold 168 = .ok (.iload_n 1, 1) := by decide +kernel
theorem dX7_fold_169 : decode cX7_fold 169 = .ok (.iaload, 1) := by decide +kernel
theorem dX7_fold_170 : decode cX7_fold 170 = .ok (.iconst 0, 1) := by decide +kernel
theorem dX7_fold_171 : decode cX7_fold 171 = .ok (.invokevirtual 106, 3) := by decide +kernel
theorem dX7_fold_174 : decode cX7_fold 174 = .ok (.ifCond .ne 12, 3) := by decide +kernel
theorem dX7_fold_177 : decode cX7_fold 177 = .ok (.aload_n 0, 1) := by decide +kernel
theorem dX7_fold_178 : decode cX7_fold 178 = .ok (.sipush 2000, 3) := by decide +kernel
theorem dX7_fold_181 : decode cX7_fold 181 = .ok (.putfield 42, 3) := by decide +kernel
theorem dX7_fold_184 : decode cX7_fold 184 = .ok (.iconst 0, 1) := by decide +kernel
theorem dX7_fold_185 : decode cX7_fold 185 = .ok (.ireturn, 1) := by decide +kernel
theorem dX7_fold_186 : decode cX7_fold 186 = .ok (.aload_n 0, 1) := by decide +kernel
theorem dX7_fold_187 : decode cX7_fold 187 = .ok (.getfield 46, 3) := by decide +kernel
theorem dX7_fold_190 : decode cX7_fold 190 = .ok (.bipush 6, 2) := by decide +kernel
theorem dX7_fold_192 : decode cX7_fold 192 = .ok (.dup2, 1) := by decide +kernel
theorem dX7_fold_193 : decode cX7_fold 193 = .ok (.iaload, 1) := by decide +kernel
theorem dX7_fold_194 : decode cX7_fold 194 = .ok (.aload_n 0, 1) := by decide +kernel
theorem dX7_fold_195 : decode cX7_fold 195 = .ok (.getfield 89, 3) := by decide +kernel
theorem dX7_fold_198 : decode cX7_fold 198 = .ok (.iadd, 1) := by decide +kernel
theorem dX7_fold_199 : decode cX7_fold 199 = .ok (.iastore, 1) := by decide +kernel
theorem dX7_fold_200 : decode cX7_fold 200 = .ok (.aload_n 0, 1) := by decide +kernel
theorem dX7_fold_201 : decode cX7_fold 201 = .ok (.getfield 39, 3) := by decide +kernel
theorem dX7_fold_204 : decode cX7_fold 204 = .ok (.iload_n 2, 1) := by decide +kernel
theorem dX7_fold_205 : decode cX7_fold 205 = .ok (.aload_n 0, 1) := by decide +kernel
theorem dX7_fold_206 : decode cX7_fold 206 = .ok (.getfield 99, 3) := by decide +kernel
theorem dX7_fold_209 : decode cX7_fold 209 = .ok (.iastore, 1) := by decide +kernel
theorem dX7_fold_210 : decode cX7_fold 210 = .ok (.iinc 1 1, 3) := by decide +kernel
theorem dX7_fold_213 : decode cX7_fold 213 = .ok (.goto (-206), 3) := by decide +kernel
theorem dX7_fold_216 : decode cX7_fold 216 = .ok (.aload_n 0, 1) := by decide +kernel
theorem dX7_fold_217 : decode cX7_fold 217 = .ok (.getfield 46, 3) := by decide +kernel
theorem dX7_fold_220 : decode cX7_fold 220 = .ok (.iconst 3, 1) := by decide +kernel
theorem dX7_fold_221 : decode cX7_fold 221 = .ok (.aload_n 0, 1) := by decide +kernel
theorem dX7_fold_222 : decode cX7_fold 222 = .ok (.getfield 110, 3) := by decide +kernel
theorem dX7_fold_225 : decode cX7_fold 225 = .ok (.iastore, 1) := by decide +kernel
theorem dX7_fold_226 : decode cX7_fold 226 = .ok (.iconst 1, 1) := by decide +kernel
theorem dX7_fold_227 : decode cX7_fold 227 = .ok (.ireturn, 1) := by decide +kernel
theorem dX7_end_0 : decode cX7_end 0 = .ok (.aload_n 0, 1) := by decide +kernel
theorem dX7_end_1 : decode cX7_end 1 = .ok (.getfield 24, 3) := by decide +kernel
theorem dX7_end_4 : decode cX7_end 4 = .ok (.iconst 3, 1) := by decide +kernel
theorem dX7_end_5 : decode cX7_end 5 = .ok (.iaload, 1) := by decide +kernel
theorem dX7_end_6 : decode cX7_end 6 = .ok (.ifCond .ne 5, 3) := by decide +kernel
theorem dX7_end_9 : decode cX7_end 9 = .ok (.iconst 1, 1) := by decide +kernel
theorem dX7_end_10 : decode cX7_end 10 = .ok (.ireturn, 1) := by decide +kernel
theorem dX7_end_11 : decode cX7_end 11 = .ok (.iconst 0, 1) := by decide +kernel
theorem dX7_end_12 : decode cX7_end 12 = .ok (.istore_n 1, 1) := by decide +kernel
theorem dX7_end_13 : decode cX7_end 13 = .ok (.iconst 0, 1) := by decide +kernel
theorem dX7_end_14 : decode cX7_end 14 = .ok (.istore_n 2, 1) := by decide +kernel
theorem dX7_end_15 : decode cX7_end 15 = .ok (.iload_n 2, 1) := by decide +kernel
theorem dX7_end_16 : decode cX7_end 16 = .ok (.aload_n 0, 1) := by decide +kernel
theorem dX7_end_17 : decode cX7_end 17 = .ok (.getfield 110, 3) := by decide +kernel
theorem dX7_end_20 : decode cX7_end 20 = .ok (.if_icmp .ge 89, 3) := by decide +kernel
theorem dX7_end_23 : decode cX7_end 23 = .ok (.aload_n 0, 1) := by decide +kernel
theorem dX7_end_24 : decode cX7_end 24 = .ok (.iconst 3, 1) := by decide +kernel
theorem dX7_end_25 : decode cX7_end 25 = .ok (.aload_n 0, 1) := by decide +kernel
theorem dX7_end_26 : decode cX7_end 26 = .ok (.getfield 36, 3) := by decide +kernel
theorem dX7_end_29 : decode cX7_end 29 = .ok (.iload_n 2, 1) := by decide +kernel
theorem dX7_end_30 : decode cX7_end 30 = .ok (.iaload, 1) := by decide +kernel
theorem dX7_end_31 : decode cX7_end 31 = .ok (.aload_n 0, 1) := by decide +kernel
theorem dX7_end_32 : decode cX7_end 32 = .ok (.getfield 39, 3) := by decide +kernel
theorem dX7_end_35 : decode cX7_end 35 = .ok (.iload_n 2, 1) := by decide +kernel
theorem dX7_end_36 : decode cX7_end 36 = .ok (.iaload, 1) := by decide +kernel
theorem dX7_end_37 : decode cX7_end 37 = .ok (.iconst 0, 1) := by decide +kernel
theorem dX7_end_38 : decode cX7_end 38 = .ok (.iconst 0, 1) := by decide +kernel
theorem dX7_end_39 : decode cX7_end 39 = .ok (.invokevirtual 106, 3) := by decide +kernel
theorem dX7_end_42 : decode cX7_end 42 = .ok (.ifCond .ne 12, 3) := by decide +kernel
theorem dX7_end_45 : decode cX7_end 45 = .ok (.aload_n 0, 1) := by decide +kernel
theorem dX7_end_46 : decode cX7_end 46 = .ok (.sipush 3000, 3) := by decide +kernel
theorem dX7_end_49 : decode cX7_end 49 = .ok (.putfield 42, 3) := by decide +kernel
theorem dX7_end_52 : decode cX7_end 52 = .ok (.iconst 0, 1) := by decide +kernel
theorem dX7_end_53 : decode cX7_end 53 = .ok (.ireturn, 1) := by decide +kernel
theorem dX7_end_54 : decode cX7_end 54 = .ok (.aload_n 0, 1) := by decide +kernel
theorem dX7_end_55 : decode cX7_end 55 = .ok (.getfield 46, 3) := by decide +kernel
theorem dX7_end_58 : decode cX7_end 58 = .ok (.bipush 7, 2) := by decide +kernel
theorem dX7_end_60 : decode cX7_end 60 = .ok (.dup2, 1) := by decide +kernel
theorem dX7_end_61 : decode cX7_end 61 = .ok (.iaload, 1) := by decide +kernel
theorem dX7_end_62 : decode cX7_end 62 = .ok (.aload_n 0, 1) := by decide +kernel
theorem dX7_end_63 : decode cX7_end 63 = .ok (.getfield 89, 3) := by decide +kernel
theorem dX7_end_66 : decode cX7_end 66 = .ok (.iadd, 1) := by decide +kernel
theorem dX7_end_67 : decode cX7_end 67 = .ok (.iastore, 1) := by decide +kernel
theorem dX7_end_68 : decode cX7_end 68 = .ok (.aload_n 0, 1) := by decide +kernel
theorem dX7_end_69 : decode cX7_end 69 = .ok (.getfield 92, 3) := by decide +kernel
theorem dX7_end_72 : decode cX7_end 72 = .ok (.ifCond .eq 6, 3) := by decide +kernel
theorem dX7_end_75 : decode cX7_end 75 = .ok (.goto 28, 3) := by decide +kernel
theorem dX7_end_78 : decode cX7_end 78 = .ok (.aload_n 0, 1) := by decide +kernel
theorem dX7_end_79 : decode cX7_end 79 = .ok (.getfield 36, 3) := by decide +kernel
theorem dX7_end_82 : decode cX7_end 82 = .ok (.iload_n 1, 1) := by decide +kernel
theorem dX7_end_83 : decode cX7_end 83 = .ok (.aload_n 0, 1) := by decide +kernel
theorem dX7_end_84 : decode cX7_end 84 = .ok (.getfield 36, 3) := by decide +kernel
theorem dX7_end_87 : decode cX7_end 87 = .ok (.iload_n 2, 1) := by decide +kernel
theorem dX7_end_88 : decode cX7_end 88 = .ok (.iaload, 1) := by decide +kernel
theorem dX7_end_89 : decode cX7_end 89 = .ok (.iastore, 1) := by decide +kernel
theorem dX7_end_90 : decode cX7_end 90 = .ok (.aload_n 0, 1) := by decide +kernel
theorem dX7_end_91 : decode cX7_end 91 = .ok (.getfield 39, 3) := by decide +kernel
theorem dX7_end_94 : decode cX7_end 94 = .ok (.iload_n 1, 1) := by decide +kernel
theorem dX7_end_95 : decode cX7_end 95 = .ok (.aload_n 0, 1) := by decide +kernel
theorem dX7_end_96 : decode cX7_end 96 = .ok (.getfield 99, 3) := by decide +kernel
theorem dX7_end_99 : decode cX7_end 99 = .ok (.iastore, 1) := by decide +kernel
theorem dX7_end_100 : decode cX7_end 100 = .ok (.iinc 1 1, 3) := by decide +kernel
theorem dX7_end_103 : decode cX7_end 103 = .ok (.iinc 2 1, 3) := by decide +kernel
theorem dX7_end_106 : decode cX7_end 106 = .ok (.goto (-91), 3) := by decide +kernel
theorem dX7_end_109 : decode cX7_end 109 = .ok (.aload_n 0, 1) := by decide +kernel
theorem dX7_end_110 : decode cX7_end 110 = .ok (.iload_n 1, 1) := by decide +kernel
theorem dX7_end_111 : decode cX7_end 111 = .ok (.putfield 110, 3) := by decide +kernel
theorem dX7_end_114 : decode cX7_end 114 = .ok (.iconst 1, 1) := by decide +kernel
theorem dX7_end_115 : decode cX7_end 115 = .ok (.ireturn, 1) := by decide +kernel
theorem dX7_done_0 : decode cX7_done 0 = .ok (.aload_n 0, 1) := by decide +kernel
theorem dX7_done_1 : decode cX7_done 1 = .ok (.invokevirtual 113, 3) := by decide +kernel
theorem dX7_done_4 : decode cX7_done 4 = .ok (.ifCond .eq 10, 3) := by decide +kernel
theorem dX7_done_7 : decode cX7_done 7 = .ok (.aload_n 0, 1) := by decide +kernel
theorem dX7_done_8 : decode cX7_done 8 = .ok (.invokevirtual 117, 3) := by decide +kernel
theorem dX7_done_11 : decode cX7_done 11 = .ok (.ifCond .ne 5, 3) := by decide +kernel
theorem dX7_done_14 : decode cX7_done 14 = .ok (.iconst 0, 1) := by decide +kernel
theorem dX7_done_15 : decode cX7_done 15 = .ok (.ireturn, 1) := by decide +kernel
theorem dX7_done_16 : decode cX7_done 16 = .ok (.aload_n 0, 1) := by decide +kernel
theorem dX7_done_17 : decode cX7_done 17 = .ok (.getfield 46, 3) := by decide +kernel
theorem dX7_done_20 : decode cX7_done 20 = .ok (.iconst 2, 1) := by decide +kernel
theorem dX7_done_21 : decode cX7_done 21 = .ok (.aload_n 0, 1) := by decide +kernel
theorem dX7_done_22 : decode cX7_done 22 = .ok (.getfield 96, 3) := by decide +kernel
theorem dX7_done_25 : decode cX7_done 25 = .ok (.iastore, 1) := by decide +kernel
theorem dX7_done_26 : decode cX7_done 26 = .ok (.aload_n 0, 1) := by decide +kernel
theorem dX7_done_27 : decode cX7_done 27 = .ok (.invokevirtual 120, 3) := by decide +kernel
theorem dX7_done_30 : decode cX7_done 30 = .ok (.ifCond .eq 14, 3) := by decide +kernel
theorem dX7_done_33 : decode cX7_done 33 = .ok (.aload_n 0, 1) := by decide +kernel
theorem dX7_done_34 : decode cX7_done 34 = .ok (.invokevirtual 123, 3) := by decide +kernel
theorem dX7_done_37 : decode cX7_done 37 = .ok (.ifCond .eq 7, 3) := by decide +kernel
theorem dX7_done_40 : decode cX7_done 40 = .ok (.iconst 1, 1) := by decide +kernel
theorem dX7_done_41 : decode cX7_done 41 = .ok (.goto 4, 3) := by decide +kernel
theorem dX7_done_44 : decode cX7_done 44 = .ok (.iconst 0, 1) := by decide +kernel
theorem dX7_done_45 : decode cX7_done 45 = .ok (.ireturn, 1) := by decide +kernel
theorem dX7_run_0 : decode cX7_run 0 = .ok (.aload_n 0, 1) := by decide +kernel
theorem dX7_run_1 : decode cX7_run 1 = .ok (.iconst 0, 1) := by decide +kernel
theorem dX7_run_2 : decode cX7_run 2 = .ok (.iconst 0, 1) := by decide +kernel
theorem dX7_run_3 : decode cX7_run 3 = .ok (.invokevirtual 126, 3) := by decide +kernel
theorem dX7_run_6 : decode cX7_run 6 = .ok (.ifCond .eq 30, 3) := by decide +kernel
theorem dX7_run_9 : decode cX7_run 9 = .ok (.aload_n 0, 1) := by decide +kernel
theorem dX7_run_10 : decode cX7_run 10 = .ok (.iconst 2, 1) := by decide +kernel
theorem dX7_run_11 : decode cX7_run 11 = .ok (.iconst 0, 1) := by decide +kernel
theorem dX7_run_12 : decode cX7_run 12 = .ok (.invokevirtual 126, 3) := by decide +kernel
theorem dX7_run_15 : decode cX7_run 15 = .ok (.ifCond .eq 21, 3) := by decide +kernel
theorem dX7_run_18 : decode cX7_run 18 = .ok (.aload_n 0, 1) := by decide +kernel
theorem dX7_run_19 : decode cX7_run 19 = .ok (.iconst 1, 1) := by decide +kernel
theorem dX7_run_20 : decode cX7_run 20 = .ok (.iconst 1, 1) := by decide +kernel
theorem dX7_run_21 : decode cX7_run 21 = .ok (.invokevirtual 126, 3) := by decide +kernel
theorem dX7_run_24 : decode cX7_run 24 = .ok (.ifCond .eq 12, 3) := by decide +kernel
theorem dX7_run_27 : decode cX7_run 27 = .ok (.aload_n 0, 1) := by decide +kernel
theorem dX7_run_28 : decode cX7_run 28 = .ok (.iconst 3, 1) := by decide +kernel
theorem dX7_run_29 : decode cX7_run 29 = .ok (.iconst 1, 1) := by decide +kernel
theorem dX7_run_30 : decode cX7_run 30 = .ok (.invokevirtual 126, 3) := by decide +kernel
theorem dX7_run_33 : decode cX7_run 33 = .ok (.ifCond .ne 6, 3) := by decide +kernel
theorem dX7_run_36 : decode cX7_run 36 = .ok (.bipush (-2), 2) := by decide +kernel
theorem dX7_run_38 : decode cX7_run 38 = .ok (.ireturn, 1) := by decide +kernel
theorem dX7_run_39 : decode cX7_run 39 = .ok (.aload_n 0, 1) := by decide +kernel
theorem dX7_run_40 : decode cX7_run 40 = .ok (.getfield 46, 3) := by decide +kernel
theorem dX7_run_43 : decode cX7_run 43 = .ok (.iconst 0, 1) := by decide +kernel
theorem dX7_run_44 : decode cX7_run 44 = .ok (.invokestatic 83, 3) := by decide +kernel
theorem dX7_run_47 : decode cX7_run 47 = .ok (.aload_n 0, 1) := by decide +kernel
theorem dX7_run_48 : decode cX7_run 48 = .ok (.iconst (-1), 1) := by decide +kernel
theorem dX7_run_49 : decode cX7_run 49 = .ok (.putfield 42, 3) := by decide +kernel
theorem dX7_run_52 : decode cX7_run 52 = .ok (.aload_n 0, 1) := by decide +kernel
theorem dX7_run_53 : decode cX7_run 53 = .ok (.invokevirtual 130, 3) := by decide +kernel
theorem dX7_run_56 : decode cX7_run 56 = .ok (.ifCond .eq 8, 3) := by decide +kernel
theorem dX7_run_59 : decode cX7_run 59 = .ok (.aload_n 0, 1) := by decide +kernel
theorem dX7_run_60 : decode cX7_run 60 = .ok (.getfield 110, 3) := by decide +kernel
theorem dX7_run_63 : decode cX7_run 63 = .ok (.ireturn, 1) := by decide +kernel
theorem dX7_run_64 : decode cX7_run 64 = .ok (.aload_n 0, 1) := by decide +kernel
theorem dX7_run_65 : decode cX7_run 65 = .ok (.iconst 0, 1) := by decide +kernel
theorem dX7_run_66 : decode cX7_run 66 = .ok (.putfield 110, 3) := by decide +kernel
theorem dX7_run_69 : decode cX7_run 69 = .ok (.aload_n 0, 1) := by decide +kernel
theorem dX7_run_70 : decode cX7_run 70 = .ok (.getfield 46, 3) := by decide +kernel
theorem dX7_run_73 : decode cX7_run 73 = .ok (.iconst 0, 1) := by decide +kernel
theorem dX7_run_74 : decode cX7_run 74 = .ok (.invokestatic 83, 3) := by decide +kernel
theorem dX7_run_77 : decode cX7_run 77 = .ok (.bipush (-4), 2) := by decide +kernel
theorem dX7_run_79 : decode cX7_run 79 = .ok (.ireturn, 1) := by decide +kernel
theorem dX7_result_0 : decode cX7_result 0 = .ok (.iload_n 1, 1) := by decide +kernel
theorem dX7_result_1 : decode cX7_result 1 = .ok (.ifCond .lt 20, 3) := by decide +kernel
theorem dX7_result_4 : decode cX7_result 4 = .ok (.iload_n 1, 1) := by decide +kernel
theorem dX7_result_5 : decode cX7_result 5 = .ok (.aload_n 0, 1) := by decide +kernel
theorem dX7_result_6 : decode cX7_result 6 = .ok (.getfield 110, 3) := by decide +kernel
theorem dX7_result_9 : decode cX7_result 9 = .ok (.if_icmp .ge 12, 3) := by decide +kernel
theorem dX7_result_12 : decode cX7_result 12 = .ok (.iload_n 2, 1) := by decide +kernel
theorem dX7_result_13 : decode cX7_result 13 = .ok (.ifCond .lt 8, 3) := by decide +kernel
theorem dX7_result_16 : decode cX7_result 16 = .ok (.iload_n 2, 1) := by decide +kernel
theorem dX7_result_17 : decode cX7_result 17 = .ok (.iconst 1, 1) := by decide +kernel
theorem dX7_result_18 : decode cX7_result 18 = .ok (.if_icmp .le 7, 3) := by decide +kernel
theorem dX7_result_21 : decode cX7_result 21 = .ok (.ldc2_w 133, 3) := by decide +kernel
theorem dX7_result_24 : decode cX7_result 24 = .ok (.lreturn, 1) := by decide +kernel
theorem dX7_result_25 : decode cX7_result 25 = .ok (.iload_n 2, 1) := by decide +kernel
theorem dX7_result_26 : decode cX7_result 26 = .ok (.ifCond .ne 13, 3) := by decide +kernel
theorem dX7_result_29 : decode cX7_result 29 = .ok (.aload_n 0, 1) := by decide +kernel
theorem dX7_result_30 : decode cX7_result 30 = .ok (.getfield 36, 3) := by decide +kernel
theorem dX7_result_33 : decode cX7_result 33 = .ok (.iload_n 1, 1) := by decide +kernel
theorem dX7_result_34 : decode cX7_result 34 = .ok (.iaload, 1) := by decide +kernel
theorem dX7_result_35 : decode cX7_result 35 = .ok (.i2l, 1) := by decide +kernel
theorem dX7_result_36 : decode cX7_result 36 = .ok (.goto 10, 3) := by decide +kernel
theorem dX7_result_39 : decode cX7_result 39 = .ok (.aload_n 0, 1) := by decide +kernel
theorem dX7_result_40 : decode cX7_result 40 = .ok (.getfield 39, 3) := by decide +kernel
theorem dX7_result_43 : decode cX7_result 43 = .ok (.iload_n 1, 1) := by decide +kernel
theorem dX7_result_44 : decode cX7_result 44 = .ok (.iaload, 1) := by decide +kernel
theorem dX7_result_45 : decode cX7_result 45 = .ok (.i2l, 1) := by decide +kernel
theorem dX7_result_46 : decode cX7_result 46 = .ok (.lreturn, 1) := by decide +kernel
theorem dX7_valueOf_0 : decode cX7_valueOf 0 = .ok (.iconst 0, 1) := by decide +kernel
theorem dX7_valueOf_1 : decode cX7_valueOf 1 = .ok (.istore_n 2, 1) := by decide +kernel
theorem dX7_valueOf_2 : decode cX7_valueOf 2 = .ok (.iload_n 2, 1) := by decide +kernel
theorem dX7_valueOf_3 : decode cX7_valueOf 3 = .ok (.aload_n 0, 1) := by decide +kernel
theorem dX7_valueOf_4 : decode cX7_valueOf 4 = .ok (.getfield 110, 3) := by decide +kernel
theorem dX7_valueOf_7 : decode cX7_valueOf 7 = .ok (.if_icmp .ge 27, 3) := by decide +kernel
theorem dX7_valueOf_10 : decode cX7_valueOf 10 = .ok (.aload_n 0, 1) := by decide +kernel
theorem dX7_valueOf_11 : decode cX7_valueOf 11 = .ok (.getfield 36, 3) := by decide +kernel
theorem dX7_valueOf_14 : decode cX7_valueOf 14 = .ok (.iload_n 2, 1) := by decide +kernel
theorem dX7_valueOf_15 : decode cX7_valueOf 15 = .ok (.iaload, 1) := by decide +kernel
theorem dX7_valueOf_16 : decode cX7_valueOf 16 = .ok (.iload_n 1, 1) := by decide +kernel
theorem dX7_valueOf_17 : decode cX7_valueOf 17 = .ok (.if_icmp .ne 11, 3) := by decide +kernel
theorem dX7_valueOf_20 : decode cX7_valueOf 20 = .ok (.aload_n 0, 1) := by decide +kernel
theorem dX7_valueOf_21 : decode cX7_valueOf 21 = .ok (.getfield 39, 3) := by decide +kernel
theorem dX7_valueOf_24 : decode cX7_valueOf 24 = .ok (.iload_n 2, 1) := by decide +kernel
theorem dX7_valueOf_25 : decode cX7_valueOf 25 = .ok (.iaload, 1) := by decide +kernel
theorem dX7_valueOf_26 : decode cX7_valueOf 26 = .ok (.i2l, 1) := by decide +kernel
theorem dX7_valueOf_27 : decode cX7_valueOf 27 = .ok (.lreturn, 1) := by decide +kernel
theorem dX7_valueOf_28 : decode cX7_valueOf 28 = .ok (.iinc 2 1, 3) := by decide +kernel
theorem dX7_valueOf_31 : decode cX7_valueOf 31 = .ok (.goto (-29), 3) := by decide +kernel
theorem dX7_valueOf_34 : decode cX7_valueOf 34 = .ok (.ldc2_w 133, 3) := by decide +kernel
theorem dX7_valueOf_37 : decode cX7_valueOf 37 = .ok (.lreturn, 1) := by decide +kernel
theorem dX7_count_0 : decode cX7_count 0 = .ok (.iload_n 1, 1) := by decide +kernel
theorem dX7_count_1 : decode cX7_count 1 = .ok (.ifCond .ne 8, 3) := by decide +kernel
theorem dX7_count_4 : decode cX7_count 4 = .ok (.aload_n 0, 1) := by decide +kernel
theorem dX7_count_5 : decode cX7_count 5 = .ok (.getfield 42, 3) := by decide +kernel
theorem dX7_count_8 : decode cX7_count 8 = .ok (.ireturn, 1) := by decide +kernel
theorem dX7_count_9 : decode cX7_count 9 = .ok (.iload_n 1, 1) := by decide +kernel
theorem dX7_count_10 : decode cX7_count 10 = .ok (.bipush 8, 2) := by decide +kernel
theorem dX7_count_12 : decode cX7_count 12 = .ok (.if_icmp .ne 8, 3) := by decide +kernel
theorem dX7_count_15 : decode cX7_count 15 = .ok (.aload_n 0, 1) := by decide +kernel
theorem dX7_count_16 : decode cX7_count 16 = .ok (.getfield 58, 3) := by decide +kernel
theorem dX7_count_19 : decode cX7_count 19 = .ok (.ireturn, 1) := by decide +kernel
theorem dX7_count_20 : decode cX7_count 20 = .ok (.iload_n 1, 1) := by decide +kernel
theorem dX7_count_21 : decode cX7_count 21 = .ok (.bipush 9, 2) := by decide +kernel
theorem dX7_count_23 : decode cX7_count 23 = .ok (.if_icmp .ne 20, 3) := by decide +kernel
theorem dX7_count_26 : decode cX7_count 26 = .ok (.aload_n 0, 1) := by decide +kernel
theorem dX7_count_27 : decode cX7_count 27 = .ok (.getfield 58, 3) := by decide +kernel
theorem dX7_count_30 : decode cX7_count 30 = .ok (.aload_n 0, 1) := by decide +kernel
theorem dX7_count_31 : decode cX7_count 31 = .ok (.getfield 55, 3) := by decide +kernel
theorem dX7_count_34 : decode cX7_count 34 = .ok (.iadd, 1) := by decide +kernel
theorem dX7_count_35 : decode cX7_count 35 = .ok (.iconst 1, 1) := by decide +kernel
theorem dX7_count_36 : decode cX7_count 36 = .ok (.isub, 1) := by decide +kernel
theorem dX7_count_37 : decode cX7_count 37 = .ok (.aload_n 0, 1) := by decide +kernel
theorem dX7_count_38 : decode cX7_count 38 = .ok (.getfield 55, 3) := by decide +kernel
theorem dX7_count_41 : decode cX7_count 41 = .ok (.idiv, 1) := by decide +kernel
theorem dX7_count_42 : decode cX7_count 42 = .ok (.ireturn, 1) := by decide +kernel
theorem dX7_count_43 : decode cX7_count 43 = .ok (.iload_n 1, 1) := by decide +kernel
theorem dX7_count_44 : decode cX7_count 44 = .ok (.iconst 1, 1) := by decide +kernel
theorem dX7_count_45 : decode cX7_count 45 = .ok (.if_icmp .lt 18, 3) := by decide +kernel
theorem dX7_count_48 : decode cX7_count 48 = .ok (.iload_n 1, 1) := by decide +kernel
theorem dX7_count_49 : decode cX7_count 49 = .ok (.bipush 7, 2) := by decide +kernel
theorem dX7_count_51 : decode cX7_count 51 = .ok (.if_icmp .gt 12, 3) := by decide +kernel
theorem dX7_count_54 : decode cX7_count 54 = .ok (.aload_n 0, 1) := by decide +kernel
theorem dX7_count_55 : decode cX7_count 55 = .ok (.getfield 46, 3) := by decide +kernel
theorem dX7_count_58 : decode cX7_count 58 = .ok (.iload_n 1, 1) := by decide +kernel
theorem dX7_count_59 : decode cX7_count 59 = .ok (.iaload, 1) := by decide +kernel
theorem dX7_count_60 : decode cX7_count 60 = .ok (.goto 4, 3) := by decide +kernel
theorem dX7_count_63 : decode cX7_count 63 = .ok (.iconst (-1), 1) := by decide +kernel
theorem dX7_count_64 : decode cX7_count 64 = .ok (.ireturn, 1) := by decide +kernel

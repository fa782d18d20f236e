theorem d_Td_init_0 : decode b_Td_init 0 = .ok (.aload_n 0, 1) := by decide +kernel
theorem d_Td_init_1 : decode b_Td_init 1 = .ok (.invokespecial 3, 3) := by decide +kernel
theorem d_Td_init_4 : decode b_Td_init 4 = .ok (.aload_n 0, 1) := by decide +kernel
theorem d_Td_init_5 : decode b_Td_init 5 = .ok (.sipush 600, 3) := by decide +kernel
theorem d_Td_init_8 : decode b_Td_init 8 = .ok (.newarray .int, 2) := by decide +kernel
theorem d_Td_init_10 : decode b_Td_init 10 = .ok (.putfield 9, 3) := by decide +kernel
theorem d_Td_init_13 : decode b_Td_init 13 = .ok (.aload_n 0, 1) := by decide +kernel
theorem d_Td_init_14 : decode b_Td_init 14 = .ok (.iconst (-1), 1) := by decide +kernel
theorem d_Td_init_15 : decode b_Td_init 15 = .ok (.putfield 15, 3) := by decide +kernel
theorem d_Td_init_18 : decode b_Td_init 18 = .ok (.aload_n 0, 1) := by decide +kernel
theorem d_Td_init_19 : decode b_Td_init 19 = .ok (.iconst 5, 1) := by decide +kernel
theorem d_Td_init_20 : decode b_Td_init 20 = .ok (.newarray .int, 2) := by decide +kernel
theorem d_Td_init_22 : decode b_Td_init 22 = .ok (.putfield 19, 3) := by decide +kernel
theorem d_Td_init_25 : decode b_Td_init 25 = .ok (.aload_n 0, 1) := by decide +kernel
theorem d_Td_init_26 : decode b_Td_init 26 = .ok (.iconst 2, 1) := by decide +kernel
theorem d_Td_init_27 : decode b_Td_init 27 = .ok (.anewarray 22, 3) := by decide +kernel
theorem d_Td_init_30 : decode b_Td_init 30 = .ok (.putfield 24, 3) := by decide +kernel
theorem d_Td_init_33 : decode b_Td_init 33 = .ok (.aload_n 0, 1) := by decide +kernel
theorem d_Td_init_34 : decode b_Td_init 34 = .ok (.iconst 2, 1) := by decide +kernel
theorem d_Td_init_35 : decode b_Td_init 35 = .ok (.bipush 24, 2) := by decide +kernel
theorem d_Td_init_37 : decode b_Td_init 37 = .ok (.multianewarray 28 2, 4) := by decide +kernel
theorem d_Td_init_41 : decode b_Td_init 41 = .ok (.putfield 30, 3) := by decide +kernel
theorem d_Td_init_44 : decode b_Td_init 44 = .ok (.aload_n 0, 1) := by decide +kernel
theorem d_Td_init_45 : decode b_Td_init 45 = .ok (.iconst 2, 1) := by decide +kernel
theorem d_Td_init_46 : decode b_Td_init 46 = .ok (.anewarray 33, 3) := by decide +kernel
theorem d_Td_init_49 : decode b_Td_init 49 = .ok (.putfield 35, 3) := by decide +kernel
theorem d_Td_init_52 : decode b_Td_init 52 = .ok (.aload_n 0, 1) := by decide +kernel
theorem d_Td_init_53 : decode b_Td_init 53 = .ok (.iconst 2, 1) := by decide +kernel
theorem d_Td_init_54 : decode b_Td_init 54 = .ok (.anewarray 39, 3) := by decide +kernel
theorem d_Td_init_57 : decode b_Td_init 57 = .ok (.putfield 41, 3) := by decide +kernel
theorem d_Td_init_60 : decode b_Td_init 60 = .ok (.aload_n 0, 1) := by decide +kernel
theorem d_Td_init_61 : decode b_Td_init 61 = .ok (.iconst 2, 1) := by decide +kernel
theorem d_Td_init_62 : decode b_Td_init 62 = .ok (.bipush 8, 2) := by decide +kernel
theorem d_Td_init_64 : decode b_Td_init 64 = .ok (.multianewarray 28 2, 4) := by decide +kernel
theorem d_Td_init_68 : decode b_Td_init 68 = .ok (.putfield 45, 3) := by decide +kernel
theorem d_Td_init_71 : decode b_Td_init 71 = .ok (.iconst 0, 1) := by decide +kernel
theorem d_Td_init_72 : decode b_Td_init 72 = .ok (.istore_n 1, 1) := by decide +kernel
theorem d_Td_init_73 : decode b_Td_init 73 = .ok (.iload_n 1, 1) := by decide +kernel
theorem d_Td_init_74 : decode b_Td_init 74 = .ok (.iconst 2, 1) := by decide +kernel
theorem d_Td_init_75 : decode b_Td_init 75 = .ok (.if_icmp .ge 48, 3) := by decide +kernel
theorem d_Td_init_78 : decode b_Td_init 78 = .ok (.aload_n 0, 1) := by decide +kernel
theorem d_Td_init_79 : decode b_Td_init 79 = .ok (.getfield 24, 3) := by decide +kernel
theorem d_Td_init_82 : decode b_Td_init 82 = .ok (.iload_n 1, 1) := by decide +kernel
theorem d_Td_init_83 : decode b_Td_init 83 = .ok (.new 22, 3) := by decide +kernel
theorem d_Td_init_86 : decode b_Td_init 86 = .ok (.dup, 1) := by decide +kernel
theorem d_Td_init_87 : decode b_Td_init 87 = .ok (.invokespecial 48, 3) := by decide +kernel
theorem d_Td_init_90 : decode b_Td_init 90 = .ok (.aastore, 1) := by decide +kernel
theorem d_Td_init_91 : decode b_Td_init 91 = .ok (.aload_n 0, 1) := by decide +kernel
theorem d_Td_init_92 : decode b_Td_init 92 = .ok (.getfield 35, 3) := by decide +kernel
theorem d_Td_init_95 : decode b_Td_init 95 = .ok (.iload_n 1, 1) := by decide +kernel
theorem d_Td_init_96 : decode b_Td_init 96 = .ok (.new 33, 3) := by decide +kernel
theorem d_Td_init_99 : decode b_Td_init 99 = .ok (.dup, 1) := by decide +kernel
theorem d_Td_init_100 : decode b_Td_init 100 = .ok (.invokespecial 49, 3) := by decide +kernel
theorem d_Td_init_103 : decode b_Td_init 103 = .ok (.aastore, 1) := by decide +kernel
theorem d_Td_init_104 : decode b_Td_init 104 = .ok (.aload_n 0, 1) := by decide +kernel
theorem d_Td_init_105 : decode b_Td_init 105 = .ok (.getfield 41, 3) := by decide +kernel
theorem d_Td_init_108 : decode b_Td_init 108 = .ok (.iload_n 1, 1) := by decide +kernel
theorem d_Td_init_109 : decode b_Td_init 109 = .ok (.new 39, 3) := by decide +kernel
theorem d_Td_init_112 : decode b_Td_init 112 = .ok (.dup, 1) := by decide +kernel
theorem d_Td_init_113 : decode b_Td_init 113 = .ok (.invokespecial 50, 3) := by decide +kernel
theorem d_Td_init_116 : decode b_Td_init 116 = .ok (.aastore, 1) := by decide +kernel
theorem d_Td_init_117 : decode b_Td_init 117 = .ok (.iinc 1 1, 3) := by decide +kernel
theorem d_Td_init_120 : decode b_Td_init 120 = .ok (.goto (-47), 3) := by decide +kernel
theorem d_Td_init_123 : decode b_Td_init 123 = .ok (.return_, 1) := by decide +kernel
theorem d_Ld_init_0 : decode b_Ld_init 0 = .ok (.aload_n 0, 1) := by decide +kernel
theorem d_Ld_init_1 : decode b_Ld_init 1 = .ok (.invokespecial 3, 3) := by decide +kernel
theorem d_Ld_init_4 : decode b_Ld_init 4 = .ok (.aload_n 0, 1) := by decide +kernel
theorem d_Ld_init_5 : decode b_Ld_init 5 = .ok (.bipush 12, 2) := by decide +kernel
theorem d_Ld_init_7 : decode b_Ld_init 7 = .ok (.putfield 9, 3) := by decide +kernel
theorem d_Ld_init_10 : decode b_Ld_init 10 = .ok (.aload_n 0, 1) := by decide +kernel
theorem d_Ld_init_11 : decode b_Ld_init 11 = .ok (.iconst 1, 1) := by decide +kernel
theorem d_Ld_init_12 : decode b_Ld_init 12 = .ok (.putfield 15, 3) := by decide +kernel
theorem d_Ld_init_15 : decode b_Ld_init 15 = .ok (.aload_n 0, 1) := by decide +kernel
theorem d_Ld_init_16 : decode b_Ld_init 16 = .ok (.iconst 1, 1) := by decide +kernel
theorem d_Ld_init_17 : decode b_Ld_init 17 = .ok (.putfield 18, 3) := by decide +kernel
theorem d_Ld_init_20 : decode b_Ld_init 20 = .ok (.aload_n 0, 1) := by decide +kernel
theorem d_Ld_init_21 : decode b_Ld_init 21 = .ok (.bipush 10, 2) := by decide +kernel
theorem d_Ld_init_23 : decode b_Ld_init 23 = .ok (.newarray .int, 2) := by decide +kernel
theorem d_Ld_init_25 : decode b_Ld_init 25 = .ok (.putfield 21, 3) := by decide +kernel
theorem d_Ld_init_28 : decode b_Ld_init 28 = .ok (.aload_n 0, 1) := by decide +kernel
theorem d_Ld_init_29 : decode b_Ld_init 29 = .ok (.bipush 10, 2) := by decide +kernel
theorem d_Ld_init_31 : decode b_Ld_init 31 = .ok (.newarray .int, 2) := by decide +kernel
theorem d_Ld_init_33 : decode b_Ld_init 33 = .ok (.putfield 25, 3) := by decide +kernel
theorem d_Ld_init_36 : decode b_Ld_init 36 = .ok (.aload_n 0, 1) := by decide +kernel
theorem d_Ld_init_37 : decode b_Ld_init 37 = .ok (.bipush 10, 2) := by decide +kernel
theorem d_Ld_init_39 : decode b_Ld_init 39 = .ok (.newarray .int, 2) := by decide +kernel
theorem d_Ld_init_41 : decode b_Ld_init 41 = .ok (.putfield 28, 3) := by decide +kernel
theorem d_Ld_init_44 : decode b_Ld_init 44 = .ok (.aload_n 0, 1) := by decide +kernel
theorem d_Ld_init_45 : decode b_Ld_init 45 = .ok (.sipush 240, 3) := by decide +kernel
theorem d_Ld_init_48 : decode b_Ld_init 48 = .ok (.newarray .int, 2) := by decide +kernel
theorem d_Ld_init_50 : decode b_Ld_init 50 = .ok (.putfield 31, 3) := by decide +kernel
theorem d_Ld_init_53 : decode b_Ld_init 53 = .ok (.aload_n 0, 1) := by decide +kernel
theorem d_Ld_init_54 : decode b_Ld_init 54 = .ok (.bipush 6, 2) := by decide +kernel
theorem d_Ld_init_56 : decode b_Ld_init 56 = .ok (.newarray .int, 2) := by decide +kernel
theorem d_Ld_init_58 : decode b_Ld_init 58 = .ok (.putfield 34, 3) := by decide +kernel
theorem d_Ld_init_61 : decode b_Ld_init 61 = .ok (.aload_n 0, 1) := by decide +kernel
theorem d_Ld_init_62 : decode b_Ld_init 62 = .ok (.bipush 6, 2) := by decide +kernel
theorem d_Ld_init_64 : decode b_Ld_init 64 = .ok (.newarray .int, 2) := by decide +kernel
theorem d_Ld_init_66 : decode b_Ld_init 66 = .ok (.putfield 37, 3) := by decide +kernel
theorem d_Ld_init_69 : decode b_Ld_init 69 = .ok (.aload_n 0, 1) := by decide +kernel
theorem d_Ld_init_70 : decode b_Ld_init 70 = .ok (.bipush 24, 2) := by decide +kernel
theorem d_Ld_init_72 : decode b_Ld_init 72 = .ok (.newarray .int, 2) := by decide +kernel
theorem d_Ld_init_74 : decode b_Ld_init 74 = .ok (.putfield 40, 3) := by decide +kernel
theorem d_Ld_init_77 : decode b_Ld_init 77 = .ok (.aload_n 0, 1) := by decide +kernel
theorem d_Ld_init_78 : decode b_Ld_init 78 = .ok (.bipush 24, 2) := by decide +kernel
theorem d_Ld_init_80 : decode b_Ld_init 80 = .ok (.newarray .int, 2) := by decide +kernel
theorem d_Ld_init_82 : decode b_Ld_init 82 = .ok (.putfield 43, 3) := by decide +kernel
theorem d_Ld_init_85 : decode b_Ld_init 85 = .ok (.return_, 1) := by decide +kernel
theorem d_Bk_init_0 : decode b_Bk_init 0 = .ok (.aload_n 0, 1) := by decide +kernel
theorem d_Bk_init_1 : decode b_Bk_init 1 = .ok (.invokespecial 3, 3) := by decide +kernel
theorem d_Bk_init_4 : decode b_Bk_init 4 = .ok (.aload_n 0, 1) := by decide +kernel
theorem d_Bk_init_5 : decode b_Bk_init 5 = .ok (.bipush 30, 2) := by decide +kernel
theorem d_Bk_init_7 : decode b_Bk_init 7 = .ok (.newarray .int, 2) := by decide +kernel
theorem d_Bk_init_9 : decode b_Bk_init 9 = .ok (.putfield 9, 3) := by decide +kernel
theorem d_Bk_init_12 : decode b_Bk_init 12 = .ok (.aload_n 0, 1) := by decide +kernel
theorem d_Bk_init_13 : decode b_Bk_init 13 = .ok (.bipush 30, 2) := by decide +kernel
theorem d_Bk_init_15 : decode b_Bk_init 15 = .ok (.newarray .int, 2) := by decide +kernel
theorem d_Bk_init_17 : decode b_Bk_init 17 = .ok (.putfield 15, 3) := by decide +kernel
theorem d_Bk_init_20 : decode b_Bk_init 20 = .ok (.aload_n 0, 1) := by decide +kernel
theorem d_Bk_init_21 : decode b_Bk_init 21 = .ok (.bipush 96, 2) := by decide +kernel
theorem d_Bk_init_23 : decode b_Bk_init 23 = .ok (.newarray .int, 2) := by decide +kernel
theorem d_Bk_init_25 : decode b_Bk_init 25 = .ok (.putfield 18, 3) := by decide +kernel
theorem d_Bk_init_28 : decode b_Bk_init 28 = .ok (.return_, 1) := by decide +kernel
theorem d_Si_init_0 : decode b_Si_init 0 = .ok (.aload_n 0, 1) := by decide +kernel
theorem d_Si_init_1 : decode b_Si_init 1 = .ok (.invokespecial 3, 3) := by decide +kernel
theorem d_Si_init_4 : decode b_Si_init 4 = .ok (.aload_n 0, 1) := by decide +kernel
theorem d_Si_init_5 : decode b_Si_init 5 = .ok (.bipush 20, 2) := by decide +kernel
theorem d_Si_init_7 : decode b_Si_init 7 = .ok (.newarray .int, 2) := by decide +kernel
theorem d_Si_init_9 : decode b_Si_init 9 = .ok (.putfield 9, 3) := by decide +kernel
theorem d_Si_init_12 : decode b_Si_init 12 = .ok (.aload_n 0, 1) := by decide +kernel
theorem d_Si_init_13 : decode b_Si_init 13 = .ok (.bipush 20, 2) := by decide +kernel
theorem d_Si_init_15 : decode b_Si_init 15 = .ok (.newarray .int, 2) := by decide +kernel
theorem d_Si_init_17 : decode b_Si_init 17 = .ok (.putfield 15, 3) := by decide +kernel
theorem d_Si_init_20 : decode b_Si_init 20 = .ok (.aload_n 0, 1) := by decide +kernel
theorem d_Si_init_21 : decode b_Si_init 21 = .ok (.bipush 20, 2) := by decide +kernel
theorem d_Si_init_23 : decode b_Si_init 23 = .ok (.newarray .int, 2) := by decide +kernel
theorem d_Si_init_25 : decode b_Si_init 25 = .ok (.putfield 18, 3) := by decide +kernel
theorem d_Si_init_28 : decode b_Si_init 28 = .ok (.return_, 1) := by decide +kernel
theorem d_Rd_init_0 : decode b_Rd_init 0 = .ok (.aload_n 0, 1) := by decide +kernel
theorem d_Rd_init_1 : decode b_Rd_init 1 = .ok (.invokespecial 3, 3) := by decide +kernel
theorem d_Rd_init_4 : decode b_Rd_init 4 = .ok (.aload_n 0, 1) := by decide +kernel
theorem d_Rd_init_5 : decode b_Rd_init 5 = .ok (.new 9, 3) := by decide +kernel
theorem d_Rd_init_8 : decode b_Rd_init 8 = .ok (.dup, 1) := by decide +kernel
theorem d_Rd_init_9 : decode b_Rd_init 9 = .ok (.invokespecial 11, 3) := by decide +kernel
theorem d_Rd_init_12 : decode b_Rd_init 12 = .ok (.putfield 12, 3) := by decide +kernel
theorem d_Rd_init_15 : decode b_Rd_init 15 = .ok (.aload_n 0, 1) := by decide +kernel
theorem d_Rd_init_16 : decode b_Rd_init 16 = .ok (.new 18, 3) := by decide +kernel
theorem d_Rd_init_19 : decode b_Rd_init 19 = .ok (.dup, 1) := by decide +kernel
theorem d_Rd_init_20 : decode b_Rd_init 20 = .ok (.invokespecial 20, 3) := by decide +kernel
theorem d_Rd_init_23 : decode b_Rd_init 23 = .ok (.putfield 21, 3) := by decide +kernel
theorem d_Rd_init_26 : decode b_Rd_init 26 = .ok (.aload_n 0, 1) := by decide +kernel
theorem d_Rd_init_27 : decode b_Rd_init 27 = .ok (.bipush 24, 2) := by decide +kernel
theorem d_Rd_init_29 : decode b_Rd_init 29 = .ok (.newarray .int, 2) := by decide +kernel
theorem d_Rd_init_31 : decode b_Rd_init 31 = .ok (.putfield 25, 3) := by decide +kernel
theorem d_Rd_init_34 : decode b_Rd_init 34 = .ok (.aload_n 0, 1) := by decide +kernel
theorem d_Rd_init_35 : decode b_Rd_init 35 = .ok (.new 29, 3) := by decide +kernel
theorem d_Rd_init_38 : decode b_Rd_init 38 = .ok (.dup, 1) := by decide +kernel
theorem d_Rd_init_39 : decode b_Rd_init 39 = .ok (.invokespecial 31, 3) := by decide +kernel
theorem d_Rd_init_42 : decode b_Rd_init 42 = .ok (.putfield 32, 3) := by decide +kernel
theorem d_Rd_init_45 : decode b_Rd_init 45 = .ok (.aload_n 0, 1) := by decide +kernel
theorem d_Rd_init_46 : decode b_Rd_init 46 = .ok (.new 36, 3) := by decide +kernel
theorem d_Rd_init_49 : decode b_Rd_init 49 = .ok (.dup, 1) := by decide +kernel
theorem d_Rd_init_50 : decode b_Rd_init 50 = .ok (.invokespecial 38, 3) := by decide +kernel
theorem d_Rd_init_53 : decode b_Rd_init 53 = .ok (.putfield 39, 3) := by decide +kernel
theorem d_Rd_init_56 : decode b_Rd_init 56 = .ok (.aload_n 0, 1) := by decide +kernel
theorem d_Rd_init_57 : decode b_Rd_init 57 = .ok (.bipush 8, 2) := by decide +kernel
theorem d_Rd_init_59 : decode b_Rd_init 59 = .ok (.newarray .int, 2) := by decide +kernel
theorem d_Rd_init_61 : decode b_Rd_init 61 = .ok (.putfield 43, 3) := by decide +kernel
theorem d_Rd_init_64 : decode b_Rd_init 64 = .ok (.aload_n 0, 1) := by decide +kernel
theorem d_Rd_init_65 : decode b_Rd_init 65 = .ok (.iconst 4, 1) := by decide +kernel
theorem d_Rd_init_66 : decode b_Rd_init 66 = .ok (.newarray .int, 2) := by decide +kernel
theorem d_Rd_init_68 : decode b_Rd_init 68 = .ok (.putfield 46, 3) := by decide +kernel
theorem d_Rd_init_71 : decode b_Rd_init 71 = .ok (.aload_n 0, 1) := by decide +kernel
theorem d_Rd_init_72 : decode b_Rd_init 72 = .ok (.iconst 4, 1) := by decide +kernel
theorem d_Rd_init_73 : decode b_Rd_init 73 = .ok (.newarray .int, 2) := by decide +kernel
theorem d_Rd_init_75 : decode b_Rd_init 75 = .ok (.putfield 49, 3) := by decide +kernel
theorem d_Rd_init_78 : decode b_Rd_init 78 = .ok (.return_, 1) := by decide +kernel
theorem d_To_init_0 : decode b_To_init 0 = .ok (.aload_n 0, 1) := by decide +kernel
theorem d_To_init_1 : decode b_To_init 1 = .ok (.invokespecial 1, 3) := by decide +kernel
theorem d_To_init_4 : decode b_To_init 4 = .ok (.aload_n 0, 1) := by decide +kernel
theorem d_To_init_5 : decode b_To_init 5 = .ok (.iconst 0, 1) := by decide +kernel
theorem d_To_init_6 : decode b_To_init 6 = .ok (.newarray .int, 2) := by decide +kernel
theorem d_To_init_8 : decode b_To_init 8 = .ok (.putfield 7, 3) := by decide +kernel
theorem d_To_init_11 : decode b_To_init 11 = .ok (.return_, 1) := by decide +kernel
theorem d_Pl_init_0 : decode b_Pl_init 0 = .ok (.aload_n 0, 1) := by decide +kernel
theorem d_Pl_init_1 : decode b_Pl_init 1 = .ok (.invokespecial 3, 3) := by decide +kernel
theorem d_Pl_init_4 : decode b_Pl_init 4 = .ok (.aload_n 0, 1) := by decide +kernel
theorem d_Pl_init_5 : decode b_Pl_init 5 = .ok (.sipush 1400, 3) := by decide +kernel
theorem d_Pl_init_8 : decode b_Pl_init 8 = .ok (.newarray .long, 2) := by decide +kernel
theorem d_Pl_init_10 : decode b_Pl_init 10 = .ok (.putfield 11, 3) := by decide +kernel
theorem d_Pl_init_13 : decode b_Pl_init 13 = .ok (.aload_n 0, 1) := by decide +kernel
theorem d_Pl_init_14 : decode b_Pl_init 14 = .ok (.sipush 1400, 3) := by decide +kernel
theorem d_Pl_init_17 : decode b_Pl_init 17 = .ok (.newarray .long, 2) := by decide +kernel
theorem d_Pl_init_19 : decode b_Pl_init 19 = .ok (.putfield 15, 3) := by decide +kernel
theorem d_Pl_init_22 : decode b_Pl_init 22 = .ok (.aload_n 0, 1) := by decide +kernel
theorem d_Pl_init_23 : decode b_Pl_init 23 = .ok (.bipush 24, 2) := by decide +kernel
theorem d_Pl_init_25 : decode b_Pl_init 25 = .ok (.newarray .long, 2) := by decide +kernel
theorem d_Pl_init_27 : decode b_Pl_init 27 = .ok (.putfield 18, 3) := by decide +kernel
theorem d_Pl_init_30 : decode b_Pl_init 30 = .ok (.aload_n 0, 1) := by decide +kernel
theorem d_Pl_init_31 : decode b_Pl_init 31 = .ok (.bipush 48, 2) := by decide +kernel
theorem d_Pl_init_33 : decode b_Pl_init 33 = .ok (.newarray .int, 2) := by decide +kernel
theorem d_Pl_init_35 : decode b_Pl_init 35 = .ok (.putfield 21, 3) := by decide +kernel
theorem d_Pl_init_38 : decode b_Pl_init 38 = .ok (.aload_n 0, 1) := by decide +kernel
theorem d_Pl_init_39 : decode b_Pl_init 39 = .ok (.bipush 24, 2) := by decide +kernel
theorem d_Pl_init_41 : decode b_Pl_init 41 = .ok (.newarray .int, 2) := by decide +kernel
theorem d_Pl_init_43 : decode b_Pl_init 43 = .ok (.putfield 25, 3) := by decide +kernel
theorem d_Pl_init_46 : decode b_Pl_init 46 = .ok (.return_, 1) := by decide +kernel
theorem d_Td_append_0 : decode b_Td_append 0 = .ok (.bipush 24, 2) := by decide +kernel
theorem d_Td_append_2 : decode b_Td_append 2 = .ok (.istore_n 2, 1) := by decide +kernel
theorem d_Td_append_3 : decode b_Td_append 3 = .ok (.iload_n 2, 1) := by decide +kernel
theorem d_Td_append_4 : decode b_Td_append 4 = .ok (.ifCond .lt 45, 3) := by decide +kernel
theorem d_Td_append_7 : decode b_Td_append 7 = .ok (.aload_n 0, 1) := by decide +kernel
theorem d_Td_append_8 : decode b_Td_append 8 = .ok (.getfield 51, 3) := by decide +kernel
theorem d_Td_append_11 : decode b_Td_append 11 = .ok (.sipush 600, 3) := by decide +kernel
theorem d_Td_append_14 : decode b_Td_append 14 = .ok (.if_icmp .ge 35, 3) := by decide +kernel
theorem d_Td_append_17 : decode b_Td_append 17 = .ok (.aload_n 0, 1) := by decide +kernel
theorem d_Td_append_18 : decode b_Td_append 18 = .ok (.getfield 9, 3) := by decide +kernel
theorem d_Td_append_21 : decode b_Td_append 21 = .ok (.aload_n 0, 1) := by decide +kernel
theorem d_Td_append_22 : decode b_Td_append 22 = .ok (.getfield 51, 3) := by decide +kernel
theorem d_Td_append_25 : decode b_Td_append 25 = .ok (.iload_n 1, 1) := by decide +kernel
theorem d_Td_append_26 : decode b_Td_append 26 = .ok (.iload_n 2, 1) := by decide +kernel
theorem d_Td_append_27 : decode b_Td_append 27 = .ok (.iushr, 1) := by decide +kernel
theorem d_Td_append_28 : decode b_Td_append 28 = .ok (.sipush 255, 3) := by decide +kernel
theorem d_Td_append_31 : decode b_Td_append 31 = .ok (.iand, 1) := by decide +kernel
theorem d_Td_append_32 : decode b_Td_append 32 = .ok (.iastore, 1) := by decide +kernel
theorem d_Td_append_33 : decode b_Td_append 33 = .ok (.aload_n 0, 1) := by decide +kernel
theorem d_Td_append_34 : decode b_Td_append 34 = .ok (.dup, 1) := by decide +kernel
theorem d_Td_append_35 : decode b_Td_append 35 = .ok (.getfield 51, 3) := by decide +kernel
theorem d_Td_append_38 : decode b_Td_append 38 = .ok (.iconst 1, 1) := by decide +kernel
theorem d_Td_append_39 : decode b_Td_append 39 = .ok (.iadd, 1) := by decide +kernel
theorem d_Td_append_40 : decode b_Td_append 40 = .ok (.putfield 51, 3) := by decide +kernel
theorem d_Td_append_43 : decode b_Td_append 43 = .ok (.iinc 2 (-8), 3) := by decide +kernel
theorem d_Td_append_46 : decode b_Td_append 46 = .ok (.goto (-43), 3) := by decide +kernel
theorem d_Td_append_49 : decode b_Td_append 49 = .ok (.return_, 1) := by decide +kernel
theorem d_Rd_read_0 : decode b_Rd_read 0 = .ok (.aload_n 0, 1) := by decide +kernel
theorem d_Rd_read_1 : decode b_Rd_read 1 = .ok (.invokevirtual 52, 3) := by decide +kernel
theorem d_Rd_read_4 : decode b_Rd_read 4 = .ok (.aload_n 0, 1) := by decide +kernel
theorem d_Rd_read_5 : decode b_Rd_read 5 = .ok (.getfield 12, 3) := by decide +kernel
theorem d_Rd_read_8 : decode b_Rd_read 8 = .ok (.aload_n 2, 1) := by decide +kernel
theorem d_Rd_read_9 : decode b_Rd_read 9 = .ok (.iload_n 3, 1) := by decide +kernel
theorem d_Rd_read_10 : decode b_Rd_read 10 = .ok (.invokevirtual 55, 3) := by decide +kernel
theorem d_Rd_read_13 : decode b_Rd_read 13 = .ok (.iconst 0, 1) := by decide +kernel
theorem d_Rd_read_14 : decode b_Rd_read 14 = .ok (.istore 4, 2) := by decide +kernel
theorem d_Rd_read_16 : decode b_Rd_read 16 = .ok (.iload 4, 2) := by decide +kernel
theorem d_Rd_read_18 : decode b_Rd_read 18 = .ok (.sipush 600, 3) := by decide +kernel
theorem d_Rd_read_21 : decode b_Rd_read 21 = .ok (.if_icmp .gt 59, 3) := by decide +kernel
theorem d_Rd_read_24 : decode b_Rd_read 24 = .ok (.aload_n 0, 1) := by decide +kernel
theorem d_Rd_read_25 : decode b_Rd_read 25 = .ok (.getfield 12, 3) := by decide +kernel
theorem d_Rd_read_28 : decode b_Rd_read 28 = .ok (.getfield 59, 3) := by decide +kernel
theorem d_Rd_read_31 : decode b_Rd_read 31 = .ok (.ifCond .eq 49, 3) := by decide +kernel
theorem d_Rd_read_34 : decode b_Rd_read 34 = .ok (.aload_n 0, 1) := by decide +kernel
theorem d_Rd_read_35 : decode b_Rd_read 35 = .ok (.iload_n 1, 1) := by decide +kernel
theorem d_Rd_read_36 : decode b_Rd_read 36 = .ok (.invokevirtual 63, 3) := by decide +kernel
theorem d_Rd_read_39 : decode b_Rd_read 39 = .ok (.ifCond .ne 20, 3) := by decide +kernel
theorem d_Rd_read_42 : decode b_Rd_read 42 = .ok (.aload_n 0, 1) := by decide +kernel
theorem d_Rd_read_43 : decode b_Rd_read 43 = .ok (.iconst 1, 1) := by decide +kernel
theorem d_Rd_read_44 : decode b_Rd_read 44 = .ok (.putfield 67, 3) := by decide +kernel
theorem d_Rd_read_47 : decode b_Rd_read 47 = .ok (.aload_n 0, 1) := by decide +kernel
theorem d_Rd_read_48 : decode b_Rd_read 48 = .ok (.aload_n 0, 1) := by decide +kernel
theorem d_Rd_read_49 : decode b_Rd_read 49 = .ok (.getfield 12, 3) := by decide +kernel
theorem d_Rd_read_52 : decode b_Rd_read 52 = .ok (.getfield 70, 3) := by decide +kernel
theorem d_Rd_read_55 : decode b_Rd_read 55 = .ok (.putfield 73, 3) := by decide +kernel
theorem d_Rd_read_58 : decode b_Rd_read 58 = .ok (.return_, 1) := by decide +kernel
theorem d_Rd_read_59 : decode b_Rd_read 59 = .ok (.aload_n 0, 1) := by decide +kernel
theorem d_Rd_read_60 : decode b_Rd_read 60 = .ok (.invokevirtual 76, 3) := by decide +kernel
theorem d_Rd_read_63 : decode b_Rd_read 63 = .ok (.aload_n 0, 1) := by decide +kernel
theorem d_Rd_read_64 : decode b_Rd_read 64 = .ok (.getfield 67, 3) := by decide +kernel
theorem d_Rd_read_67 : decode b_Rd_read 67 = .ok (.ifCond .ne 7, 3) := by decide +kernel
theorem d_Rd_read_70 : decode b_Rd_read 70 = .ok (.aload_n 0, 1) := by decide +kernel
theorem d_Rd_read_71 : decode b_Rd_read 71 = .ok (.invokevirtual 79, 3) := by decide +kernel
theorem d_Rd_read_74 : decode b_Rd_read 74 = .ok (.iinc 4 1, 3) := by decide +kernel
theorem d_Rd_read_77 : decode b_Rd_read 77 = .ok (.goto (-61), 3) := by decide +kernel
theorem d_Rd_read_80 : decode b_Rd_read 80 = .ok (.aload_n 0, 1) := by decide +kernel
theorem d_Rd_read_81 : decode b_Rd_read 81 = .ok (.getfield 82, 3) := by decide +kernel
theorem d_Rd_read_84 : decode b_Rd_read 84 = .ok (.aload_n 0, 1) := by decide +kernel
theorem d_Rd_read_85 : decode b_Rd_read 85 = .ok (.getfield 21, 3) := by decide +kernel
theorem d_Rd_read_88 : decode b_Rd_read 88 = .ok (.getfield 85, 3) := by decide +kernel
theorem d_Rd_read_91 : decode b_Rd_read 91 = .ok (.if_icmp .ge 29, 3) := by decide +kernel
theorem d_Rd_read_94 : decode b_Rd_read 94 = .ok (.aload_n 0, 1) := by decide +kernel
theorem d_Rd_read_95 : decode b_Rd_read 95 = .ok (.getfield 88, 3) := by decide +kernel
theorem d_Rd_read_98 : decode b_Rd_read 98 = .ok (.aload_n 0, 1) := by decide +kernel
theorem d_Rd_read_99 : decode b_Rd_read 99 = .ok (.getfield 21, 3) := by decide +kernel
theorem d_Rd_read_102 : decode b_Rd_read 102 = .ok (.getfield 91, 3) := by decide +kernel
theorem d_Rd_read_105 : decode b_Rd_read 105 = .ok (.if_icmp .ge 15, 3) := by decide +kernel
theorem d_Rd_read_108 : decode b_Rd_read 108 = .ok (.aload_n 0, 1) := by decide +kernel
theorem d_Rd_read_109 : decode b_Rd_read 109 = .ok (.getfield 32, 3) := by decide +kernel
theorem d_Rd_read_112 : decode b_Rd_read 112 = .ok (.getfield 94, 3) := by decide +kernel
theorem d_Rd_read_115 : decode b_Rd_read 115 = .ok (.bipush 96, 2) := by decide +kernel
theorem d_Rd_read_117 : decode b_Rd_read 117 = .ok (.if_icmp .le 9, 3) := by decide +kernel
theorem d_Rd_read_120 : decode b_Rd_read 120 = .ok (.aload_n 0, 1) := by decide +kernel
theorem d_Rd_read_121 : decode b_Rd_read 121 = .ok (.iconst 4, 1) := by decide +kernel
theorem d_Rd_read_122 : decode b_Rd_read 122 = .ok (.iload_n 3, 1) := by decide +kernel
theorem d_Rd_read_123 : decode b_Rd_read 123 = .ok (.invokevirtual 95, 3) := by decide +kernel
theorem d_Rd_read_126 : decode b_Rd_read 126 = .ok (.return_, 1) := by decide +kernel
theorem d_Rd_clear_0 : decode b_Rd_clear 0 = .ok (.aload_n 0, 1) := by decide +kernel
theorem d_Rd_clear_1 : decode b_Rd_clear 1 = .ok (.iconst 0, 1) := by decide +kernel
theorem d_Rd_clear_2 : decode b_Rd_clear 2 = .ok (.putfield 67, 3) := by decide +kernel
theorem d_Rd_clear_5 : decode b_Rd_clear 5 = .ok (.aload_n 0, 1) := by decide +kernel
theorem d_Rd_clear_6 : decode b_Rd_clear 6 = .ok (.iconst (-1), 1) := by decide +kernel
theorem d_Rd_clear_7 : decode b_Rd_clear 7 = .ok (.putfield 73, 3) := by decide +kernel
theorem d_Rd_clear_10 : decode b_Rd_clear 10 = .ok (.aload_n 0, 1) := by decide +kernel
theorem d_Rd_clear_11 : decode b_Rd_clear 11 = .ok (.iconst (-1), 1) := by decide +kernel
theorem d_Rd_clear_12 : decode b_Rd_clear 12 = .ok (.putfield 82, 3) := by decide +kernel
theorem d_Rd_clear_15 : decode b_Rd_clear 15 = .ok (.aload_n 0, 1) := by decide +kernel
theorem d_Rd_clear_16 : decode b_Rd_clear 16 = .ok (.iconst (-1), 1) := by decide +kernel
theorem d_Rd_clear_17 : decode b_Rd_clear 17 = .ok (.putfield 88, 3) := by decide +kernel
theorem d_Rd_clear_20 : decode b_Rd_clear 20 = .ok (.aload_n 0, 1) := by decide +kernel
theorem d_Rd_clear_21 : decode b_Rd_clear 21 = .ok (.getfield 21, 3) := by decide +kernel
theorem d_Rd_clear_24 : decode b_Rd_clear 24 = .ok (.invokevirtual 99, 3) := by decide +kernel
theorem d_Rd_clear_27 : decode b_Rd_clear 27 = .ok (.aload_n 0, 1) := by decide +kernel
theorem d_Rd_clear_28 : decode b_Rd_clear 28 = .ok (.getfield 25, 3) := by decide +kernel
theorem d_Rd_clear_31 : decode b_Rd_clear 31 = .ok (.iconst 2, 1) := by decide +kernel
theorem d_Rd_clear_32 : decode b_Rd_clear 32 = .ok (.invokestatic 100, 3) := by decide +kernel
theorem d_Rd_clear_35 : decode b_Rd_clear 35 = .ok (.aload_n 0, 1) := by decide +kernel
theorem d_Rd_clear_36 : decode b_Rd_clear 36 = .ok (.getfield 32, 3) := by decide +kernel
theorem d_Rd_clear_39 : decode b_Rd_clear 39 = .ok (.invokevirtual 105, 3) := by decide +kernel
theorem d_Rd_clear_42 : decode b_Rd_clear 42 = .ok (.aload_n 0, 1) := by decide +kernel
theorem d_Rd_clear_43 : decode b_Rd_clear 43 = .ok (.getfield 39, 3) := by decide +kernel
theorem d_Rd_clear_46 : decode b_Rd_clear 46 = .ok (.iconst 0, 1) := by decide +kernel
theorem d_Rd_clear_47 : decode b_Rd_clear 47 = .ok (.putfield 106, 3) := by decide +kernel
theorem d_Rd_clear_50 : decode b_Rd_clear 50 = .ok (.aload_n 0, 1) := by decide +kernel
theorem d_Rd_clear_51 : decode b_Rd_clear 51 = .ok (.getfield 43, 3) := by decide +kernel
theorem d_Rd_clear_54 : decode b_Rd_clear 54 = .ok (.iconst 0, 1) := by decide +kernel
theorem d_Rd_clear_55 : decode b_Rd_clear 55 = .ok (.invokestatic 100, 3) := by decide +kernel
theorem d_Rd_clear_58 : decode b_Rd_clear 58 = .ok (.return_, 1) := by decide +kernel
theorem d_Ld_clear_0 : decode b_Ld_clear 0 = .ok (.aload_n 0, 1) := by decide +kernel
theorem d_Ld_clear_1 : decode b_Ld_clear 1 = .ok (.bipush 12, 2) := by decide +kernel
theorem d_Ld_clear_3 : decode b_Ld_clear 3 = .ok (.putfield 9, 3) := by decide +kernel
theorem d_Ld_clear_6 : decode b_Ld_clear 6 = .ok (.aload_n 0, 1) := by decide +kernel
theorem d_Ld_clear_7 : decode b_Ld_clear 7 = .ok (.iconst 1, 1) := by decide +kernel
theorem d_Ld_clear_8 : decode b_Ld_clear 8 = .ok (.putfield 15, 3) := by decide +kernel
theorem d_Ld_clear_11 : decode b_Ld_clear 11 = .ok (.aload_n 0, 1) := by decide +kernel
theorem d_Ld_clear_12 : decode b_Ld_clear 12 = .ok (.iconst 0, 1) := by decide +kernel
theorem d_Ld_clear_13 : decode b_Ld_clear 13 = .ok (.putfield 46, 3) := by decide +kernel
theorem d_Ld_clear_16 : decode b_Ld_clear 16 = .ok (.aload_n 0, 1) := by decide +kernel
theorem d_Ld_clear_17 : decode b_Ld_clear 17 = .ok (.iconst 1, 1) := by decide +kernel
theorem d_Ld_clear_18 : decode b_Ld_clear 18 = .ok (.putfield 18, 3) := by decide +kernel
theorem d_Ld_clear_21 : decode b_Ld_clear 21 = .ok (.aload_n 0, 1) := by decide +kernel
theorem d_Ld_clear_22 : decode b_Ld_clear 22 = .ok (.iconst 0, 1) := by decide +kernel
theorem d_Ld_clear_23 : decode b_Ld_clear 23 = .ok (.putfield 49, 3) := by decide +kernel
theorem d_Ld_clear_26 : decode b_Ld_clear 26 = .ok (.aload_n 0, 1) := by decide +kernel
theorem d_Ld_clear_27 : decode b_Ld_clear 27 = .ok (.iconst 0, 1) := by decide +kernel
theorem d_Ld_clear_28 : decode b_Ld_clear 28 = .ok (.putfield 52, 3) := by decide +kernel
theorem d_Ld_clear_31 : decode b_Ld_clear 31 = .ok (.aload_n 0, 1) := by decide +kernel
theorem d_Ld_clear_32 : decode b_Ld_clear 32 = .ok (.getfield 31, 3) := by decide +kernel
theorem d_Ld_clear_35 : decode b_Ld_clear 35 = .ok (.iconst 0, 1) := by decide +kernel
theorem d_Ld_clear_36 : decode b_Ld_clear 36 = .ok (.invokestatic 55, 3) := by decide +kernel
theorem d_Ld_clear_39 : decode b_Ld_clear 39 = .ok (.aload_n 0, 1) := by decide +kernel
theorem d_Ld_clear_40 : decode b_Ld_clear 40 = .ok (.getfield 40, 3) := by decide +kernel
theorem d_Ld_clear_43 : decode b_Ld_clear 43 = .ok (.iconst 0, 1) := by decide +kernel
theorem d_Ld_clear_44 : decode b_Ld_clear 44 = .ok (.invokestatic 55, 3) := by decide +kernel
theorem d_Ld_clear_47 : decode b_Ld_clear 47 = .ok (.aload_n 0, 1) := by decide +kernel
theorem d_Ld_clear_48 : decode b_Ld_clear 48 = .ok (.iconst 0, 1) := by decide +kernel
theorem d_Ld_clear_49 : decode b_Ld_clear 49 = .ok (.putfield 61, 3) := by decide +kernel
theorem d_Ld_clear_52 : decode b_Ld_clear 52 = .ok (.return_, 1) := by decide +kernel
theorem d_JA_fill_0_0 : decode b_JA_fill_0 0 = .ok (.iconst 0, 1) := by decide +kernel
theorem d_JA_fill_0_1 : decode b_JA_fill_0 1 = .ok (.istore_n 2, 1) := by decide +kernel
theorem d_JA_fill_0_2 : decode b_JA_fill_0 2 = .ok (.aload_n 0, 1) := by decide +kernel
theorem d_JA_fill_0_3 : decode b_JA_fill_0 3 = .ok (.arraylength, 1) := by decide +kernel
theorem d_JA_fill_0_4 : decode b_JA_fill_0 4 = .ok (.istore_n 3, 1) := by decide +kernel
theorem d_JA_fill_0_5 : decode b_JA_fill_0 5 = .ok (.iload_n 2, 1) := by decide +kernel
theorem d_JA_fill_0_6 : decode b_JA_fill_0 6 = .ok (.iload_n 3, 1) := by decide +kernel
theorem d_JA_fill_0_7 : decode b_JA_fill_0 7 = .ok (.if_icmp .ge 13, 3) := by decide +kernel
theorem d_JA_fill_0_10 : decode b_JA_fill_0 10 = .ok (.aload_n 0, 1) := by decide +kernel
theorem d_JA_fill_0_11 : decode b_JA_fill_0 11 = .ok (.iload_n 2, 1) := by decide +kernel
theorem d_JA_fill_0_12 : decode b_JA_fill_0 12 = .ok (.iload_n 1, 1) := by decide +kernel
theorem d_JA_fill_0_13 : decode b_JA_fill_0 13 = .ok (.iastore, 1) := by decide +kernel
theorem d_JA_fill_0_14 : decode b_JA_fill_0 14 = .ok (.iinc 2 1, 3) := by decide +kernel
theorem d_JA_fill_0_17 : decode b_JA_fill_0 17 = .ok (.goto (-12), 3) := by decide +kernel
theorem d_JA_fill_0_20 : decode b_JA_fill_0 20 = .ok (.return_, 1) := by decide +kernel
theorem d_Bk_clear_0 : decode b_Bk_clear 0 = .ok (.aload_n 0, 1) := by decide +kernel
theorem d_Bk_clear_1 : decode b_Bk_clear 1 = .ok (.iconst 0, 1) := by decide +kernel
theorem d_Bk_clear_2 : decode b_Bk_clear 2 = .ok (.putfield 21, 3) := by decide +kernel
theorem d_Bk_clear_5 : decode b_Bk_clear 5 = .ok (.aload_n 0, 1) := by decide +kernel
theorem d_Bk_clear_6 : decode b_Bk_clear 6 = .ok (.iconst 0, 1) := by decide +kernel
theorem d_Bk_clear_7 : decode b_Bk_clear 7 = .ok (.putfield 25, 3) := by decide +kernel
theorem d_Bk_clear_10 : decode b_Bk_clear 10 = .ok (.return_, 1) := by decide +kernel
theorem d_To_begin_0 : decode b_To_begin 0 = .ok (.aload_n 0, 1) := by decide +kernel
theorem d_To_begin_1 : decode b_To_begin 1 = .ok (.aload_n 1, 1) := by decide +kernel
theorem d_To_begin_2 : decode b_To_begin 2 = .ok (.putfield 7, 3) := by decide +kernel
theorem d_To_begin_5 : decode b_To_begin 5 = .ok (.aload_n 0, 1) := by decide +kernel
theorem d_To_begin_6 : decode b_To_begin 6 = .ok (.iload_n 2, 1) := by decide +kernel
theorem d_To_begin_7 : decode b_To_begin 7 = .ok (.aload_n 1, 1) := by decide +kernel
theorem d_To_begin_8 : decode b_To_begin 8 = .ok (.arraylength, 1) := by decide +kernel
theorem d_To_begin_9 : decode b_To_begin 9 = .ok (.invokestatic 13, 3) := by decide +kernel
theorem d_To_begin_12 : decode b_To_begin 12 = .ok (.putfield 19, 3) := by decide +kernel
theorem d_To_begin_15 : decode b_To_begin 15 = .ok (.aload_n 0, 1) := by decide +kernel
theorem d_To_begin_16 : decode b_To_begin 16 = .ok (.iconst 0, 1) := by decide +kernel
theorem d_To_begin_17 : decode b_To_begin 17 = .ok (.putfield 23, 3) := by decide +kernel
theorem d_To_begin_20 : decode b_To_begin 20 = .ok (.aload_n 0, 1) := by decide +kernel
theorem d_To_begin_21 : decode b_To_begin 21 = .ok (.invokevirtual 26, 3) := by decide +kernel
theorem d_To_begin_24 : decode b_To_begin 24 = .ok (.return_, 1) := by decide +kernel
theorem d_JM_min_0 : decode b_JM_min 0 = .ok (.iload_n 0, 1) := by decide +kernel
theorem d_JM_min_1 : decode b_JM_min 1 = .ok (.iload_n 1, 1) := by decide +kernel
theorem d_JM_min_2 : decode b_JM_min 2 = .ok (.if_icmp .gt 7, 3) := by decide +kernel
theorem d_JM_min_5 : decode b_JM_min 5 = .ok (.iload_n 0, 1) := by decide +kernel
theorem d_JM_min_6 : decode b_JM_min 6 = .ok (.goto 4, 3) := by decide +kernel
theorem d_JM_min_9 : decode b_JM_min 9 = .ok (.iload_n 1, 1) := by decide +kernel
theorem d_JM_min_10 : decode b_JM_min 10 = .ok (.ireturn, 1) := by decide +kernel
theorem d_To_step_0 : decode b_To_step 0 = .ok (.aload_n 0, 1) := by decide +kernel
theorem d_To_step_1 : decode b_To_step 1 = .ok (.getfield 23, 3) := by decide +kernel
theorem d_To_step_4 : decode b_To_step 4 = .ok (.aload_n 0, 1) := by decide +kernel
theorem d_To_step_5 : decode b_To_step 5 = .ok (.getfield 19, 3) := by decide +kernel
theorem d_To_step_8 : decode b_To_step 8 = .ok (.if_icmp .ge 44, 3) := by decide +kernel
theorem d_To_step_11 : decode b_To_step 11 = .ok (.aload_n 0, 1) := by decide +kernel
theorem d_To_step_12 : decode b_To_step 12 = .ok (.getfield 7, 3) := by decide +kernel
theorem d_To_step_15 : decode b_To_step 15 = .ok (.aload_n 0, 1) := by decide +kernel
theorem d_To_step_16 : decode b_To_step 16 = .ok (.getfield 23, 3) := by decide +kernel
theorem d_To_step_19 : decode b_To_step 19 = .ok (.iaload, 1) := by decide +kernel
theorem d_To_step_20 : decode b_To_step 20 = .ok (.bipush 10, 2) := by decide +kernel
theorem d_To_step_22 : decode b_To_step 22 = .ok (.if_icmp .eq 17, 3) := by decide +kernel
theorem d_To_step_25 : decode b_To_step 25 = .ok (.aload_n 0, 1) := by decide +kernel
theorem d_To_step_26 : decode b_To_step 26 = .ok (.getfield 7, 3) := by decide +kernel
theorem d_To_step_29 : decode b_To_step 29 = .ok (.aload_n 0, 1) := by decide +kernel
theorem d_To_step_30 : decode b_To_step 30 = .ok (.getfield 23, 3) := by decide +kernel
theorem d_To_step_33 : decode b_To_step 33 = .ok (.iaload, 1) := by decide +kernel
theorem d_To_step_34 : decode b_To_step 34 = .ok (.bipush 32, 2) := by decide +kernel
theorem d_To_step_36 : decode b_To_step 36 = .ok (.if_icmp .ne 16, 3) := by decide +kernel
theorem d_To_step_39 : decode b_To_step 39 = .ok (.aload_n 0, 1) := by decide +kernel
theorem d_To_step_40 : decode b_To_step 40 = .ok (.dup, 1) := by decide +kernel
theorem d_To_step_41 : decode b_To_step 41 = .ok (.getfield 23, 3) := by decide +kernel
theorem d_To_step_44 : decode b_To_step 44 = .ok (.iconst 1, 1) := by decide +kernel
theorem d_To_step_45 : decode b_To_step 45 = .ok (.iadd, 1) := by decide +kernel
theorem d_To_step_46 : decode b_To_step 46 = .ok (.putfield 23, 3) := by decide +kernel
theorem d_To_step_49 : decode b_To_step 49 = .ok (.goto (-49), 3) := by decide +kernel
theorem d_To_step_52 : decode b_To_step 52 = .ok (.aload_n 0, 1) := by decide +kernel
theorem d_To_step_53 : decode b_To_step 53 = .ok (.aload_n 0, 1) := by decide +kernel
theorem d_To_step_54 : decode b_To_step 54 = .ok (.getfield 23, 3) := by decide +kernel
theorem d_To_step_57 : decode b_To_step 57 = .ok (.putfield 29, 3) := by decide +kernel
theorem d_To_step_60 : decode b_To_step 60 = .ok (.aload_n 0, 1) := by decide +kernel
theorem d_To_step_61 : decode b_To_step 61 = .ok (.getfield 23, 3) := by decide +kernel
theorem d_To_step_64 : decode b_To_step 64 = .ok (.aload_n 0, 1) := by decide +kernel
theorem d_To_step_65 : decode b_To_step 65 = .ok (.getfield 19, 3) := by decide +kernel
theorem d_To_step_68 : decode b_To_step 68 = .ok (.if_icmp .lt 11, 3) := by decide +kernel
theorem d_To_step_71 : decode b_To_step 71 = .ok (.aload_n 0, 1) := by decide +kernel
theorem d_To_step_72 : decode b_To_step 72 = .ok (.iconst 0, 1) := by decide +kernel
theorem d_To_step_73 : decode b_To_step 73 = .ok (.putfield 32, 3) := by decide +kernel
theorem d_To_step_76 : decode b_To_step 76 = .ok (.goto 97, 3) := by decide +kernel
theorem d_To_step_79 : decode b_To_step 79 = .ok (.aload_n 0, 1) := by decide +kernel
theorem d_To_step_80 : decode b_To_step 80 = .ok (.aload_n 0, 1) := by decide +kernel
theorem d_To_step_81 : decode b_To_step 81 = .ok (.getfield 23, 3) := by decide +kernel
theorem d_To_step_84 : decode b_To_step 84 = .ok (.bipush 97, 2) := by decide +kernel
theorem d_To_step_86 : decode b_To_step 86 = .ok (.bipush 122, 2) := by decide +kernel
theorem d_To_step_88 : decode b_To_step 88 = .ok (.invokevirtual 35, 3) := by decide +kernel
theorem d_To_step_91 : decode b_To_step 91 = .ok (.ifCond .eq 19, 3) := by decide +kernel
theorem d_To_step_94 : decode b_To_step 94 = .ok (.aload_n 0, 1) := by decide +kernel
theorem d_To_step_95 : decode b_To_step 95 = .ok (.bipush 97, 2) := by decide +kernel
theorem d_To_step_97 : decode b_To_step 97 = .ok (.bipush 122, 2) := by decide +kernel
theorem d_To_step_99 : decode b_To_step 99 = .ok (.invokevirtual 39, 3) := by decide +kernel
theorem d_To_step_102 : decode b_To_step 102 = .ok (.aload_n 0, 1) := by decide +kernel
theorem d_To_step_103 : decode b_To_step 103 = .ok (.iconst 1, 1) := by decide +kernel
theorem d_To_step_104 : decode b_To_step 104 = .ok (.putfield 32, 3) := by decide +kernel
theorem d_To_step_107 : decode b_To_step 107 = .ok (.goto 66, 3) := by decide +kernel
theorem d_To_step_110 : decode b_To_step 110 = .ok (.aload_n 0, 1) := by decide +kernel
theorem d_To_step_111 : decode b_To_step 111 = .ok (.aload_n 0, 1) := by decide +kernel
theorem d_To_step_112 : decode b_To_step 112 = .ok (.getfield 23, 3) := by decide +kernel
theorem d_To_step_115 : decode b_To_step 115 = .ok (.bipush 48, 2) := by decide +kernel
theorem d_To_step_117 : decode b_To_step 117 = .ok (.bipush 57, 2) := by decide +kernel
theorem d_To_step_119 : decode b_To_step 119 = .ok (.invokevirtual 35, 3) := by decide +kernel
theorem d_To_step_122 : decode b_To_step 122 = .ok (.ifCond .eq 18, 3) := by decide +kernel
theorem d_To_step_125 : decode b_To_step 125 = .ok (.aload_n 0, 1) := by decide +kernel
theorem d_To_step_126 : decode b_To_step 126 = .ok (.bipush 48, 2) := by decide +kernel
theorem d_To_step_128 : decode b_To_step 128 = .ok (.bipush 57, 2) := by decide +kernel
theorem d_To_step_130 : decode b_To_step 130 = .ok (.invokevirtual 39, 3) := by decide +kernel
theorem d_To_step_133 : decode b_To_step 133 = .ok (.aload_n 0, 1) := by decide +kernel
theorem d_To_step_134 : decode b_To_step 134 = .ok (.invokevirtual 43, 3) := by decide +kernel
theorem d_To_step_137 : decode b_To_step 137 = .ok (.goto 36, 3) := by decide +kernel
theorem d_To_step_140 : decode b_To_step 140 = .ok (.aload_n 0, 1) := by decide +kernel
theorem d_To_step_141 : decode b_To_step 141 = .ok (.aload_n 0, 1) := by decide +kernel
theorem d_To_step_142 : decode b_To_step 142 = .ok (.getfield 7, 3) := by decide +kernel
theorem d_To_step_145 : decode b_To_step 145 = .ok (.aload_n 0, 1) := by decide +kernel
theorem d_To_step_146 : decode b_To_step 146 = .ok (.getfield 23, 3) := by decide +kernel
theorem d_To_step_149 : decode b_To_step 149 = .ok (.iaload, 1) := by decide +kernel
theorem d_To_step_150 : decode b_To_step 150 = .ok (.bipush 59, 2) := by decide +kernel
theorem d_To_step_152 : decode b_To_step 152 = .ok (.if_icmp .ne 7, 3) := by decide +kernel
theorem d_To_step_155 : decode b_To_step 155 = .ok (.iconst 3, 1) := by decide +kernel
theorem d_To_step_156 : decode b_To_step 156 = .ok (.goto 4, 3) := by decide +kernel
theorem d_To_step_159 : decode b_To_step 159 = .ok (.iconst 4, 1) := by decide +kernel
theorem d_To_step_160 : decode b_To_step 160 = .ok (.putfield 32, 3) := by decide +kernel
theorem d_To_step_163 : decode b_To_step 163 = .ok (.aload_n 0, 1) := by decide +kernel
theorem d_To_step_164 : decode b_To_step 164 = .ok (.dup, 1) := by decide +kernel
theorem d_To_step_165 : decode b_To_step 165 = .ok (.getfield 23, 3) := by decide +kernel
theorem d_To_step_168 : decode b_To_step 168 = .ok (.iconst 1, 1) := by decide +kernel
theorem d_To_step_169 : decode b_To_step 169 = .ok (.iadd, 1) := by decide +kernel
theorem d_To_step_170 : decode b_To_step 170 = .ok (.putfield 23, 3) := by decide +kernel
theorem d_To_step_173 : decode b_To_step 173 = .ok (.return_, 1) := by decide +kernel
theorem d_To_isWithin_0 : decode b_To_isWithin 0 = .ok (.iload_n 1, 1) := by decide +kernel
theorem d_To_isWithin_1 : decode b_To_isWithin 1 = .ok (.aload_n 0, 1) := by decide +kernel
theorem d_To_isWithin_2 : decode b_To_isWithin 2 = .ok (.getfield 19, 3) := by decide +kernel
theorem d_To_isWithin_5 : decode b_To_isWithin 5 = .ok (.if_icmp .ge 27, 3) := by decide +kernel
theorem d_To_isWithin_8 : decode b_To_isWithin 8 = .ok (.aload_n 0, 1) := by decide +kernel
theorem d_To_isWithin_9 : decode b_To_isWithin 9 = .ok (.getfield 7, 3) := by decide +kernel
theorem d_To_isWithin_12 : decode b_To_isWithin 12 = .ok (.iload_n 1, 1) := by decide +kernel
theorem d_To_isWithin_13 : decode b_To_isWithin 13 = .ok (.iaload, 1) := by decide +kernel
theorem d_To_isWithin_14 : decode b_To_isWithin 14 = .ok (.iload_n 2, 1) := by decide +kernel
theorem d_To_isWithin_15 : decode b_To_isWithin 15 = .ok (.if_icmp .lt 17, 3) := by decide +kernel
theorem d_To_isWithin_18 : decode b_To_isWithin 18 = .ok (.aload_n 0, 1) := by decide +kernel
theorem d_To_isWithin_19 : decode b_To_isWithin 19 = .ok (.getfield 7, 3) := by decide +kernel
theorem d_To_isWithin_22 : decode b_To_isWithin 22 = .ok (.iload_n 1, 1) := by decide +kernel
theorem d_To_isWithin_23 : decode b_To_isWithin 23 = .ok (.iaload, 1) := by decide +kernel
theorem d_To_isWithin_24 : decode b_To_isWithin 24 = .ok (.iload_n 3, 1) := by decide +kernel
theorem d_To_isWithin_25 : decode b_To_isWithin 25 = .ok (.if_icmp .gt 7, 3) := by decide +kernel
theorem d_To_isWithin_28 : decode b_To_isWithin 28 = .ok (.iconst 1, 1) := by decide +kernel
theorem d_To_isWithin_29 : decode b_To_isWithin 29 = .ok (.goto 4, 3) := by decide +kernel
theorem d_To_isWithin_32 : decode b_To_isWithin 32 = .ok (.iconst 0, 1) := by decide +kernel
theorem d_To_isWithin_33 : decode b_To_isWithin 33 = .ok (.ireturn, 1) := by decide +kernel
theorem d_To_pass_0 : decode b_To_pass 0 = .ok (.aload_n 0, 1) := by decide +kernel
theorem d_To_pass_1 : decode b_To_pass 1 = .ok (.getfield 23, 3) := by decide +kernel
theorem d_To_pass_4 : decode b_To_pass 4 = .ok (.aload_n 0, 1) := by decide +kernel
theorem d_To_pass_5 : decode b_To_pass 5 = .ok (.getfield 19, 3) := by decide +kernel
theorem d_To_pass_8 : decode b_To_pass 8 = .ok (.if_icmp .ge 29, 3) := by decide +kernel
theorem d_To_pass_11 : decode b_To_pass 11 = .ok (.aload_n 0, 1) := by decide +kernel
theorem d_To_pass_12 : decode b_To_pass 12 = .ok (.aload_n 0, 1) := by decide +kernel
theorem d_To_pass_13 : decode b_To_pass 13 = .ok (.getfield 23, 3) := by decide +kernel
theorem d_To_pass_16 : decode b_To_pass 16 = .ok (.iload_n 1, 1) := by decide +kernel
theorem d_To_pass_17 : decode b_To_pass 17 = .ok (.iload_n 2, 1) := by decide +kernel
theorem d_To_pass_18 : decode b_To_pass 18 = .ok (.invokevirtual 35, 3) := by decide +kernel
theorem d_To_pass_21 : decode b_To_pass 21 = .ok (.ifCond .eq 16, 3) := by decide +kernel
theorem d_To_pass_24 : decode b_To_pass 24 = .ok (.aload_n 0, 1) := by decide +kernel
theorem d_To_pass_25 : decode b_To_pass 25 = .ok (.dup, 1) := by decide +kernel
theorem d_To_pass_26 : decode b_To_pass 26 = .ok (.getfield 23, 3) := by decide +kernel
theorem d_To_pass_29 : decode b_To_pass 29 = .ok (.iconst 1, 1) := by decide +kernel
theorem d_To_pass_30 : decode b_To_pass 30 = .ok (.iadd, 1) := by decide +kernel
theorem d_To_pass_31 : decode b_To_pass 31 = .ok (.putfield 23, 3) := by decide +kernel
theorem d_To_pass_34 : decode b_To_pass 34 = .ok (.goto (-34), 3) := by decide +kernel
theorem d_To_pass_37 : decode b_To_pass 37 = .ok (.return_, 1) := by decide +kernel
theorem d_To_takeNumber_0 : decode b_To_takeNumber 0 = .ok (.aload_n 0, 1) := by decide +kernel
theorem d_To_takeNumber_1 : decode b_To_takeNumber 1 = .ok (.aload_n 0, 1) := by decide +kernel
theorem d_To_takeNumber_2 : decode b_To_takeNumber 2 = .ok (.getfield 23, 3) := by decide +kernel
theorem d_To_takeNumber_5 : decode b_To_takeNumber 5 = .ok (.aload_n 0, 1) := by decide +kernel
theorem d_To_takeNumber_6 : decode b_To_takeNumber 6 = .ok (.getfield 29, 3) := by decide +kernel
theorem d_To_takeNumber_9 : decode b_To_takeNumber 9 = .ok (.isub, 1) := by decide +kernel
theorem d_To_takeNumber_10 : decode b_To_takeNumber 10 = .ok (.iconst 2, 1) := by decide +kernel
theorem d_To_takeNumber_11 : decode b_To_takeNumber 11 = .ok (.if_icmp .gt 7, 3) := by decide +kernel
theorem d_To_takeNumber_14 : decode b_To_takeNumber 14 = .ok (.iconst 2, 1) := by decide +kernel
theorem d_To_takeNumber_15 : decode b_To_takeNumber 15 = .ok (.goto 4, 3) := by decide +kernel
theorem d_To_takeNumber_18 : decode b_To_takeNumber 18 = .ok (.iconst 4, 1) := by decide +kernel
theorem d_To_takeNumber_19 : decode b_To_takeNumber 19 = .ok (.putfield 32, 3) := by decide +kernel
theorem d_To_takeNumber_22 : decode b_To_takeNumber 22 = .ok (.aload_n 0, 1) := by decide +kernel
theorem d_To_takeNumber_23 : decode b_To_takeNumber 23 = .ok (.iconst 0, 1) := by decide +kernel
theorem d_To_takeNumber_24 : decode b_To_takeNumber 24 = .ok (.putfield 46, 3) := by decide +kernel
theorem d_To_takeNumber_27 : decode b_To_takeNumber 27 = .ok (.aload_n 0, 1) := by decide +kernel
theorem d_To_takeNumber_28 : decode b_To_takeNumber 28 = .ok (.getfield 29, 3) := by decide +kernel
theorem d_To_takeNumber_31 : decode b_To_takeNumber 31 = .ok (.istore_n 1, 1) := by decide +kernel
theorem d_To_takeNumber_32 : decode b_To_takeNumber 32 = .ok (.iload_n 1, 1) := by decide +kernel
theorem d_To_takeNumber_33 : decode b_To_takeNumber 33 = .ok (.aload_n 0, 1) := by decide +kernel
theorem d_To_takeNumber_34 : decode b_To_takeNumber 34 = .ok (.getfield 23, 3) := by decide +kernel
theorem d_To_takeNumber_37 : decode b_To_takeNumber 37 = .ok (.if_icmp .ge 38, 3) := by decide +kernel
theorem d_To_takeNumber_40 : decode b_To_takeNumber 40 = .ok (.aload_n 0, 1) := by decide +kernel
theorem d_To_takeNumber_41 : decode b_To_takeNumber 41 = .ok (.getfield 32, 3) := by decide +kernel
theorem d_To_takeNumber_44 : decode b_To_takeNumber 44 = .ok (.iconst 2, 1) := by decide +kernel
theorem d_To_takeNumber_45 : decode b_To_takeNumber 45 = .ok (.if_icmp .ne 30, 3) := by decide +kernel
theorem d_To_takeNumber_48 : decode b_To_takeNumber 48 = .ok (.aload_n 0, 1) := by decide +kernel
theorem d_To_takeNumber_49 : decode b_To_takeNumber 49 = .ok (.aload_n 0, 1) := by decide +kernel
theorem d_To_takeNumber_50 : decode b_To_takeNumber 50 = .ok (.getfield 46, 3) := by decide +kernel
theorem d_To_takeNumber_53 : decode b_To_takeNumber 53 = .ok (.bipush 10, 2) := by decide +kernel
theorem d_To_takeNumber_55 : decode b_To_takeNumber 55 = .ok (.imul, 1) := by decide +kernel
theorem d_To_takeNumber_56 : decode b_To_takeNumber 56 = .ok (.aload_n 0, 1) := by decide +kernel
theorem d_To_takeNumber_57 : decode b_To_takeNumber 57 = .ok (.getfield 7, 3) := by decide +kernel
theorem d_To_takeNumber_60 : decode b_To_takeNumber 60 = .ok (.iload_n 1, 1) := by decide +kernel
theorem d_To_takeNumber_61 : decode b_To_takeNumber 61 = .ok (.iaload, 1) := by decide +kernel
theorem d_To_takeNumber_62 : decode b_To_takeNumber 62 = .ok (.iadd, 1) := by decide +kernel
theorem d_To_takeNumber_63 : decode b_To_takeNumber 63 = .ok (.bipush 48, 2) := by decide +kernel
theorem d_To_takeNumber_65 : decode b_To_takeNumber 65 = .ok (.isub, 1) := by decide +kernel
theorem d_To_takeNumber_66 : decode b_To_takeNumber 66 = .ok (.putfield 46, 3) := by decide +kernel
theorem d_To_takeNumber_69 : decode b_To_takeNumber 69 = .ok (.iinc 1 1, 3) := by decide +kernel
theorem d_To_takeNumber_72 : decode b_To_takeNumber 72 = .ok (.goto (-40), 3) := by decide +kernel
theorem d_To_takeNumber_75 : decode b_To_takeNumber 75 = .ok (.return_, 1) := by decide +kernel
theorem d_Rd_readLine_0 : decode b_Rd_readLine 0 = .ok (.aload_n 0, 1) := by decide +kernel
theorem d_Rd_readLine_1 : decode b_Rd_readLine 1 = .ok (.aload_n 0, 1) := by decide +kernel
theorem d_Rd_readLine_2 : decode b_Rd_readLine 2 = .ok (.iload_n 1, 1) := by decide +kernel
theorem d_Rd_readLine_3 : decode b_Rd_readLine 3 = .ok (.invokevirtual 109, 3) := by decide +kernel
theorem d_Rd_readLine_6 : decode b_Rd_readLine 6 = .ok (.putfield 113, 3) := by decide +kernel
theorem d_Rd_readLine_9 : decode b_Rd_readLine 9 = .ok (.aload_n 0, 1) := by decide +kernel
theorem d_Rd_readLine_10 : decode b_Rd_readLine 10 = .ok (.getfield 113, 3) := by decide +kernel
theorem d_Rd_readLine_13 : decode b_Rd_readLine 13 = .ok (.iconst (-1), 1) := by decide +kernel
theorem d_Rd_readLine_14 : decode b_Rd_readLine 14 = .ok (.if_icmp .ne 5, 3) := by decide +kernel
theorem d_Rd_readLine_17 : decode b_Rd_readLine 17 = .ok (.iconst 0, 1) := by decide +kernel
theorem d_Rd_readLine_18 : decode b_Rd_readLine 18 = .ok (.ireturn, 1) := by decide +kernel
theorem d_Rd_readLine_19 : decode b_Rd_readLine 19 = .ok (.aload_n 0, 1) := by decide +kernel
theorem d_Rd_readLine_20 : decode b_Rd_readLine 20 = .ok (.aload_n 0, 1) := by decide +kernel
theorem d_Rd_readLine_21 : decode b_Rd_readLine 21 = .ok (.getfield 12, 3) := by decide +kernel
theorem d_Rd_readLine_24 : decode b_Rd_readLine 24 = .ok (.getfield 70, 3) := by decide +kernel
theorem d_Rd_readLine_27 : decode b_Rd_readLine 27 = .ok (.putfield 116, 3) := by decide +kernel
theorem d_Rd_readLine_30 : decode b_Rd_readLine 30 = .ok (.aload_n 0, 1) := by decide +kernel
theorem d_Rd_readLine_31 : decode b_Rd_readLine 31 = .ok (.getfield 12, 3) := by decide +kernel
theorem d_Rd_readLine_34 : decode b_Rd_readLine 34 = .ok (.invokevirtual 119, 3) := by decide +kernel
theorem d_Rd_readLine_37 : decode b_Rd_readLine 37 = .ok (.iconst 0, 1) := by decide +kernel
theorem d_Rd_readLine_38 : decode b_Rd_readLine 38 = .ok (.istore_n 2, 1) := by decide +kernel
theorem d_Rd_readLine_39 : decode b_Rd_readLine 39 = .ok (.iload_n 2, 1) := by decide +kernel
theorem d_Rd_readLine_40 : decode b_Rd_readLine 40 = .ok (.getstatic 122, 3) := by decide +kernel
theorem d_Rd_readLine_43 : decode b_Rd_readLine 43 = .ok (.aload_n 0, 1) := by decide +kernel
theorem d_Rd_readLine_44 : decode b_Rd_readLine 44 = .ok (.getfield 113, 3) := by decide +kernel
theorem d_Rd_readLine_47 : decode b_Rd_readLine 47 = .ok (.iaload, 1) := by decide +kernel
theorem d_Rd_readLine_48 : decode b_Rd_readLine 48 = .ok (.if_icmp .ge 55, 3) := by decide +kernel
theorem d_Rd_readLine_51 : decode b_Rd_readLine 51 = .ok (.aload_n 0, 1) := by decide +kernel
theorem d_Rd_readLine_52 : decode b_Rd_readLine 52 = .ok (.getfield 12, 3) := by decide +kernel
theorem d_Rd_readLine_55 : decode b_Rd_readLine 55 = .ok (.getfield 59, 3) := by decide +kernel
theorem d_Rd_readLine_58 : decode b_Rd_readLine 58 = .ok (.iconst 2, 1) := by decide +kernel
theorem d_Rd_readLine_59 : decode b_Rd_readLine 59 = .ok (.if_icmp .eq 5, 3) := by decide +kernel
theorem d_Rd_readLine_62 : decode b_Rd_readLine 62 = .ok (.iconst 0, 1) := by decide +kernel
theorem d_Rd_readLine_63 : decode b_Rd_readLine 63 = .ok (.ireturn, 1) := by decide +kernel
theorem d_Rd_readLine_64 : decode b_Rd_readLine 64 = .ok (.aload_n 0, 1) := by decide +kernel
theorem d_Rd_readLine_65 : decode b_Rd_readLine 65 = .ok (.getfield 46, 3) := by decide +kernel
theorem d_Rd_readLine_68 : decode b_Rd_readLine 68 = .ok (.iload_n 2, 1) := by decide +kernel
theorem d_Rd_readLine_69 : decode b_Rd_readLine 69 = .ok (.aload_n 0, 1) := by decide +kernel
theorem d_Rd_readLine_70 : decode b_Rd_readLine 70 = .ok (.getfield 12, 3) := by decide +kernel
theorem d_Rd_readLine_73 : decode b_Rd_readLine 73 = .ok (.getfield 125, 3) := by decide +kernel
theorem d_Rd_readLine_76 : decode b_Rd_readLine 76 = .ok (.iastore, 1) := by decide +kernel
theorem d_Rd_readLine_77 : decode b_Rd_readLine 77 = .ok (.aload_n 0, 1) := by decide +kernel
theorem d_Rd_readLine_78 : decode b_Rd_readLine 78 = .ok (.getfield 49, 3) := by decide +kernel
theorem d_Rd_readLine_81 : decode b_Rd_readLine 81 = .ok (.iload_n 2, 1) := by decide +kernel
theorem d_Rd_readLine_82 : decode b_Rd_readLine 82 = .ok (.aload_n 0, 1) := by decide +kernel
theorem d_Rd_readLine_83 : decode b_Rd_readLine 83 = .ok (.getfield 12, 3) := by decide +kernel
theorem d_Rd_readLine_86 : decode b_Rd_readLine 86 = .ok (.getfield 70, 3) := by decide +kernel
theorem d_Rd_readLine_89 : decode b_Rd_readLine 89 = .ok (.iastore, 1) := by decide +kernel
theorem d_Rd_readLine_90 : decode b_Rd_readLine 90 = .ok (.aload_n 0, 1) := by decide +kernel
theorem d_Rd_readLine_91 : decode b_Rd_readLine 91 = .ok (.getfield 12, 3) := by decide +kernel
theorem d_Rd_readLine_94 : decode b_Rd_readLine 94 = .ok (.invokevirtual 119, 3) := by decide +kernel
theorem d_Rd_readLine_97 : decode b_Rd_readLine 97 = .ok (.iinc 2 1, 3) := by decide +kernel
theorem d_Rd_readLine_100 : decode b_Rd_readLine 100 = .ok (.goto (-61), 3) := by decide +kernel
theorem d_Rd_readLine_103 : decode b_Rd_readLine 103 = .ok (.aload_n 0, 1) := by decide +kernel
theorem d_Rd_readLine_104 : decode b_Rd_readLine 104 = .ok (.getfield 113, 3) := by decide +kernel
theorem d_Rd_readLine_107 : decode b_Rd_readLine 107 = .ok (.bipush 10, 2) := by decide +kernel
theorem d_Rd_readLine_109 : decode b_Rd_readLine 109 = .ok (.if_icmp .ne 12, 3) := by decide +kernel
theorem d_Rd_readLine_112 : decode b_Rd_readLine 112 = .ok (.aload_n 0, 1) := by decide +kernel
theorem d_Rd_readLine_113 : decode b_Rd_readLine 113 = .ok (.invokevirtual 128, 3) := by decide +kernel
theorem d_Rd_readLine_116 : decode b_Rd_readLine 116 = .ok (.ifCond .ne 5, 3) := by decide +kernel
theorem d_Rd_readLine_119 : decode b_Rd_readLine 119 = .ok (.iconst 0, 1) := by decide +kernel
theorem d_Rd_readLine_120 : decode b_Rd_readLine 120 = .ok (.ireturn, 1) := by decide +kernel
theorem d_Rd_readLine_121 : decode b_Rd_readLine 121 = .ok (.aload_n 0, 1) := by decide +kernel
theorem d_Rd_readLine_122 : decode b_Rd_readLine 122 = .ok (.getfield 12, 3) := by decide +kernel
theorem d_Rd_readLine_125 : decode b_Rd_readLine 125 = .ok (.getfield 59, 3) := by decide +kernel
theorem d_Rd_readLine_128 : decode b_Rd_readLine 128 = .ok (.iconst 3, 1) := by decide +kernel
theorem d_Rd_readLine_129 : decode b_Rd_readLine 129 = .ok (.if_icmp .eq 5, 3) := by decide +kernel
theorem d_Rd_readLine_132 : decode b_Rd_readLine 132 = .ok (.iconst 0, 1) := by decide +kernel
theorem d_Rd_readLine_133 : decode b_Rd_readLine 133 = .ok (.ireturn, 1) := by decide +kernel
theorem d_Rd_readLine_134 : decode b_Rd_readLine 134 = .ok (.aload_n 0, 1) := by decide +kernel
theorem d_Rd_readLine_135 : decode b_Rd_readLine 135 = .ok (.getfield 12, 3) := by decide +kernel
theorem d_Rd_readLine_138 : decode b_Rd_readLine 138 = .ok (.invokevirtual 119, 3) := by decide +kernel
theorem d_Rd_readLine_141 : decode b_Rd_readLine 141 = .ok (.iconst 1, 1) := by decide +kernel
theorem d_Rd_readLine_142 : decode b_Rd_readLine 142 = .ok (.ireturn, 1) := by decide +kernel
theorem d_Rd_lineHere_0 : decode b_Rd_lineHere 0 = .ok (.iload_n 1, 1) := by decide +kernel
theorem d_Rd_lineHere_1 : decode b_Rd_lineHere 1 = .ok (.tableswitch 93 0 3 #[31, 36, 55, 74], 31) := by decide +kernel
theorem d_Rd_lineHere_32 : decode b_Rd_lineHere 32 = .ok (.aload_n 0, 1) := by decide +kernel
theorem d_Rd_lineHere_33 : decode b_Rd_lineHere 33 = .ok (.invokevirtual 132, 3) := by decide +kernel
theorem d_Rd_lineHere_36 : decode b_Rd_lineHere 36 = .ok (.ireturn, 1) := by decide +kernel
theorem d_Rd_lineHere_37 : decode b_Rd_lineHere 37 = .ok (.aload_n 0, 1) := by decide +kernel
theorem d_Rd_lineHere_38 : decode b_Rd_lineHere 38 = .ok (.getfield 12, 3) := by decide +kernel
theorem d_Rd_lineHere_41 : decode b_Rd_lineHere 41 = .ok (.ldc 136, 2) := by decide +kernel
theorem d_Rd_lineHere_43 : decode b_Rd_lineHere 43 = .ok (.invokevirtual 138, 3) := by decide +kernel
theorem d_Rd_lineHere_46 : decode b_Rd_lineHere 46 = .ok (.ifCond .eq 8, 3) := by decide +kernel
theorem d_Rd_lineHere_49 : decode b_Rd_lineHere 49 = .ok (.bipush 8, 2) := by decide +kernel
theorem d_Rd_lineHere_51 : decode b_Rd_lineHere 51 = .ok (.goto 4, 3) := by decide +kernel
theorem d_Rd_lineHere_54 : decode b_Rd_lineHere 54 = .ok (.iconst (-1), 1) := by decide +kernel
theorem d_Rd_lineHere_55 : decode b_Rd_lineHere 55 = .ok (.ireturn, 1) := by decide +kernel
theorem d_Rd_lineHere_56 : decode b_Rd_lineHere 56 = .ok (.aload_n 0, 1) := by decide +kernel
theorem d_Rd_lineHere_57 : decode b_Rd_lineHere 57 = .ok (.getfield 12, 3) := by decide +kernel
theorem d_Rd_lineHere_60 : decode b_Rd_lineHere 60 = .ok (.ldc 142, 2) := by decide +kernel
theorem d_Rd_lineHere_62 : decode b_Rd_lineHere 62 = .ok (.invokevirtual 138, 3) := by decide +kernel
theorem d_Rd_lineHere_65 : decode b_Rd_lineHere 65 = .ok (.ifCond .eq 8, 3) := by decide +kernel
theorem d_Rd_lineHere_68 : decode b_Rd_lineHere 68 = .ok (.bipush 9, 2) := by decide +kernel
theorem d_Rd_lineHere_70 : decode b_Rd_lineHere 70 = .ok (.goto 4, 3) := by decide +kernel
theorem d_Rd_lineHere_73 : decode b_Rd_lineHere 73 = .ok (.iconst (-1), 1) := by decide +kernel
theorem d_Rd_lineHere_74 : decode b_Rd_lineHere 74 = .ok (.ireturn, 1) := by decide +kernel
theorem d_Rd_lineHere_75 : decode b_Rd_lineHere 75 = .ok (.aload_n 0, 1) := by decide +kernel
theorem d_Rd_lineHere_76 : decode b_Rd_lineHere 76 = .ok (.getfield 12, 3) := by decide +kernel
theorem d_Rd_lineHere_79 : decode b_Rd_lineHere 79 = .ok (.ldc 144, 2) := by decide +kernel
theorem d_Rd_lineHere_81 : decode b_Rd_lineHere 81 = .ok (.invokevirtual 138, 3) := by decide +kernel
theorem d_Rd_lineHere_84 : decode b_Rd_lineHere 84 = .ok (.ifCond .eq 8, 3) := by decide +kernel
theorem d_Rd_lineHere_87 : decode b_Rd_lineHere 87 = .ok (.bipush 10, 2) := by decide +kernel
theorem d_Rd_lineHere_89 : decode b_Rd_lineHere 89 = .ok (.goto 4, 3) := by decide +kernel
theorem d_Rd_lineHere_92 : decode b_Rd_lineHere 92 = .ok (.iconst (-1), 1) := by decide +kernel
theorem d_Rd_lineHere_93 : decode b_Rd_lineHere 93 = .ok (.ireturn, 1) := by decide +kernel
theorem d_Rd_lineHere_94 : decode b_Rd_lineHere 94 = .ok (.aload_n 0, 1) := by decide +kernel
theorem d_Rd_lineHere_95 : decode b_Rd_lineHere 95 = .ok (.getfield 12, 3) := by decide +kernel
theorem d_Rd_lineHere_98 : decode b_Rd_lineHere 98 = .ok (.ldc 146, 2) := by decide +kernel
theorem d_Rd_lineHere_100 : decode b_Rd_lineHere 100 = .ok (.invokevirtual 138, 3) := by decide +kernel
theorem d_Rd_lineHere_103 : decode b_Rd_lineHere 103 = .ok (.ifCond .eq 8, 3) := by decide +kernel
theorem d_Rd_lineHere_106 : decode b_Rd_lineHere 106 = .ok (.bipush 11, 2) := by decide +kernel
theorem d_Rd_lineHere_108 : decode b_Rd_lineHere 108 = .ok (.goto 4, 3) := by decide +kernel
theorem d_Rd_lineHere_111 : decode b_Rd_lineHere 111 = .ok (.iconst (-1), 1) := by decide +kernel
theorem d_Rd_lineHere_112 : decode b_Rd_lineHere 112 = .ok (.ireturn, 1) := by decide +kernel
theorem d_Rd_landLineHere_0 : decode b_Rd_landLineHere 0 = .ok (.aload_n 0, 1) := by decide +kernel
theorem d_Rd_landLineHere_1 : decode b_Rd_landLineHere 1 = .ok (.getfield 12, 3) := by decide +kernel
theorem d_Rd_landLineHere_4 : decode b_Rd_landLineHere 4 = .ok (.ldc 148, 2) := by decide +kernel
theorem d_Rd_landLineHere_6 : decode b_Rd_landLineHere 6 = .ok (.invokevirtual 138, 3) := by decide +kernel
theorem d_Rd_landLineHere_9 : decode b_Rd_landLineHere 9 = .ok (.ifCond .eq 5, 3) := by decide +kernel
theorem d_Rd_landLineHere_12 : decode b_Rd_landLineHere 12 = .ok (.iconst 0, 1) := by decide +kernel
theorem d_Rd_landLineHere_13 : decode b_Rd_landLineHere 13 = .ok (.ireturn, 1) := by decide +kernel
theorem d_Rd_landLineHere_14 : decode b_Rd_landLineHere 14 = .ok (.aload_n 0, 1) := by decide +kernel
theorem d_Rd_landLineHere_15 : decode b_Rd_landLineHere 15 = .ok (.getfield 12, 3) := by decide +kernel
theorem d_Rd_landLineHere_18 : decode b_Rd_landLineHere 18 = .ok (.ldc 149, 2) := by decide +kernel
theorem d_Rd_landLineHere_20 : decode b_Rd_landLineHere 20 = .ok (.invokevirtual 138, 3) := by decide +kernel
theorem d_Rd_landLineHere_23 : decode b_Rd_landLineHere 23 = .ok (.ifCond .eq 5, 3) := by decide +kernel
theorem d_Rd_landLineHere_26 : decode b_Rd_landLineHere 26 = .ok (.iconst 1, 1) := by decide +kernel
theorem d_Rd_landLineHere_27 : decode b_Rd_landLineHere 27 = .ok (.ireturn, 1) := by decide +kernel
theorem d_Rd_landLineHere_28 : decode b_Rd_landLineHere 28 = .ok (.aload_n 0, 1) := by decide +kernel
theorem d_Rd_landLineHere_29 : decode b_Rd_landLineHere 29 = .ok (.getfield 12, 3) := by decide +kernel
theorem d_Rd_landLineHere_32 : decode b_Rd_landLineHere 32 = .ok (.ldc 151, 2) := by decide +kernel
theorem d_Rd_landLineHere_34 : decode b_Rd_landLineHere 34 = .ok (.invokevirtual 138, 3) := by decide +kernel
theorem d_Rd_landLineHere_37 : decode b_Rd_landLineHere 37 = .ok (.ifCond .eq 5, 3) := by decide +kernel
theorem d_Rd_landLineHere_40 : decode b_Rd_landLineHere 40 = .ok (.iconst 2, 1) := by decide +kernel
theorem d_Rd_landLineHere_41 : decode b_Rd_landLineHere 41 = .ok (.ireturn, 1) := by decide +kernel
theorem d_Rd_landLineHere_42 : decode b_Rd_landLineHere 42 = .ok (.aload_n 0, 1) := by decide +kernel
theorem d_Rd_landLineHere_43 : decode b_Rd_landLineHere 43 = .ok (.getfield 12, 3) := by decide +kernel
theorem d_Rd_landLineHere_46 : decode b_Rd_landLineHere 46 = .ok (.ldc 153, 2) := by decide +kernel
theorem d_Rd_landLineHere_48 : decode b_Rd_landLineHere 48 = .ok (.invokevirtual 138, 3) := by decide +kernel
theorem d_Rd_landLineHere_51 : decode b_Rd_landLineHere 51 = .ok (.ifCond .eq 5, 3) := by decide +kernel
theorem d_Rd_landLineHere_54 : decode b_Rd_landLineHere 54 = .ok (.iconst 3, 1) := by decide +kernel
theorem d_Rd_landLineHere_55 : decode b_Rd_landLineHere 55 = .ok (.ireturn, 1) := by decide +kernel
theorem d_Rd_landLineHere_56 : decode b_Rd_landLineHere 56 = .ok (.aload_n 0, 1) := by decide +kernel
theorem d_Rd_landLineHere_57 : decode b_Rd_landLineHere 57 = .ok (.getfield 12, 3) := by decide +kernel
theorem d_Rd_landLineHere_60 : decode b_Rd_landLineHere 60 = .ok (.ldc 155, 2) := by decide +kernel
theorem d_Rd_landLineHere_62 : decode b_Rd_landLineHere 62 = .ok (.invokevirtual 138, 3) := by decide +kernel
theorem d_Rd_landLineHere_65 : decode b_Rd_landLineHere 65 = .ok (.ifCond .eq 5, 3) := by decide +kernel
theorem d_Rd_landLineHere_68 : decode b_Rd_landLineHere 68 = .ok (.iconst 4, 1) := by decide +kernel
theorem d_Rd_landLineHere_69 : decode b_Rd_landLineHere 69 = .ok (.ireturn, 1) := by decide +kernel
theorem d_Rd_landLineHere_70 : decode b_Rd_landLineHere 70 = .ok (.aload_n 0, 1) := by decide +kernel
theorem d_Rd_landLineHere_71 : decode b_Rd_landLineHere 71 = .ok (.getfield 12, 3) := by decide +kernel
theorem d_Rd_landLineHere_74 : decode b_Rd_landLineHere 74 = .ok (.ldc 157, 2) := by decide +kernel
theorem d_Rd_landLineHere_76 : decode b_Rd_landLineHere 76 = .ok (.invokevirtual 138, 3) := by decide +kernel
theorem d_Rd_landLineHere_79 : decode b_Rd_landLineHere 79 = .ok (.ifCond .eq 5, 3) := by decide +kernel
theorem d_Rd_landLineHere_82 : decode b_Rd_landLineHere 82 = .ok (.iconst 5, 1) := by decide +kernel
theorem d_Rd_landLineHere_83 : decode b_Rd_landLineHere 83 = .ok (.ireturn, 1) := by decide +kernel
theorem d_Rd_landLineHere_84 : decode b_Rd_landLineHere 84 = .ok (.aload_n 0, 1) := by decide +kernel
theorem d_Rd_landLineHere_85 : decode b_Rd_landLineHere 85 = .ok (.getfield 12, 3) := by decide +kernel
theorem d_Rd_landLineHere_88 : decode b_Rd_landLineHere 88 = .ok (.ldc 159, 2) := by decide +kernel
theorem d_Rd_landLineHere_90 : decode b_Rd_landLineHere 90 = .ok (.invokevirtual 138, 3) := by decide +kernel
theorem d_Rd_landLineHere_93 : decode b_Rd_landLineHere 93 = .ok (.ifCond .eq 6, 3) := by decide +kernel
theorem d_Rd_landLineHere_96 : decode b_Rd_landLineHere 96 = .ok (.bipush 6, 2) := by decide +kernel
theorem d_Rd_landLineHere_98 : decode b_Rd_landLineHere 98 = .ok (.ireturn, 1) := by decide +kernel
theorem d_Rd_landLineHere_99 : decode b_Rd_landLineHere 99 = .ok (.aload_n 0, 1) := by decide +kernel
theorem d_Rd_landLineHere_100 : decode b_Rd_landLineHere 100 = .ok (.getfield 12, 3) := by decide +kernel
theorem d_Rd_landLineHere_103 : decode b_Rd_landLineHere 103 = .ok (.ldc 161, 2) := by decide +kernel
theorem d_Rd_landLineHere_105 : decode b_Rd_landLineHere 105 = .ok (.invokevirtual 138, 3) := by decide +kernel
theorem d_Rd_landLineHere_108 : decode b_Rd_landLineHere 108 = .ok (.ifCond .eq 8, 3) := by decide +kernel
theorem d_Rd_landLineHere_111 : decode b_Rd_landLineHere 111 = .ok (.bipush 7, 2) := by decide +kernel
theorem d_Rd_landLineHere_113 : decode b_Rd_landLineHere 113 = .ok (.goto 4, 3) := by decide +kernel
theorem d_Rd_landLineHere_116 : decode b_Rd_landLineHere 116 = .ok (.iconst (-1), 1) := by decide +kernel
theorem d_Rd_landLineHere_117 : decode b_Rd_landLineHere 117 = .ok (.ireturn, 1) := by decide +kernel
theorem d_To_isWord_0 : decode b_To_isWord 0 = .ok (.aload_n 0, 1) := by decide +kernel
theorem d_To_isWord_1 : decode b_To_isWord 1 = .ok (.getfield 32, 3) := by decide +kernel
theorem d_To_isWord_4 : decode b_To_isWord 4 = .ok (.iconst 1, 1) := by decide +kernel
theorem d_To_isWord_5 : decode b_To_isWord 5 = .ok (.if_icmp .ne 19, 3) := by decide +kernel
theorem d_To_isWord_8 : decode b_To_isWord 8 = .ok (.aload_n 0, 1) := by decide +kernel
theorem d_To_isWord_9 : decode b_To_isWord 9 = .ok (.getfield 23, 3) := by decide +kernel
theorem d_To_isWord_12 : decode b_To_isWord 12 = .ok (.aload_n 0, 1) := by decide +kernel
theorem d_To_isWord_13 : decode b_To_isWord 13 = .ok (.getfield 29, 3) := by decide +kernel
theorem d_To_isWord_16 : decode b_To_isWord 16 = .ok (.isub, 1) := by decide +kernel
theorem d_To_isWord_17 : decode b_To_isWord 17 = .ok (.aload_n 1, 1) := by decide +kernel
theorem d_To_isWord_18 : decode b_To_isWord 18 = .ok (.invokevirtual 49, 3) := by decide +kernel
theorem d_To_isWord_21 : decode b_To_isWord 21 = .ok (.if_icmp .eq 5, 3) := by decide +kernel
theorem d_To_isWord_24 : decode b_To_isWord 24 = .ok (.iconst 0, 1) := by decide +kernel
theorem d_To_isWord_25 : decode b_To_isWord 25 = .ok (.ireturn, 1) := by decide +kernel
theorem d_To_isWord_26 : decode b_To_isWord 26 = .ok (.iconst 0, 1) := by decide +kernel
theorem d_To_isWord_27 : decode b_To_isWord 27 = .ok (.istore_n 2, 1) := by decide +kernel
theorem d_To_isWord_28 : decode b_To_isWord 28 = .ok (.iload_n 2, 1) := by decide +kernel
theorem d_To_isWord_29 : decode b_To_isWord 29 = .ok (.aload_n 1, 1) := by decide +kernel
theorem d_To_isWord_30 : decode b_To_isWord 30 = .ok (.invokevirtual 49, 3) := by decide +kernel
theorem d_To_isWord_33 : decode b_To_isWord 33 = .ok (.if_icmp .ge 30, 3) := by decide +kernel
theorem d_To_isWord_36 : decode b_To_isWord 36 = .ok (.aload_n 0, 1) := by decide +kernel
theorem d_To_isWord_37 : decode b_To_isWord 37 = .ok (.getfield 7, 3) := by decide +kernel
theorem d_To_isWord_40 : decode b_To_isWord 40 = .ok (.aload_n 0, 1) := by decide +kernel
theorem d_To_isWord_41 : decode b_To_isWord 41 = .ok (.getfield 29, 3) := by decide +kernel
theorem d_To_isWord_44 : decode b_To_isWord 44 = .ok (.iload_n 2, 1) := by decide +kernel
theorem d_To_isWord_45 : decode b_To_isWord 45 = .ok (.iadd, 1) := by decide +kernel
theorem d_To_isWord_46 : decode b_To_isWord 46 = .ok (.iaload, 1) := by decide +kernel
theorem d_To_isWord_47 : decode b_To_isWord 47 = .ok (.aload_n 1, 1) := by decide +kernel
theorem d_To_isWord_48 : decode b_To_isWord 48 = .ok (.iload_n 2, 1) := by decide +kernel
theorem d_To_isWord_49 : decode b_To_isWord 49 = .ok (.invokevirtual 54, 3) := by decide +kernel
theorem d_To_isWord_52 : decode b_To_isWord 52 = .ok (.if_icmp .eq 5, 3) := by decide +kernel
theorem d_To_isWord_55 : decode b_To_isWord 55 = .ok (.iconst 0, 1) := by decide +kernel
theorem d_To_isWord_56 : decode b_To_isWord 56 = .ok (.ireturn, 1) := by decide +kernel
theorem d_To_isWord_57 : decode b_To_isWord 57 = .ok (.iinc 2 1, 3) := by decide +kernel
theorem d_To_isWord_60 : decode b_To_isWord 60 = .ok (.goto (-32), 3) := by decide +kernel
theorem d_To_isWord_63 : decode b_To_isWord 63 = .ok (.iconst 1, 1) := by decide +kernel
theorem d_To_isWord_64 : decode b_To_isWord 64 = .ok (.ireturn, 1) := by decide +kernel
theorem d_JS_length_0 : decode b_JS_length 0 = .ok (.aload_n 0, 1) := by decide +kernel
theorem d_JS_length_1 : decode b_JS_length 1 = .ok (.getfield 9, 3) := by decide +kernel
theorem d_JS_length_4 : decode b_JS_length 4 = .ok (.arraylength, 1) := by decide +kernel
theorem d_JS_length_5 : decode b_JS_length 5 = .ok (.aload_n 0, 1) := by decide +kernel
theorem d_JS_length_6 : decode b_JS_length 6 = .ok (.invokevirtual 335, 3) := by decide +kernel
theorem d_JS_length_9 : decode b_JS_length 9 = .ok (.ishr, 1) := by decide +kernel
theorem d_JS_length_10 : decode b_JS_length 10 = .ok (.ireturn, 1) := by decide +kernel
theorem d_JS_coder_0 : decode b_JS_coder 0 = .ok (.getstatic 38, 3) := by decide +kernel
theorem d_JS_coder_3 : decode b_JS_coder 3 = .ok (.ifCond .eq 10, 3) := by decide +kernel
theorem d_JS_coder_6 : decode b_JS_coder 6 = .ok (.aload_n 0, 1) := by decide +kernel
theorem d_JS_coder_7 : decode b_JS_coder 7 = .ok (.getfield 15, 3) := by decide +kernel
theorem d_JS_coder_10 : decode b_JS_coder 10 = .ok (.goto 4, 3) := by decide +kernel
theorem d_JS_coder_13 : decode b_JS_coder 13 = .ok (.iconst 1, 1) := by decide +kernel
theorem d_JS_coder_14 : decode b_JS_coder 14 = .ok (.ireturn, 1) := by decide +kernel
theorem d_JS_charAt_0 : decode b_JS_charAt 0 = .ok (.aload_n 0, 1) := by decide +kernel
theorem d_JS_charAt_1 : decode b_JS_charAt 1 = .ok (.invokevirtual 492, 3) := by decide +kernel
theorem d_JS_charAt_4 : decode b_JS_charAt 4 = .ok (.ifCond .eq 12, 3) := by decide +kernel
theorem d_JS_charAt_7 : decode b_JS_charAt 7 = .ok (.aload_n 0, 1) := by decide +kernel
theorem d_JS_charAt_8 : decode b_JS_charAt 8 = .ok (.getfield 9, 3) := by decide +kernel
theorem d_JS_charAt_11 : decode b_JS_charAt 11 = .ok (.iload_n 1, 1) := by decide +kernel
theorem d_JS_charAt_12 : decode b_JS_charAt 12 = .ok (.invokestatic 495, 3) := by decide +kernel
theorem d_JS_charAt_15 : decode b_JS_charAt 15 = .ok (.ireturn, 1) := by decide +kernel
theorem d_JS_charAt_16 : decode b_JS_charAt 16 = .ok (.aload_n 0, 1) := by decide +kernel
theorem d_JS_charAt_17 : decode b_JS_charAt 17 = .ok (.getfield 9, 3) := by decide +kernel
theorem d_JS_charAt_20 : decode b_JS_charAt 20 = .ok (.iload_n 1, 1) := by decide +kernel
theorem d_JS_charAt_21 : decode b_JS_charAt 21 = .ok (.invokestatic 498, 3) := by decide +kernel
theorem d_JS_charAt_24 : decode b_JS_charAt 24 = .ok (.ireturn, 1) := by decide +kernel
theorem d_JS_isLatin1_0 : decode b_JS_isLatin1 0 = .ok (.getstatic 38, 3) := by decide +kernel
theorem d_JS_isLatin1_3 : decode b_JS_isLatin1 3 = .ok (.ifCond .eq 14, 3) := by decide +kernel
theorem d_JS_isLatin1_6 : decode b_JS_isLatin1 6 = .ok (.aload_n 0, 1) := by decide +kernel
theorem d_JS_isLatin1_7 : decode b_JS_isLatin1 7 = .ok (.getfield 15, 3) := by decide +kernel
theorem d_JS_isLatin1_10 : decode b_JS_isLatin1 10 = .ok (.ifCond .ne 7, 3) := by decide +kernel
theorem d_JS_isLatin1_13 : decode b_JS_isLatin1 13 = .ok (.iconst 1, 1) := by decide +kernel
theorem d_JS_isLatin1_14 : decode b_JS_isLatin1 14 = .ok (.goto 4, 3) := by decide +kernel
theorem d_JS_isLatin1_17 : decode b_JS_isLatin1 17 = .ok (.iconst 0, 1) := by decide +kernel
theorem d_JS_isLatin1_18 : decode b_JS_isLatin1 18 = .ok (.ireturn, 1) := by decide +kernel
theorem d_JL_charAt_0 : decode b_JL_charAt 0 = .ok (.iload_n 1, 1) := by decide +kernel
theorem d_JL_charAt_1 : decode b_JL_charAt 1 = .ok (.aload_n 0, 1) := by decide +kernel
theorem d_JL_charAt_2 : decode b_JL_charAt 2 = .ok (.arraylength, 1) := by decide +kernel
theorem d_JL_charAt_3 : decode b_JL_charAt 3 = .ok (.invokestatic 9, 3) := by decide +kernel
theorem d_JL_charAt_6 : decode b_JL_charAt 6 = .ok (.aload_n 0, 1) := by decide +kernel
theorem d_JL_charAt_7 : decode b_JL_charAt 7 = .ok (.iload_n 1, 1) := by decide +kernel
theorem d_JL_charAt_8 : decode b_JL_charAt 8 = .ok (.baload, 1) := by decide +kernel
theorem d_JL_charAt_9 : decode b_JL_charAt 9 = .ok (.sipush 255, 3) := by decide +kernel
theorem d_JL_charAt_12 : decode b_JL_charAt 12 = .ok (.iand, 1) := by decide +kernel
theorem d_JL_charAt_13 : decode b_JL_charAt 13 = .ok (.i2c, 1) := by decide +kernel
theorem d_JL_charAt_14 : decode b_JL_charAt 14 = .ok (.ireturn, 1) := by decide +kernel
theorem d_JS_checkIndex_0 : decode b_JS_checkIndex 0 = .ok (.iload_n 0, 1) := by decide +kernel
theorem d_JS_checkIndex_1 : decode b_JS_checkIndex 1 = .ok (.iload_n 1, 1) := by decide +kernel
theorem d_JS_checkIndex_2 : decode b_JS_checkIndex 2 = .ok (.getstatic 1053, 3) := by decide +kernel
theorem d_JS_checkIndex_5 : decode b_JS_checkIndex 5 = .ok (.invokestatic 1059, 3) := by decide +kernel
theorem d_JS_checkIndex_8 : decode b_JS_checkIndex 8 = .ok (.pop, 1) := by decide +kernel
theorem d_JS_checkIndex_9 : decode b_JS_checkIndex 9 = .ok (.return_, 1) := by decide +kernel
theorem d_JP_checkIndex_0 : decode b_JP_checkIndex 0 = .ok (.iload_n 0, 1) := by decide +kernel
theorem d_JP_checkIndex_1 : decode b_JP_checkIndex 1 = .ok (.ifCond .lt 8, 3) := by decide +kernel
theorem d_JP_checkIndex_4 : decode b_JP_checkIndex 4 = .ok (.iload_n 0, 1) := by decide +kernel
theorem d_JP_checkIndex_5 : decode b_JP_checkIndex 5 = .ok (.iload_n 1, 1) := by decide +kernel
theorem d_JP_checkIndex_6 : decode b_JP_checkIndex 6 = .ok (.if_icmp .lt 10, 3) := by decide +kernel
theorem d_JP_checkIndex_9 : decode b_JP_checkIndex 9 = .ok (.aload_n 2, 1) := by decide +kernel
theorem d_JP_checkIndex_10 : decode b_JP_checkIndex 10 = .ok (.iload_n 0, 1) := by decide +kernel
theorem d_JP_checkIndex_11 : decode b_JP_checkIndex 11 = .ok (.iload_n 1, 1) := by decide +kernel
theorem d_JP_checkIndex_12 : decode b_JP_checkIndex 12 = .ok (.invokestatic 95, 3) := by decide +kernel
theorem d_JP_checkIndex_15 : decode b_JP_checkIndex 15 = .ok (.athrow, 1) := by decide +kernel
theorem d_JP_checkIndex_16 : decode b_JP_checkIndex 16 = .ok (.iload_n 0, 1) := by decide +kernel
theorem d_JP_checkIndex_17 : decode b_JP_checkIndex 17 = .ok (.ireturn, 1) := by decide +kernel
theorem d_JU_charAt_0 : decode b_JU_charAt 0 = .ok (.iload_n 1, 1) := by decide +kernel
theorem d_JU_charAt_1 : decode b_JU_charAt 1 = .ok (.aload_n 0, 1) := by decide +kernel
theorem d_JU_charAt_2 : decode b_JU_charAt 2 = .ok (.invokestatic 67, 3) := by decide +kernel
theorem d_JU_charAt_5 : decode b_JU_charAt 5 = .ok (.aload_n 0, 1) := by decide +kernel
theorem d_JU_charAt_6 : decode b_JU_charAt 6 = .ok (.iload_n 1, 1) := by decide +kernel
theorem d_JU_charAt_7 : decode b_JU_charAt 7 = .ok (.invokestatic 71, 3) := by decide +kernel
theorem d_JU_charAt_10 : decode b_JU_charAt 10 = .ok (.ireturn, 1) := by decide +kernel
theorem d_JU_checkIndex_0 : decode b_JU_checkIndex 0 = .ok (.iload_n 0, 1) := by decide +kernel
theorem d_JU_checkIndex_1 : decode b_JU_checkIndex 1 = .ok (.aload_n 1, 1) := by decide +kernel
theorem d_JU_checkIndex_2 : decode b_JU_checkIndex 2 = .ok (.invokestatic 48, 3) := by decide +kernel
theorem d_JU_checkIndex_5 : decode b_JU_checkIndex 5 = .ok (.invokestatic 414, 3) := by decide +kernel
theorem d_JU_checkIndex_8 : decode b_JU_checkIndex 8 = .ok (.return_, 1) := by decide +kernel
theorem d_JU_length_0 : decode b_JU_length 0 = .ok (.aload_n 0, 1) := by decide +kernel
theorem d_JU_length_1 : decode b_JU_length 1 = .ok (.arraylength, 1) := by decide +kernel
theorem d_JU_length_2 : decode b_JU_length 2 = .ok (.iconst 1, 1) := by decide +kernel
theorem d_JU_length_3 : decode b_JU_length 3 = .ok (.ishr, 1) := by decide +kernel
theorem d_JU_length_4 : decode b_JU_length 4 = .ok (.ireturn, 1) := by decide +kernel
theorem d_JU_getChar_0 : decode b_JU_getChar 0 = .ok (.getstatic 44, 3) := by decide +kernel
theorem d_JU_getChar_3 : decode b_JU_getChar 3 = .ok (.ifCond .ne 25, 3) := by decide +kernel
theorem d_JU_getChar_6 : decode b_JU_getChar 6 = .ok (.iload_n 1, 1) := by decide +kernel
theorem d_JU_getChar_7 : decode b_JU_getChar 7 = .ok (.ifCond .lt 11, 3) := by decide +kernel
theorem d_JU_getChar_10 : decode b_JU_getChar 10 = .ok (.iload_n 1, 1) := by decide +kernel
theorem d_JU_getChar_11 : decode b_JU_getChar 11 = .ok (.aload_n 0, 1) := by decide +kernel
theorem d_JU_getChar_12 : decode b_JU_getChar 12 = .ok (.invokestatic 48, 3) := by decide +kernel
theorem d_JU_getChar_15 : decode b_JU_getChar 15 = .ok (.if_icmp .lt 13, 3) := by decide +kernel
theorem d_JU_getChar_18 : decode b_JU_getChar 18 = .ok (.new 52, 3) := by decide +kernel
theorem d_JU_getChar_21 : decode b_JU_getChar 21 = .ok (.dup, 1) := by decide +kernel
theorem d_JU_getChar_22 : decode b_JU_getChar 22 = .ok (.ldc 54, 2) := by decide +kernel
theorem d_JU_getChar_24 : decode b_JU_getChar 24 = .ok (.invokespecial 56, 3) := by decide +kernel
theorem d_JU_getChar_27 : decode b_JU_getChar 27 = .ok (.athrow, 1) := by decide +kernel
theorem d_JU_getChar_28 : decode b_JU_getChar 28 = .ok (.iload_n 1, 1) := by decide +kernel
theorem d_JU_getChar_29 : decode b_JU_getChar 29 = .ok (.iconst 1, 1) := by decide +kernel
theorem d_JU_getChar_30 : decode b_JU_getChar 30 = .ok (.ishl, 1) := by decide +kernel
theorem d_JU_getChar_31 : decode b_JU_getChar 31 = .ok (.istore_n 1, 1) := by decide +kernel
theorem d_JU_getChar_32 : decode b_JU_getChar 32 = .ok (.aload_n 0, 1) := by decide +kernel
theorem d_JU_getChar_33 : decode b_JU_getChar 33 = .ok (.iload_n 1, 1) := by decide +kernel
theorem d_JU_getChar_34 : decode b_JU_getChar 34 = .ok (.iinc 1 1, 3) := by decide +kernel
theorem d_JU_getChar_37 : decode b_JU_getChar 37 = .ok (.baload, 1) := by decide +kernel
theorem d_JU_getChar_38 : decode b_JU_getChar 38 = .ok (.sipush 255, 3) := by decide +kernel
theorem d_JU_getChar_41 : decode b_JU_getChar 41 = .ok (.iand, 1) := by decide +kernel
theorem d_JU_getChar_42 : decode b_JU_getChar 42 = .ok (.getstatic 59, 3) := by decide +kernel
theorem d_JU_getChar_45 : decode b_JU_getChar 45 = .ok (.ishl, 1) := by decide +kernel
theorem d_JU_getChar_46 : decode b_JU_getChar 46 = .ok (.aload_n 0, 1) := by decide +kernel
theorem d_JU_getChar_47 : decode b_JU_getChar 47 = .ok (.iload_n 1, 1) := by decide +kernel
theorem d_JU_getChar_48 : decode b_JU_getChar 48 = .ok (.baload, 1) := by decide +kernel
theorem d_JU_getChar_49 : decode b_JU_getChar 49 = .ok (.sipush 255, 3) := by decide +kernel
theorem d_JU_getChar_52 : decode b_JU_getChar 52 = .ok (.iand, 1) := by decide +kernel
theorem d_JU_getChar_53 : decode b_JU_getChar 53 = .ok (.getstatic 63, 3) := by decide +kernel
theorem d_JU_getChar_56 : decode b_JU_getChar 56 = .ok (.ishl, 1) := by decide +kernel
theorem d_JU_getChar_57 : decode b_JU_getChar 57 = .ok (.ior, 1) := by decide +kernel
theorem d_JU_getChar_58 : decode b_JU_getChar 58 = .ok (.i2c, 1) := by decide +kernel
theorem d_JU_getChar_59 : decode b_JU_getChar 59 = .ok (.ireturn, 1) := by decide +kernel
theorem d_Rd_readDark_0 : decode b_Rd_readDark 0 = .ok (.aload_n 0, 1) := by decide +kernel
theorem d_Rd_readDark_1 : decode b_Rd_readDark 1 = .ok (.aload_n 0, 1) := by decide +kernel
theorem d_Rd_readDark_2 : decode b_Rd_readDark 2 = .ok (.getfield 12, 3) := by decide +kernel
theorem d_Rd_readDark_5 : decode b_Rd_readDark 5 = .ok (.ldc 163, 2) := by decide +kernel
theorem d_Rd_readDark_7 : decode b_Rd_readDark 7 = .ok (.invokevirtual 138, 3) := by decide +kernel
theorem d_Rd_readDark_10 : decode b_Rd_readDark 10 = .ok (.putfield 165, 3) := by decide +kernel
theorem d_Rd_readDark_13 : decode b_Rd_readDark 13 = .ok (.aload_n 0, 1) := by decide +kernel
theorem d_Rd_readDark_14 : decode b_Rd_readDark 14 = .ok (.getfield 165, 3) := by decide +kernel
theorem d_Rd_readDark_17 : decode b_Rd_readDark 17 = .ok (.ifCond .ne 17, 3) := by decide +kernel
theorem d_Rd_readDark_20 : decode b_Rd_readDark 20 = .ok (.aload_n 0, 1) := by decide +kernel
theorem d_Rd_readDark_21 : decode b_Rd_readDark 21 = .ok (.getfield 12, 3) := by decide +kernel
theorem d_Rd_readDark_24 : decode b_Rd_readDark 24 = .ok (.ldc 169, 2) := by decide +kernel
theorem d_Rd_readDark_26 : decode b_Rd_readDark 26 = .ok (.invokevirtual 138, 3) := by decide +kernel
theorem d_Rd_readDark_29 : decode b_Rd_readDark 29 = .ok (.ifCond .ne 5, 3) := by decide +kernel
theorem d_Rd_readDark_32 : decode b_Rd_readDark 32 = .ok (.iconst 0, 1) := by decide +kernel
theorem d_Rd_readDark_33 : decode b_Rd_readDark 33 = .ok (.ireturn, 1) := by decide +kernel
theorem d_Rd_readDark_34 : decode b_Rd_readDark 34 = .ok (.aload_n 0, 1) := by decide +kernel
theorem d_Rd_readDark_35 : decode b_Rd_readDark 35 = .ok (.getfield 12, 3) := by decide +kernel
theorem d_Rd_readDark_38 : decode b_Rd_readDark 38 = .ok (.invokevirtual 119, 3) := by decide +kernel
theorem d_Rd_readDark_41 : decode b_Rd_readDark 41 = .ok (.iconst 1, 1) := by decide +kernel
theorem d_Rd_readDark_42 : decode b_Rd_readDark 42 = .ok (.ireturn, 1) := by decide +kernel
theorem d_Rd_checkLine_0 : decode b_Rd_checkLine 0 = .ok (.aload_n 0, 1) := by decide +kernel
theorem d_Rd_checkLine_1 : decode b_Rd_checkLine 1 = .ok (.invokevirtual 171, 3) := by decide +kernel
theorem d_Rd_checkLine_4 : decode b_Rd_checkLine 4 = .ok (.ifCond .eq 12, 3) := by decide +kernel
theorem d_Rd_checkLine_7 : decode b_Rd_checkLine 7 = .ok (.aload_n 0, 1) := by decide +kernel
theorem d_Rd_checkLine_8 : decode b_Rd_checkLine 8 = .ok (.iconst 3, 1) := by decide +kernel
theorem d_Rd_checkLine_9 : decode b_Rd_checkLine 9 = .ok (.aload_n 0, 1) := by decide +kernel
theorem d_Rd_checkLine_10 : decode b_Rd_checkLine 10 = .ok (.getfield 116, 3) := by decide +kernel
theorem d_Rd_checkLine_13 : decode b_Rd_checkLine 13 = .ok (.invokevirtual 95, 3) := by decide +kernel
theorem d_Rd_checkLine_16 : decode b_Rd_checkLine 16 = .ok (.iconst 0, 1) := by decide +kernel
theorem d_Rd_checkLine_17 : decode b_Rd_checkLine 17 = .ok (.istore_n 1, 1) := by decide +kernel
theorem d_Rd_checkLine_18 : decode b_Rd_checkLine 18 = .ok (.iload_n 1, 1) := by decide +kernel
theorem d_Rd_checkLine_19 : decode b_Rd_checkLine 19 = .ok (.getstatic 122, 3) := by decide +kernel
theorem d_Rd_checkLine_22 : decode b_Rd_checkLine 22 = .ok (.aload_n 0, 1) := by decide +kernel
theorem d_Rd_checkLine_23 : decode b_Rd_checkLine 23 = .ok (.getfield 113, 3) := by decide +kernel
theorem d_Rd_checkLine_26 : decode b_Rd_checkLine 26 = .ok (.iaload, 1) := by decide +kernel
theorem d_Rd_checkLine_27 : decode b_Rd_checkLine 27 = .ok (.if_icmp .ge 28, 3) := by decide +kernel
theorem d_Rd_checkLine_30 : decode b_Rd_checkLine 30 = .ok (.aload_n 0, 1) := by decide +kernel
theorem d_Rd_checkLine_31 : decode b_Rd_checkLine 31 = .ok (.iload_n 1, 1) := by decide +kernel
theorem d_Rd_checkLine_32 : decode b_Rd_checkLine 32 = .ok (.invokevirtual 174, 3) := by decide +kernel
theorem d_Rd_checkLine_35 : decode b_Rd_checkLine 35 = .ok (.ifCond .ne 14, 3) := by decide +kernel
theorem d_Rd_checkLine_38 : decode b_Rd_checkLine 38 = .ok (.aload_n 0, 1) := by decide +kernel
theorem d_Rd_checkLine_39 : decode b_Rd_checkLine 39 = .ok (.iconst 2, 1) := by decide +kernel
theorem d_Rd_checkLine_40 : decode b_Rd_checkLine 40 = .ok (.aload_n 0, 1) := by decide +kernel
theorem d_Rd_checkLine_41 : decode b_Rd_checkLine 41 = .ok (.getfield 49, 3) := by decide +kernel
theorem d_Rd_checkLine_44 : decode b_Rd_checkLine 44 = .ok (.iload_n 1, 1) := by decide +kernel
theorem d_Rd_checkLine_45 : decode b_Rd_checkLine 45 = .ok (.iaload, 1) := by decide +kernel
theorem d_Rd_checkLine_46 : decode b_Rd_checkLine 46 = .ok (.invokevirtual 95, 3) := by decide +kernel
theorem d_Rd_checkLine_49 : decode b_Rd_checkLine 49 = .ok (.iinc 1 1, 3) := by decide +kernel
theorem d_Rd_checkLine_52 : decode b_Rd_checkLine 52 = .ok (.goto (-34), 3) := by decide +kernel
theorem d_Rd_checkLine_55 : decode b_Rd_checkLine 55 = .ok (.return_, 1) := by decide +kernel
theorem d_Rd_isOneTooMany_0 : decode b_Rd_isOneTooMany 0 = .ok (.aload_n 0, 1) := by decide +kernel
theorem d_Rd_isOneTooMany_1 : decode b_Rd_isOneTooMany 1 = .ok (.getfield 113, 3) := by decide +kernel
theorem d_Rd_isOneTooMany_4 : decode b_Rd_isOneTooMany 4 = .ok (.tableswitch 116 4 10 #[44, 116, 62, 116, 116, 80, 98], 44) := by decide +kernel
theorem d_Rd_isOneTooMany_48 : decode b_Rd_isOneTooMany 48 = .ok (.aload_n 0, 1) := by decide +kernel
theorem d_Rd_isOneTooMany_49 : decode b_Rd_isOneTooMany 49 = .ok (.getfield 21, 3) := by decide +kernel
theorem d_Rd_isOneTooMany_52 : decode b_Rd_isOneTooMany 52 = .ok (.getfield 85, 3) := by decide +kernel
theorem d_Rd_isOneTooMany_55 : decode b_Rd_isOneTooMany 55 = .ok (.bipush 10, 2) := by decide +kernel
theorem d_Rd_isOneTooMany_57 : decode b_Rd_isOneTooMany 57 = .ok (.if_icmp .lt 7, 3) := by decide +kernel
theorem d_Rd_isOneTooMany_60 : decode b_Rd_isOneTooMany 60 = .ok (.iconst 1, 1) := by decide +kernel
theorem d_Rd_isOneTooMany_61 : decode b_Rd_isOneTooMany 61 = .ok (.goto 4, 3) := by decide +kernel
theorem d_Rd_isOneTooMany_64 : decode b_Rd_isOneTooMany 64 = .ok (.iconst 0, 1) := by decide +kernel
theorem d_Rd_isOneTooMany_65 : decode b_Rd_isOneTooMany 65 = .ok (.ireturn, 1) := by decide +kernel
theorem d_Rd_isOneTooMany_66 : decode b_Rd_isOneTooMany 66 = .ok (.aload_n 0, 1) := by decide +kernel
theorem d_Rd_isOneTooMany_67 : decode b_Rd_isOneTooMany 67 = .ok (.getfield 21, 3) := by decide +kernel
theorem d_Rd_isOneTooMany_70 : decode b_Rd_isOneTooMany 70 = .ok (.getfield 177, 3) := by decide +kernel
theorem d_Rd_isOneTooMany_73 : decode b_Rd_isOneTooMany 73 = .ok (.bipush 6, 2) := by decide +kernel
theorem d_Rd_isOneTooMany_75 : decode b_Rd_isOneTooMany 75 = .ok (.if_icmp .lt 7, 3) := by decide +kernel
theorem d_Rd_isOneTooMany_78 : decode b_Rd_isOneTooMany 78 = .ok (.iconst 1, 1) := by decide +kernel
theorem d_Rd_isOneTooMany_79 : decode b_Rd_isOneTooMany 79 = .ok (.goto 4, 3) := by decide +kernel
theorem d_Rd_isOneTooMany_82 : decode b_Rd_isOneTooMany 82 = .ok (.iconst 0, 1) := by decide +kernel
theorem d_Rd_isOneTooMany_83 : decode b_Rd_isOneTooMany 83 = .ok (.ireturn, 1) := by decide +kernel
theorem d_Rd_isOneTooMany_84 : decode b_Rd_isOneTooMany 84 = .ok (.aload_n 0, 1) := by decide +kernel
theorem d_Rd_isOneTooMany_85 : decode b_Rd_isOneTooMany 85 = .ok (.getfield 32, 3) := by decide +kernel
theorem d_Rd_isOneTooMany_88 : decode b_Rd_isOneTooMany 88 = .ok (.getfield 180, 3) := by decide +kernel
theorem d_Rd_isOneTooMany_91 : decode b_Rd_isOneTooMany 91 = .ok (.bipush 30, 2) := by decide +kernel
theorem d_Rd_isOneTooMany_93 : decode b_Rd_isOneTooMany 93 = .ok (.if_icmp .lt 7, 3) := by decide +kernel
theorem d_Rd_isOneTooMany_96 : decode b_Rd_isOneTooMany 96 = .ok (.iconst 1, 1) := by decide +kernel
theorem d_Rd_isOneTooMany_97 : decode b_Rd_isOneTooMany 97 = .ok (.goto 4, 3) := by decide +kernel
theorem d_Rd_isOneTooMany_100 : decode b_Rd_isOneTooMany 100 = .ok (.iconst 0, 1) := by decide +kernel
theorem d_Rd_isOneTooMany_101 : decode b_Rd_isOneTooMany 101 = .ok (.ireturn, 1) := by decide +kernel
theorem d_Rd_isOneTooMany_102 : decode b_Rd_isOneTooMany 102 = .ok (.aload_n 0, 1) := by decide +kernel
theorem d_Rd_isOneTooMany_103 : decode b_Rd_isOneTooMany 103 = .ok (.getfield 39, 3) := by decide +kernel
theorem d_Rd_isOneTooMany_106 : decode b_Rd_isOneTooMany 106 = .ok (.getfield 106, 3) := by decide +kernel
theorem d_Rd_isOneTooMany_109 : decode b_Rd_isOneTooMany 109 = .ok (.bipush 20, 2) := by decide +kernel
theorem d_Rd_isOneTooMany_111 : decode b_Rd_isOneTooMany 111 = .ok (.if_icmp .lt 7, 3) := by decide +kernel
theorem d_Rd_isOneTooMany_114 : decode b_Rd_isOneTooMany 114 = .ok (.iconst 1, 1) := by decide +kernel
theorem d_Rd_isOneTooMany_115 : decode b_Rd_isOneTooMany 115 = .ok (.goto 4, 3) := by decide +kernel
theorem d_Rd_isOneTooMany_118 : decode b_Rd_isOneTooMany 118 = .ok (.iconst 0, 1) := by decide +kernel
theorem d_Rd_isOneTooMany_119 : decode b_Rd_isOneTooMany 119 = .ok (.ireturn, 1) := by decide +kernel
theorem d_Rd_isOneTooMany_120 : decode b_Rd_isOneTooMany 120 = .ok (.iconst 0, 1) := by decide +kernel
theorem d_Rd_isOneTooMany_121 : decode b_Rd_isOneTooMany 121 = .ok (.ireturn, 1) := by decide +kernel
theorem d_Rd_note_0 : decode b_Rd_note 0 = .ok (.aload_n 0, 1) := by decide +kernel
theorem d_Rd_note_1 : decode b_Rd_note 1 = .ok (.getfield 67, 3) := by decide +kernel
theorem d_Rd_note_4 : decode b_Rd_note 4 = .ok (.ifCond .ne 13, 3) := by decide +kernel
theorem d_Rd_note_7 : decode b_Rd_note 7 = .ok (.aload_n 0, 1) := by decide +kernel
theorem d_Rd_note_8 : decode b_Rd_note 8 = .ok (.iload_n 1, 1) := by decide +kernel
theorem d_Rd_note_9 : decode b_Rd_note 9 = .ok (.putfield 67, 3) := by decide +kernel
theorem d_Rd_note_12 : decode b_Rd_note 12 = .ok (.aload_n 0, 1) := by decide +kernel
theorem d_Rd_note_13 : decode b_Rd_note 13 = .ok (.iload_n 2, 1) := by decide +kernel
theorem d_Rd_note_14 : decode b_Rd_note 14 = .ok (.putfield 73, 3) := by decide +kernel
theorem d_Rd_note_17 : decode b_Rd_note 17 = .ok (.return_, 1) := by decide +kernel
theorem d_Rd_canBe_0 : decode b_Rd_canBe 0 = .ok (.iload_n 1, 1) := by decide +kernel
theorem d_Rd_canBe_1 : decode b_Rd_canBe 1 = .ok (.iconst 2, 1) := by decide +kernel
theorem d_Rd_canBe_2 : decode b_Rd_canBe 2 = .ok (.if_icmp .ne 24, 3) := by decide +kernel
theorem d_Rd_canBe_5 : decode b_Rd_canBe 5 = .ok (.aload_n 0, 1) := by decide +kernel
theorem d_Rd_canBe_6 : decode b_Rd_canBe 6 = .ok (.getfield 113, 3) := by decide +kernel
theorem d_Rd_canBe_9 : decode b_Rd_canBe 9 = .ok (.iconst 5, 1) := by decide +kernel
theorem d_Rd_canBe_10 : decode b_Rd_canBe 10 = .ok (.if_icmp .eq 12, 3) := by decide +kernel
theorem d_Rd_canBe_13 : decode b_Rd_canBe 13 = .ok (.aload_n 0, 1) := by decide +kernel
theorem d_Rd_canBe_14 : decode b_Rd_canBe 14 = .ok (.getfield 113, 3) := by decide +kernel
theorem d_Rd_canBe_17 : decode b_Rd_canBe 17 = .ok (.bipush 8, 2) := by decide +kernel
theorem d_Rd_canBe_19 : decode b_Rd_canBe 19 = .ok (.if_icmp .ne 7, 3) := by decide +kernel
theorem d_Rd_canBe_22 : decode b_Rd_canBe 22 = .ok (.iconst 1, 1) := by decide +kernel
theorem d_Rd_canBe_23 : decode b_Rd_canBe 23 = .ok (.goto 4, 3) := by decide +kernel
theorem d_Rd_canBe_26 : decode b_Rd_canBe 26 = .ok (.iconst 0, 1) := by decide +kernel
theorem d_Rd_canBe_27 : decode b_Rd_canBe 27 = .ok (.istore_n 2, 1) := by decide +kernel
theorem d_Rd_canBe_28 : decode b_Rd_canBe 28 = .ok (.iload_n 2, 1) := by decide +kernel
theorem d_Rd_canBe_29 : decode b_Rd_canBe 29 = .ok (.ifCond .eq 20, 3) := by decide +kernel
theorem d_Rd_canBe_32 : decode b_Rd_canBe 32 = .ok (.aload_n 0, 1) := by decide +kernel
theorem d_Rd_canBe_33 : decode b_Rd_canBe 33 = .ok (.getfield 46, 3) := by decide +kernel
theorem d_Rd_canBe_36 : decode b_Rd_canBe 36 = .ok (.iconst 2, 1) := by decide +kernel
theorem d_Rd_canBe_37 : decode b_Rd_canBe 37 = .ok (.iaload, 1) := by decide +kernel
theorem d_Rd_canBe_38 : decode b_Rd_canBe 38 = .ok (.aload_n 0, 1) := by decide +kernel
theorem d_Rd_canBe_39 : decode b_Rd_canBe 39 = .ok (.getfield 46, 3) := by decide +kernel
theorem d_Rd_canBe_42 : decode b_Rd_canBe 42 = .ok (.iconst 1, 1) := by decide +kernel
theorem d_Rd_canBe_43 : decode b_Rd_canBe 43 = .ok (.iaload, 1) := by decide +kernel
theorem d_Rd_canBe_44 : decode b_Rd_canBe 44 = .ok (.if_icmp .ge 5, 3) := by decide +kernel
theorem d_Rd_canBe_47 : decode b_Rd_canBe 47 = .ok (.iconst 0, 1) := by decide +kernel
theorem d_Rd_canBe_48 : decode b_Rd_canBe 48 = .ok (.ireturn, 1) := by decide +kernel
theorem d_Rd_canBe_49 : decode b_Rd_canBe 49 = .ok (.aload_n 0, 1) := by decide +kernel
theorem d_Rd_canBe_50 : decode b_Rd_canBe 50 = .ok (.getfield 46, 3) := by decide +kernel
theorem d_Rd_canBe_53 : decode b_Rd_canBe 53 = .ok (.iload_n 1, 1) := by decide +kernel
theorem d_Rd_canBe_54 : decode b_Rd_canBe 54 = .ok (.iaload, 1) := by decide +kernel
theorem d_Rd_canBe_55 : decode b_Rd_canBe 55 = .ok (.getstatic 183, 3) := by decide +kernel
theorem d_Rd_canBe_58 : decode b_Rd_canBe 58 = .ok (.aload_n 0, 1) := by decide +kernel
theorem d_Rd_canBe_59 : decode b_Rd_canBe 59 = .ok (.getfield 113, 3) := by decide +kernel
theorem d_Rd_canBe_62 : decode b_Rd_canBe 62 = .ok (.iconst 4, 1) := by decide +kernel
theorem d_Rd_canBe_63 : decode b_Rd_canBe 63 = .ok (.imul, 1) := by decide +kernel
theorem d_Rd_canBe_64 : decode b_Rd_canBe 64 = .ok (.iload_n 1, 1) := by decide +kernel
theorem d_Rd_canBe_65 : decode b_Rd_canBe 65 = .ok (.iadd, 1) := by decide +kernel
theorem d_Rd_canBe_66 : decode b_Rd_canBe 66 = .ok (.iaload, 1) := by decide +kernel
theorem d_Rd_canBe_67 : decode b_Rd_canBe 67 = .ok (.if_icmp .lt 28, 3) := by decide +kernel
theorem d_Rd_canBe_70 : decode b_Rd_canBe 70 = .ok (.aload_n 0, 1) := by decide +kernel
theorem d_Rd_canBe_71 : decode b_Rd_canBe 71 = .ok (.getfield 46, 3) := by decide +kernel
theorem d_Rd_canBe_74 : decode b_Rd_canBe 74 = .ok (.iload_n 1, 1) := by decide +kernel
theorem d_Rd_canBe_75 : decode b_Rd_canBe 75 = .ok (.iaload, 1) := by decide +kernel
theorem d_Rd_canBe_76 : decode b_Rd_canBe 76 = .ok (.getstatic 186, 3) := by decide +kernel
theorem d_Rd_canBe_79 : decode b_Rd_canBe 79 = .ok (.aload_n 0, 1) := by decide +kernel
theorem d_Rd_canBe_80 : decode b_Rd_canBe 80 = .ok (.getfield 113, 3) := by decide +kernel
theorem d_Rd_canBe_83 : decode b_Rd_canBe 83 = .ok (.iconst 4, 1) := by decide +kernel
theorem d_Rd_canBe_84 : decode b_Rd_canBe 84 = .ok (.imul, 1) := by decide +kernel
theorem d_Rd_canBe_85 : decode b_Rd_canBe 85 = .ok (.iload_n 1, 1) := by decide +kernel
theorem d_Rd_canBe_86 : decode b_Rd_canBe 86 = .ok (.iadd, 1) := by decide +kernel
theorem d_Rd_canBe_87 : decode b_Rd_canBe 87 = .ok (.iaload, 1) := by decide +kernel
theorem d_Rd_canBe_88 : decode b_Rd_canBe 88 = .ok (.if_icmp .gt 7, 3) := by decide +kernel
theorem d_Rd_canBe_91 : decode b_Rd_canBe 91 = .ok (.iconst 1, 1) := by decide +kernel
theorem d_Rd_canBe_92 : decode b_Rd_canBe 92 = .ok (.goto 4, 3) := by decide +kernel
theorem d_Rd_canBe_95 : decode b_Rd_canBe 95 = .ok (.iconst 0, 1) := by decide +kernel
theorem d_Rd_canBe_96 : decode b_Rd_canBe 96 = .ok (.ireturn, 1) := by decide +kernel
theorem d_Rd_tellLine_0 : decode b_Rd_tellLine 0 = .ok (.aload_n 0, 1) := by decide +kernel
theorem d_Rd_tellLine_1 : decode b_Rd_tellLine 1 = .ok (.getfield 113, 3) := by decide +kernel
theorem d_Rd_tellLine_4 : decode b_Rd_tellLine 4 = .ok (.tableswitch 314 0 10 #[60, 76, 92, 108, 124, 131, 138, 196, 236, 266, 288], 60) := by decide +kernel
theorem d_Rd_tellLine_64 : decode b_Rd_tellLine 64 = .ok (.aload_n 0, 1) := by decide +kernel
theorem d_Rd_tellLine_65 : decode b_Rd_tellLine 65 = .ok (.getfield 21, 3) := by decide +kernel
theorem d_Rd_tellLine_68 : decode b_Rd_tellLine 68 = .ok (.aload_n 0, 1) := by decide +kernel
theorem d_Rd_tellLine_69 : decode b_Rd_tellLine 69 = .ok (.getfield 46, 3) := by decide +kernel
theorem d_Rd_tellLine_72 : decode b_Rd_tellLine 72 = .ok (.iconst 0, 1) := by decide +kernel
theorem d_Rd_tellLine_73 : decode b_Rd_tellLine 73 = .ok (.iaload, 1) := by decide +kernel
theorem d_Rd_tellLine_74 : decode b_Rd_tellLine 74 = .ok (.putfield 91, 3) := by decide +kernel
theorem d_Rd_tellLine_77 : decode b_Rd_tellLine 77 = .ok (.goto 258, 3) := by decide +kernel
theorem d_Rd_tellLine_80 : decode b_Rd_tellLine 80 = .ok (.aload_n 0, 1) := by decide +kernel
theorem d_Rd_tellLine_81 : decode b_Rd_tellLine 81 = .ok (.getfield 21, 3) := by decide +kernel
theorem d_Rd_tellLine_84 : decode b_Rd_tellLine 84 = .ok (.aload_n 0, 1) := by decide +kernel
theorem d_Rd_tellLine_85 : decode b_Rd_tellLine 85 = .ok (.getfield 46, 3) := by decide +kernel
theorem d_Rd_tellLine_88 : decode b_Rd_tellLine 88 = .ok (.iconst 0, 1) := by decide +kernel
theorem d_Rd_tellLine_89 : decode b_Rd_tellLine 89 = .ok (.iaload, 1) := by decide +kernel
theorem d_Rd_tellLine_90 : decode b_Rd_tellLine 90 = .ok (.putfield 189, 3) := by decide +kernel
theorem d_Rd_tellLine_93 : decode b_Rd_tellLine 93 = .ok (.goto 242, 3) := by decide +kernel
theorem d_Rd_tellLine_96 : decode b_Rd_tellLine 96 = .ok (.aload_n 0, 1) := by decide +kernel
theorem d_Rd_tellLine_97 : decode b_Rd_tellLine 97 = .ok (.getfield 21, 3) := by decide +kernel
theorem d_Rd_tellLine_100 : decode b_Rd_tellLine 100 = .ok (.aload_n 0, 1) := by decide +kernel
theorem d_Rd_tellLine_101 : decode b_Rd_tellLine 101 = .ok (.getfield 46, 3) := by decide +kernel
theorem d_Rd_tellLine_104 : decode b_Rd_tellLine 104 = .ok (.iconst 0, 1) := by decide +kernel
theorem d_Rd_tellLine_105 : decode b_Rd_tellLine 105 = .ok (.iaload, 1) := by decide +kernel
theorem d_Rd_tellLine_106 : decode b_Rd_tellLine 106 = .ok (.putfield 191, 3) := by decide +kernel
theorem d_Rd_tellLine_109 : decode b_Rd_tellLine 109 = .ok (.goto 226, 3) := by decide +kernel
theorem d_Rd_tellLine_112 : decode b_Rd_tellLine 112 = .ok (.aload_n 0, 1) := by decide +kernel
theorem d_Rd_tellLine_113 : decode b_Rd_tellLine 113 = .ok (.getfield 21, 3) := by decide +kernel
theorem d_Rd_tellLine_116 : decode b_Rd_tellLine 116 = .ok (.aload_n 0, 1) := by decide +kernel
theorem d_Rd_tellLine_117 : decode b_Rd_tellLine 117 = .ok (.getfield 46, 3) := by decide +kernel
theorem d_Rd_tellLine_120 : decode b_Rd_tellLine 120 = .ok (.iconst 0, 1) := by decide +kernel
theorem d_Rd_tellLine_121 : decode b_Rd_tellLine 121 = .ok (.iaload, 1) := by decide +kernel
theorem d_Rd_tellLine_122 : decode b_Rd_tellLine 122 = .ok (.putfield 193, 3) := by decide +kernel
theorem d_Rd_tellLine_125 : decode b_Rd_tellLine 125 = .ok (.goto 210, 3) := by decide +kernel
theorem d_Rd_tellLine_128 : decode b_Rd_tellLine 128 = .ok (.aload_n 0, 1) := by decide +kernel
theorem d_Rd_tellLine_129 : decode b_Rd_tellLine 129 = .ok (.invokevirtual 195, 3) := by decide +kernel
theorem d_Rd_tellLine_132 : decode b_Rd_tellLine 132 = .ok (.goto 203, 3) := by decide +kernel
theorem d_Rd_tellLine_135 : decode b_Rd_tellLine 135 = .ok (.aload_n 0, 1) := by decide +kernel
theorem d_Rd_tellLine_136 : decode b_Rd_tellLine 136 = .ok (.invokevirtual 198, 3) := by decide +kernel
theorem d_Rd_tellLine_139 : decode b_Rd_tellLine 139 = .ok (.goto 196, 3) := by decide +kernel
theorem d_Rd_tellLine_142 : decode b_Rd_tellLine 142 = .ok (.aload_n 0, 1) := by decide +kernel
theorem d_Rd_tellLine_143 : decode b_Rd_tellLine 143 = .ok (.getfield 21, 3) := by decide +kernel
theorem d_Rd_tellLine_146 : decode b_Rd_tellLine 146 = .ok (.getfield 201, 3) := by decide +kernel
theorem d_Rd_tellLine_149 : decode b_Rd_tellLine 149 = .ok (.aload_n 0, 1) := by decide +kernel
theorem d_Rd_tellLine_150 : decode b_Rd_tellLine 150 = .ok (.getfield 21, 3) := by decide +kernel
theorem d_Rd_tellLine_153 : decode b_Rd_tellLine 153 = .ok (.getfield 177, 3) := by decide +kernel
theorem d_Rd_tellLine_156 : decode b_Rd_tellLine 156 = .ok (.aload_n 0, 1) := by decide +kernel
theorem d_Rd_tellLine_157 : decode b_Rd_tellLine 157 = .ok (.getfield 46, 3) := by decide +kernel
theorem d_Rd_tellLine_160 : decode b_Rd_tellLine 160 = .ok (.iconst 0, 1) := by decide +kernel
theorem d_Rd_tellLine_161 : decode b_Rd_tellLine 161 = .ok (.iaload, 1) := by decide +kernel
theorem d_Rd_tellLine_162 : decode b_Rd_tellLine 162 = .ok (.iastore, 1) := by decide +kernel
theorem d_Rd_tellLine_163 : decode b_Rd_tellLine 163 = .ok (.aload_n 0, 1) := by decide +kernel
theorem d_Rd_tellLine_164 : decode b_Rd_tellLine 164 = .ok (.getfield 21, 3) := by decide +kernel
theorem d_Rd_tellLine_167 : decode b_Rd_tellLine 167 = .ok (.getfield 204, 3) := by decide +kernel
theorem d_Rd_tellLine_170 : decode b_Rd_tellLine 170 = .ok (.aload_n 0, 1) := by decide +kernel
theorem d_Rd_tellLine_171 : decode b_Rd_tellLine 171 = .ok (.getfield 21, 3) := by decide +kernel
theorem d_Rd_tellLine_174 : decode b_Rd_tellLine 174 = .ok (.getfield 177, 3) := by decide +kernel
theorem d_Rd_tellLine_177 : decode b_Rd_tellLine 177 = .ok (.aload_n 0, 1) := by decide +kernel
theorem d_Rd_tellLine_178 : decode b_Rd_tellLine 178 = .ok (.getfield 46, 3) := by decide +kernel
theorem d_Rd_tellLine_181 : decode b_Rd_tellLine 181 = .ok (.iconst 1, 1) := by decide +kernel
theorem d_Rd_tellLine_182 : decode b_Rd_tellLine 182 = .ok (.iaload, 1) := by decide +kernel
theorem d_Rd_tellLine_183 : decode b_Rd_tellLine 183 = .ok (.iastore, 1) := by decide +kernel
theorem d_Rd_tellLine_184 : decode b_Rd_tellLine 184 = .ok (.aload_n 0, 1) := by decide +kernel
theorem d_Rd_tellLine_185 : decode b_Rd_tellLine 185 = .ok (.getfield 21, 3) := by decide +kernel
theorem d_Rd_tellLine_188 : decode b_Rd_tellLine 188 = .ok (.dup, 1) := by decide +kernel
theorem d_Rd_tellLine_189 : decode b_Rd_tellLine 189 = .ok (.getfield 177, 3) := by decide +kernel
theorem d_Rd_tellLine_192 : decode b_Rd_tellLine 192 = .ok (.iconst 1, 1) := by decide +kernel
theorem d_Rd_tellLine_193 : decode b_Rd_tellLine 193 = .ok (.iadd, 1) := by decide +kernel
theorem d_Rd_tellLine_194 : decode b_Rd_tellLine 194 = .ok (.putfield 177, 3) := by decide +kernel
theorem d_Rd_tellLine_197 : decode b_Rd_tellLine 197 = .ok (.goto 138, 3) := by decide +kernel
theorem d_Rd_tellLine_200 : decode b_Rd_tellLine 200 = .ok (.aload_n 0, 1) := by decide +kernel
theorem d_Rd_tellLine_201 : decode b_Rd_tellLine 201 = .ok (.getfield 21, 3) := by decide +kernel
theorem d_Rd_tellLine_204 : decode b_Rd_tellLine 204 = .ok (.getfield 207, 3) := by decide +kernel
theorem d_Rd_tellLine_207 : decode b_Rd_tellLine 207 = .ok (.aload_n 0, 1) := by decide +kernel
theorem d_Rd_tellLine_208 : decode b_Rd_tellLine 208 = .ok (.getfield 46, 3) := by decide +kernel
theorem d_Rd_tellLine_211 : decode b_Rd_tellLine 211 = .ok (.iconst 0, 1) := by decide +kernel
theorem d_Rd_tellLine_212 : decode b_Rd_tellLine 212 = .ok (.iaload, 1) := by decide +kernel
theorem d_Rd_tellLine_213 : decode b_Rd_tellLine 213 = .ok (.aload_n 0, 1) := by decide +kernel
theorem d_Rd_tellLine_214 : decode b_Rd_tellLine 214 = .ok (.getfield 46, 3) := by decide +kernel
theorem d_Rd_tellLine_217 : decode b_Rd_tellLine 217 = .ok (.iconst 1, 1) := by decide +kernel
theorem d_Rd_tellLine_218 : decode b_Rd_tellLine 218 = .ok (.iaload, 1) := by decide +kernel
theorem d_Rd_tellLine_219 : decode b_Rd_tellLine 219 = .ok (.iastore, 1) := by decide +kernel
theorem d_Rd_tellLine_220 : decode b_Rd_tellLine 220 = .ok (.aload_n 0, 1) := by decide +kernel
theorem d_Rd_tellLine_221 : decode b_Rd_tellLine 221 = .ok (.aload_n 0, 1) := by decide +kernel
theorem d_Rd_tellLine_222 : decode b_Rd_tellLine 222 = .ok (.getfield 88, 3) := by decide +kernel
theorem d_Rd_tellLine_225 : decode b_Rd_tellLine 225 = .ok (.aload_n 0, 1) := by decide +kernel
theorem d_Rd_tellLine_226 : decode b_Rd_tellLine 226 = .ok (.getfield 46, 3) := by decide +kernel
theorem d_Rd_tellLine_229 : decode b_Rd_tellLine 229 = .ok (.iconst 0, 1) := by decide +kernel
theorem d_Rd_tellLine_230 : decode b_Rd_tellLine 230 = .ok (.iaload, 1) := by decide +kernel
theorem d_Rd_tellLine_231 : decode b_Rd_tellLine 231 = .ok (.invokestatic 209, 3) := by decide +kernel
theorem d_Rd_tellLine_234 : decode b_Rd_tellLine 234 = .ok (.putfield 88, 3) := by decide +kernel
theorem d_Rd_tellLine_237 : decode b_Rd_tellLine 237 = .ok (.goto 98, 3) := by decide +kernel
theorem d_Rd_tellLine_240 : decode b_Rd_tellLine 240 = .ok (.aload_n 0, 1) := by decide +kernel
theorem d_Rd_tellLine_241 : decode b_Rd_tellLine 241 = .ok (.getfield 25, 3) := by decide +kernel
theorem d_Rd_tellLine_244 : decode b_Rd_tellLine 244 = .ok (.aload_n 0, 1) := by decide +kernel
theorem d_Rd_tellLine_245 : decode b_Rd_tellLine 245 = .ok (.getfield 46, 3) := by decide +kernel
theorem d_Rd_tellLine_248 : decode b_Rd_tellLine 248 = .ok (.iconst 1, 1) := by decide +kernel
theorem d_Rd_tellLine_249 : decode b_Rd_tellLine 249 = .ok (.iaload, 1) := by decide +kernel
theorem d_Rd_tellLine_250 : decode b_Rd_tellLine 250 = .ok (.aload_n 0, 1) := by decide +kernel
theorem d_Rd_tellLine_251 : decode b_Rd_tellLine 251 = .ok (.getfield 46, 3) := by decide +kernel
theorem d_Rd_tellLine_254 : decode b_Rd_tellLine 254 = .ok (.iconst 2, 1) := by decide +kernel
theorem d_Rd_tellLine_255 : decode b_Rd_tellLine 255 = .ok (.iaload, 1) := by decide +kernel
theorem d_Rd_tellLine_256 : decode b_Rd_tellLine 256 = .ok (.iconst 1, 1) := by decide +kernel
theorem d_Rd_tellLine_257 : decode b_Rd_tellLine 257 = .ok (.iadd, 1) := by decide +kernel
theorem d_Rd_tellLine_258 : decode b_Rd_tellLine 258 = .ok (.aload_n 0, 1) := by decide +kernel
theorem d_Rd_tellLine_259 : decode b_Rd_tellLine 259 = .ok (.getfield 46, 3) := by decide +kernel
theorem d_Rd_tellLine_262 : decode b_Rd_tellLine 262 = .ok (.iconst 0, 1) := by decide +kernel
theorem d_Rd_tellLine_263 : decode b_Rd_tellLine 263 = .ok (.iaload, 1) := by decide +kernel
theorem d_Rd_tellLine_264 : decode b_Rd_tellLine 264 = .ok (.invokestatic 215, 3) := by decide +kernel
theorem d_Rd_tellLine_267 : decode b_Rd_tellLine 267 = .ok (.goto 68, 3) := by decide +kernel
theorem d_Rd_tellLine_270 : decode b_Rd_tellLine 270 = .ok (.aload_n 0, 1) := by decide +kernel
theorem d_Rd_tellLine_271 : decode b_Rd_tellLine 271 = .ok (.getfield 32, 3) := by decide +kernel
theorem d_Rd_tellLine_274 : decode b_Rd_tellLine 274 = .ok (.aload_n 0, 1) := by decide +kernel
theorem d_Rd_tellLine_275 : decode b_Rd_tellLine 275 = .ok (.getfield 46, 3) := by decide +kernel
theorem d_Rd_tellLine_278 : decode b_Rd_tellLine 278 = .ok (.iconst 0, 1) := by decide +kernel
theorem d_Rd_tellLine_279 : decode b_Rd_tellLine 279 = .ok (.iaload, 1) := by decide +kernel
theorem d_Rd_tellLine_280 : decode b_Rd_tellLine 280 = .ok (.aload_n 0, 1) := by decide +kernel
theorem d_Rd_tellLine_281 : decode b_Rd_tellLine 281 = .ok (.getfield 46, 3) := by decide +kernel
theorem d_Rd_tellLine_284 : decode b_Rd_tellLine 284 = .ok (.iconst 1, 1) := by decide +kernel
theorem d_Rd_tellLine_285 : decode b_Rd_tellLine 285 = .ok (.iaload, 1) := by decide +kernel
theorem d_Rd_tellLine_286 : decode b_Rd_tellLine 286 = .ok (.invokevirtual 218, 3) := by decide +kernel
theorem d_Rd_tellLine_289 : decode b_Rd_tellLine 289 = .ok (.goto 46, 3) := by decide +kernel
theorem d_Rd_tellLine_292 : decode b_Rd_tellLine 292 = .ok (.aload_n 0, 1) := by decide +kernel
theorem d_Rd_tellLine_293 : decode b_Rd_tellLine 293 = .ok (.getfield 39, 3) := by decide +kernel
theorem d_Rd_tellLine_296 : decode b_Rd_tellLine 296 = .ok (.aload_n 0, 1) := by decide +kernel
theorem d_Rd_tellLine_297 : decode b_Rd_tellLine 297 = .ok (.getfield 46, 3) := by decide +kernel
theorem d_Rd_tellLine_300 : decode b_Rd_tellLine 300 = .ok (.iconst 0, 1) := by decide +kernel
theorem d_Rd_tellLine_301 : decode b_Rd_tellLine 301 = .ok (.iaload, 1) := by decide +kernel
theorem d_Rd_tellLine_302 : decode b_Rd_tellLine 302 = .ok (.aload_n 0, 1) := by decide +kernel
theorem d_Rd_tellLine_303 : decode b_Rd_tellLine 303 = .ok (.getfield 46, 3) := by decide +kernel
theorem d_Rd_tellLine_306 : decode b_Rd_tellLine 306 = .ok (.iconst 1, 1) := by decide +kernel
theorem d_Rd_tellLine_307 : decode b_Rd_tellLine 307 = .ok (.iaload, 1) := by decide +kernel
theorem d_Rd_tellLine_308 : decode b_Rd_tellLine 308 = .ok (.aload_n 0, 1) := by decide +kernel
theorem d_Rd_tellLine_309 : decode b_Rd_tellLine 309 = .ok (.getfield 165, 3) := by decide +kernel
theorem d_Rd_tellLine_312 : decode b_Rd_tellLine 312 = .ok (.invokevirtual 221, 3) := by decide +kernel
theorem d_Rd_tellLine_315 : decode b_Rd_tellLine 315 = .ok (.goto 20, 3) := by decide +kernel
theorem d_Rd_tellLine_318 : decode b_Rd_tellLine 318 = .ok (.aload_n 0, 1) := by decide +kernel
theorem d_Rd_tellLine_319 : decode b_Rd_tellLine 319 = .ok (.getfield 43, 3) := by decide +kernel
theorem d_Rd_tellLine_322 : decode b_Rd_tellLine 322 = .ok (.aload_n 0, 1) := by decide +kernel
theorem d_Rd_tellLine_323 : decode b_Rd_tellLine 323 = .ok (.getfield 46, 3) := by decide +kernel
theorem d_Rd_tellLine_326 : decode b_Rd_tellLine 326 = .ok (.iconst 0, 1) := by decide +kernel
theorem d_Rd_tellLine_327 : decode b_Rd_tellLine 327 = .ok (.iaload, 1) := by decide +kernel
theorem d_Rd_tellLine_328 : decode b_Rd_tellLine 328 = .ok (.aload_n 0, 1) := by decide +kernel
theorem d_Rd_tellLine_329 : decode b_Rd_tellLine 329 = .ok (.getfield 46, 3) := by decide +kernel
theorem d_Rd_tellLine_332 : decode b_Rd_tellLine 332 = .ok (.iconst 1, 1) := by decide +kernel
theorem d_Rd_tellLine_333 : decode b_Rd_tellLine 333 = .ok (.iaload, 1) := by decide +kernel
theorem d_Rd_tellLine_334 : decode b_Rd_tellLine 334 = .ok (.iastore, 1) := by decide +kernel
theorem d_Rd_tellLine_335 : decode b_Rd_tellLine 335 = .ok (.return_, 1) := by decide +kernel
theorem d_Rd_tellPerson_0 : decode b_Rd_tellPerson 0 = .ok (.aload_n 0, 1) := by decide +kernel
theorem d_Rd_tellPerson_1 : decode b_Rd_tellPerson 1 = .ok (.getfield 21, 3) := by decide +kernel
theorem d_Rd_tellPerson_4 : decode b_Rd_tellPerson 4 = .ok (.getfield 224, 3) := by decide +kernel
theorem d_Rd_tellPerson_7 : decode b_Rd_tellPerson 7 = .ok (.aload_n 0, 1) := by decide +kernel
theorem d_Rd_tellPerson_8 : decode b_Rd_tellPerson 8 = .ok (.getfield 21, 3) := by decide +kernel
theorem d_Rd_tellPerson_11 : decode b_Rd_tellPerson 11 = .ok (.getfield 85, 3) := by decide +kernel
theorem d_Rd_tellPerson_14 : decode b_Rd_tellPerson 14 = .ok (.aload_n 0, 1) := by decide +kernel
theorem d_Rd_tellPerson_15 : decode b_Rd_tellPerson 15 = .ok (.getfield 46, 3) := by decide +kernel
theorem d_Rd_tellPerson_18 : decode b_Rd_tellPerson 18 = .ok (.iconst 0, 1) := by decide +kernel
theorem d_Rd_tellPerson_19 : decode b_Rd_tellPerson 19 = .ok (.iaload, 1) := by decide +kernel
theorem d_Rd_tellPerson_20 : decode b_Rd_tellPerson 20 = .ok (.iastore, 1) := by decide +kernel
theorem d_Rd_tellPerson_21 : decode b_Rd_tellPerson 21 = .ok (.aload_n 0, 1) := by decide +kernel
theorem d_Rd_tellPerson_22 : decode b_Rd_tellPerson 22 = .ok (.getfield 21, 3) := by decide +kernel
theorem d_Rd_tellPerson_25 : decode b_Rd_tellPerson 25 = .ok (.getfield 227, 3) := by decide +kernel
theorem d_Rd_tellPerson_28 : decode b_Rd_tellPerson 28 = .ok (.aload_n 0, 1) := by decide +kernel
theorem d_Rd_tellPerson_29 : decode b_Rd_tellPerson 29 = .ok (.getfield 21, 3) := by decide +kernel
theorem d_Rd_tellPerson_32 : decode b_Rd_tellPerson 32 = .ok (.getfield 85, 3) := by decide +kernel
theorem d_Rd_tellPerson_35 : decode b_Rd_tellPerson 35 = .ok (.aload_n 0, 1) := by decide +kernel
theorem d_Rd_tellPerson_36 : decode b_Rd_tellPerson 36 = .ok (.getfield 46, 3) := by decide +kernel
theorem d_Rd_tellPerson_39 : decode b_Rd_tellPerson 39 = .ok (.iconst 1, 1) := by decide +kernel
theorem d_Rd_tellPerson_40 : decode b_Rd_tellPerson 40 = .ok (.iaload, 1) := by decide +kernel
theorem d_Rd_tellPerson_41 : decode b_Rd_tellPerson 41 = .ok (.iastore, 1) := by decide +kernel
theorem d_Rd_tellPerson_42 : decode b_Rd_tellPerson 42 = .ok (.aload_n 0, 1) := by decide +kernel
theorem d_Rd_tellPerson_43 : decode b_Rd_tellPerson 43 = .ok (.getfield 21, 3) := by decide +kernel
theorem d_Rd_tellPerson_46 : decode b_Rd_tellPerson 46 = .ok (.getfield 230, 3) := by decide +kernel
theorem d_Rd_tellPerson_49 : decode b_Rd_tellPerson 49 = .ok (.aload_n 0, 1) := by decide +kernel
theorem d_Rd_tellPerson_50 : decode b_Rd_tellPerson 50 = .ok (.getfield 21, 3) := by decide +kernel
theorem d_Rd_tellPerson_53 : decode b_Rd_tellPerson 53 = .ok (.getfield 85, 3) := by decide +kernel
theorem d_Rd_tellPerson_56 : decode b_Rd_tellPerson 56 = .ok (.aload_n 0, 1) := by decide +kernel
theorem d_Rd_tellPerson_57 : decode b_Rd_tellPerson 57 = .ok (.getfield 46, 3) := by decide +kernel
theorem d_Rd_tellPerson_60 : decode b_Rd_tellPerson 60 = .ok (.iconst 2, 1) := by decide +kernel
theorem d_Rd_tellPerson_61 : decode b_Rd_tellPerson 61 = .ok (.iaload, 1) := by decide +kernel
theorem d_Rd_tellPerson_62 : decode b_Rd_tellPerson 62 = .ok (.iastore, 1) := by decide +kernel
theorem d_Rd_tellPerson_63 : decode b_Rd_tellPerson 63 = .ok (.aload_n 0, 1) := by decide +kernel
theorem d_Rd_tellPerson_64 : decode b_Rd_tellPerson 64 = .ok (.getfield 21, 3) := by decide +kernel
theorem d_Rd_tellPerson_67 : decode b_Rd_tellPerson 67 = .ok (.dup, 1) := by decide +kernel
theorem d_Rd_tellPerson_68 : decode b_Rd_tellPerson 68 = .ok (.getfield 85, 3) := by decide +kernel
theorem d_Rd_tellPerson_71 : decode b_Rd_tellPerson 71 = .ok (.iconst 1, 1) := by decide +kernel
theorem d_Rd_tellPerson_72 : decode b_Rd_tellPerson 72 = .ok (.iadd, 1) := by decide +kernel
theorem d_Rd_tellPerson_73 : decode b_Rd_tellPerson 73 = .ok (.putfield 85, 3) := by decide +kernel
theorem d_Rd_tellPerson_76 : decode b_Rd_tellPerson 76 = .ok (.return_, 1) := by decide +kernel
theorem d_Rd_tellLikes_0 : decode b_Rd_tellLikes 0 = .ok (.aload_n 0, 1) := by decide +kernel
theorem d_Rd_tellLikes_1 : decode b_Rd_tellLikes 1 = .ok (.getfield 46, 3) := by decide +kernel
theorem d_Rd_tellLikes_4 : decode b_Rd_tellLikes 4 = .ok (.iconst 0, 1) := by decide +kernel
theorem d_Rd_tellLikes_5 : decode b_Rd_tellLikes 5 = .ok (.iaload, 1) := by decide +kernel
theorem d_Rd_tellLikes_6 : decode b_Rd_tellLikes 6 = .ok (.bipush 24, 2) := by decide +kernel
theorem d_Rd_tellLikes_8 : decode b_Rd_tellLikes 8 = .ok (.imul, 1) := by decide +kernel
theorem d_Rd_tellLikes_9 : decode b_Rd_tellLikes 9 = .ok (.istore_n 1, 1) := by decide +kernel
theorem d_Rd_tellLikes_10 : decode b_Rd_tellLikes 10 = .ok (.aload_n 0, 1) := by decide +kernel
theorem d_Rd_tellLikes_11 : decode b_Rd_tellLikes 11 = .ok (.getfield 21, 3) := by decide +kernel
theorem d_Rd_tellLikes_14 : decode b_Rd_tellLikes 14 = .ok (.getfield 232, 3) := by decide +kernel
theorem d_Rd_tellLikes_17 : decode b_Rd_tellLikes 17 = .ok (.iload_n 1, 1) := by decide +kernel
theorem d_Rd_tellLikes_18 : decode b_Rd_tellLikes 18 = .ok (.aload_n 0, 1) := by decide +kernel
theorem d_Rd_tellLikes_19 : decode b_Rd_tellLikes 19 = .ok (.getfield 46, 3) := by decide +kernel
theorem d_Rd_tellLikes_22 : decode b_Rd_tellLikes 22 = .ok (.iconst 1, 1) := by decide +kernel
theorem d_Rd_tellLikes_23 : decode b_Rd_tellLikes 23 = .ok (.iaload, 1) := by decide +kernel
theorem d_Rd_tellLikes_24 : decode b_Rd_tellLikes 24 = .ok (.iadd, 1) := by decide +kernel
theorem d_Rd_tellLikes_25 : decode b_Rd_tellLikes 25 = .ok (.iload_n 1, 1) := by decide +kernel
theorem d_Rd_tellLikes_26 : decode b_Rd_tellLikes 26 = .ok (.aload_n 0, 1) := by decide +kernel
theorem d_Rd_tellLikes_27 : decode b_Rd_tellLikes 27 = .ok (.getfield 46, 3) := by decide +kernel
theorem d_Rd_tellLikes_30 : decode b_Rd_tellLikes 30 = .ok (.iconst 2, 1) := by decide +kernel
theorem d_Rd_tellLikes_31 : decode b_Rd_tellLikes 31 = .ok (.iaload, 1) := by decide +kernel
theorem d_Rd_tellLikes_32 : decode b_Rd_tellLikes 32 = .ok (.iadd, 1) := by decide +kernel
theorem d_Rd_tellLikes_33 : decode b_Rd_tellLikes 33 = .ok (.iconst 1, 1) := by decide +kernel
theorem d_Rd_tellLikes_34 : decode b_Rd_tellLikes 34 = .ok (.iadd, 1) := by decide +kernel
theorem d_Rd_tellLikes_35 : decode b_Rd_tellLikes 35 = .ok (.aload_n 0, 1) := by decide +kernel
theorem d_Rd_tellLikes_36 : decode b_Rd_tellLikes 36 = .ok (.getfield 46, 3) := by decide +kernel
theorem d_Rd_tellLikes_39 : decode b_Rd_tellLikes 39 = .ok (.iconst 3, 1) := by decide +kernel
theorem d_Rd_tellLikes_40 : decode b_Rd_tellLikes 40 = .ok (.iaload, 1) := by decide +kernel
theorem d_Rd_tellLikes_41 : decode b_Rd_tellLikes 41 = .ok (.invokestatic 215, 3) := by decide +kernel
theorem d_Rd_tellLikes_44 : decode b_Rd_tellLikes 44 = .ok (.aload_n 0, 1) := by decide +kernel
theorem d_Rd_tellLikes_45 : decode b_Rd_tellLikes 45 = .ok (.aload_n 0, 1) := by decide +kernel
theorem d_Rd_tellLikes_46 : decode b_Rd_tellLikes 46 = .ok (.getfield 82, 3) := by decide +kernel
theorem d_Rd_tellLikes_49 : decode b_Rd_tellLikes 49 = .ok (.aload_n 0, 1) := by decide +kernel
theorem d_Rd_tellLikes_50 : decode b_Rd_tellLikes 50 = .ok (.getfield 46, 3) := by decide +kernel
theorem d_Rd_tellLikes_53 : decode b_Rd_tellLikes 53 = .ok (.iconst 0, 1) := by decide +kernel
theorem d_Rd_tellLikes_54 : decode b_Rd_tellLikes 54 = .ok (.iaload, 1) := by decide +kernel
theorem d_Rd_tellLikes_55 : decode b_Rd_tellLikes 55 = .ok (.invokestatic 209, 3) := by decide +kernel
theorem d_Rd_tellLikes_58 : decode b_Rd_tellLikes 58 = .ok (.putfield 82, 3) := by decide +kernel
theorem d_Rd_tellLikes_61 : decode b_Rd_tellLikes 61 = .ok (.aload_n 0, 1) := by decide +kernel
theorem d_Rd_tellLikes_62 : decode b_Rd_tellLikes 62 = .ok (.aload_n 0, 1) := by decide +kernel
theorem d_Rd_tellLikes_63 : decode b_Rd_tellLikes 63 = .ok (.getfield 88, 3) := by decide +kernel
theorem d_Rd_tellLikes_66 : decode b_Rd_tellLikes 66 = .ok (.aload_n 0, 1) := by decide +kernel
theorem d_Rd_tellLikes_67 : decode b_Rd_tellLikes 67 = .ok (.getfield 46, 3) := by decide +kernel
theorem d_Rd_tellLikes_70 : decode b_Rd_tellLikes 70 = .ok (.iconst 2, 1) := by decide +kernel
theorem d_Rd_tellLikes_71 : decode b_Rd_tellLikes 71 = .ok (.iaload, 1) := by decide +kernel
theorem d_Rd_tellLikes_72 : decode b_Rd_tellLikes 72 = .ok (.invokestatic 209, 3) := by decide +kernel
theorem d_Rd_tellLikes_75 : decode b_Rd_tellLikes 75 = .ok (.putfield 88, 3) := by decide +kernel
theorem d_Rd_tellLikes_78 : decode b_Rd_tellLikes 78 = .ok (.return_, 1) := by decide +kernel
theorem d_JA_fill_1_0 : decode b_JA_fill_1 0 = .ok (.aload_n 0, 1) := by decide +kernel
theorem d_JA_fill_1_1 : decode b_JA_fill_1 1 = .ok (.arraylength, 1) := by decide +kernel
theorem d_JA_fill_1_2 : decode b_JA_fill_1 2 = .ok (.iload_n 1, 1) := by decide +kernel
theorem d_JA_fill_1_3 : decode b_JA_fill_1 3 = .ok (.iload_n 2, 1) := by decide +kernel
theorem d_JA_fill_1_4 : decode b_JA_fill_1 4 = .ok (.invokestatic 13, 3) := by decide +kernel
theorem d_JA_fill_1_7 : decode b_JA_fill_1 7 = .ok (.iload_n 1, 1) := by decide +kernel
theorem d_JA_fill_1_8 : decode b_JA_fill_1 8 = .ok (.istore 4, 2) := by decide +kernel
theorem d_JA_fill_1_10 : decode b_JA_fill_1 10 = .ok (.iload 4, 2) := by decide +kernel
theorem d_JA_fill_1_12 : decode b_JA_fill_1 12 = .ok (.iload_n 2, 1) := by decide +kernel
theorem d_JA_fill_1_13 : decode b_JA_fill_1 13 = .ok (.if_icmp .ge 14, 3) := by decide +kernel
theorem d_JA_fill_1_16 : decode b_JA_fill_1 16 = .ok (.aload_n 0, 1) := by decide +kernel
theorem d_JA_fill_1_17 : decode b_JA_fill_1 17 = .ok (.iload 4, 2) := by decide +kernel
theorem d_JA_fill_1_19 : decode b_JA_fill_1 19 = .ok (.iload_n 3, 1) := by decide +kernel
theorem d_JA_fill_1_20 : decode b_JA_fill_1 20 = .ok (.iastore, 1) := by decide +kernel
theorem d_JA_fill_1_21 : decode b_JA_fill_1 21 = .ok (.iinc 4 1, 3) := by decide +kernel
theorem d_JA_fill_1_24 : decode b_JA_fill_1 24 = .ok (.goto (-14), 3) := by decide +kernel
theorem d_JA_fill_1_27 : decode b_JA_fill_1 27 = .ok (.return_, 1) := by decide +kernel
theorem d_JA_rangeCheck_0 : decode b_JA_rangeCheck 0 = .ok (.iload_n 1, 1) := by decide +kernel
theorem d_JA_rangeCheck_1 : decode b_JA_rangeCheck 1 = .ok (.iload_n 2, 1) := by decide +kernel
theorem d_JA_rangeCheck_2 : decode b_JA_rangeCheck 2 = .ok (.if_icmp .le 44, 3) := by decide +kernel
theorem d_JA_rangeCheck_5 : decode b_JA_rangeCheck 5 = .ok (.new 43, 3) := by decide +kernel
theorem d_JA_rangeCheck_8 : decode b_JA_rangeCheck 8 = .ok (.dup, 1) := by decide +kernel
theorem d_JA_rangeCheck_9 : decode b_JA_rangeCheck 9 = .ok (.new 45, 3) := by decide +kernel
theorem d_JA_rangeCheck_12 : decode b_JA_rangeCheck 12 = .ok (.dup, 1) := by decide +kernel
theorem d_JA_rangeCheck_13 : decode b_JA_rangeCheck 13 = .ok (.invokespecial 47, 3) := by decide +kernel
theorem d_JA_rangeCheck_16 : decode b_JA_rangeCheck 16 = .ok (.ldc 48, 2) := by decide +kernel
theorem d_JA_rangeCheck_18 : decode b_JA_rangeCheck 18 = .ok (.invokevirtual 50, 3) := by decide +kernel
theorem d_JA_rangeCheck_21 : decode b_JA_rangeCheck 21 = .ok (.iload_n 1, 1) := by decide +kernel
theorem d_JA_rangeCheck_22 : decode b_JA_rangeCheck 22 = .ok (.invokevirtual 54, 3) := by decide +kernel
theorem d_JA_rangeCheck_25 : decode b_JA_rangeCheck 25 = .ok (.ldc 57, 2) := by decide +kernel
theorem d_JA_rangeCheck_27 : decode b_JA_rangeCheck 27 = .ok (.invokevirtual 50, 3) := by decide +kernel
theorem d_JA_rangeCheck_30 : decode b_JA_rangeCheck 30 = .ok (.iload_n 2, 1) := by decide +kernel
theorem d_JA_rangeCheck_31 : decode b_JA_rangeCheck 31 = .ok (.invokevirtual 54, 3) := by decide +kernel
theorem d_JA_rangeCheck_34 : decode b_JA_rangeCheck 34 = .ok (.ldc 59, 2) := by decide +kernel
theorem d_JA_rangeCheck_36 : decode b_JA_rangeCheck 36 = .ok (.invokevirtual 50, 3) := by decide +kernel
theorem d_JA_rangeCheck_39 : decode b_JA_rangeCheck 39 = .ok (.invokevirtual 61, 3) := by decide +kernel
theorem d_JA_rangeCheck_42 : decode b_JA_rangeCheck 42 = .ok (.invokespecial 65, 3) := by decide +kernel
theorem d_JA_rangeCheck_45 : decode b_JA_rangeCheck 45 = .ok (.athrow, 1) := by decide +kernel
theorem d_JA_rangeCheck_46 : decode b_JA_rangeCheck 46 = .ok (.iload_n 1, 1) := by decide +kernel
theorem d_JA_rangeCheck_47 : decode b_JA_rangeCheck 47 = .ok (.ifCond .ge 12, 3) := by decide +kernel
theorem d_JA_rangeCheck_50 : decode b_JA_rangeCheck 50 = .ok (.new 68, 3) := by decide +kernel
theorem d_JA_rangeCheck_53 : decode b_JA_rangeCheck 53 = .ok (.dup, 1) := by decide +kernel
theorem d_JA_rangeCheck_54 : decode b_JA_rangeCheck 54 = .ok (.iload_n 1, 1) := by decide +kernel
theorem d_JA_rangeCheck_55 : decode b_JA_rangeCheck 55 = .ok (.invokespecial 70, 3) := by decide +kernel
theorem d_JA_rangeCheck_58 : decode b_JA_rangeCheck 58 = .ok (.athrow, 1) := by decide +kernel
theorem d_JA_rangeCheck_59 : decode b_JA_rangeCheck 59 = .ok (.iload_n 2, 1) := by decide +kernel
theorem d_JA_rangeCheck_60 : decode b_JA_rangeCheck 60 = .ok (.iload_n 0, 1) := by decide +kernel
theorem d_JA_rangeCheck_61 : decode b_JA_rangeCheck 61 = .ok (.if_icmp .le 12, 3) := by decide +kernel
theorem d_JA_rangeCheck_64 : decode b_JA_rangeCheck 64 = .ok (.new 68, 3) := by decide +kernel
theorem d_JA_rangeCheck_67 : decode b_JA_rangeCheck 67 = .ok (.dup, 1) := by decide +kernel
theorem d_JA_rangeCheck_68 : decode b_JA_rangeCheck 68 = .ok (.iload_n 2, 1) := by decide +kernel
theorem d_JA_rangeCheck_69 : decode b_JA_rangeCheck 69 = .ok (.invokespecial 70, 3) := by decide +kernel
theorem d_JA_rangeCheck_72 : decode b_JA_rangeCheck 72 = .ok (.athrow, 1) := by decide +kernel
theorem d_JA_rangeCheck_73 : decode b_JA_rangeCheck 73 = .ok (.return_, 1) := by decide +kernel
theorem d_JM_max_0_0 : decode b_JM_max_0 0 = .ok (.iload_n 0, 1) := by decide +kernel
theorem d_JM_max_0_1 : decode b_JM_max_0 1 = .ok (.iload_n 1, 1) := by decide +kernel
theorem d_JM_max_0_2 : decode b_JM_max_0 2 = .ok (.if_icmp .lt 7, 3) := by decide +kernel
theorem d_JM_max_0_5 : decode b_JM_max_0 5 = .ok (.iload_n 0, 1) := by decide +kernel
theorem d_JM_max_0_6 : decode b_JM_max_0 6 = .ok (.goto 4, 3) := by decide +kernel
theorem d_JM_max_0_9 : decode b_JM_max_0 9 = .ok (.iload_n 1, 1) := by decide +kernel
theorem d_JM_max_0_10 : decode b_JM_max_0 10 = .ok (.ireturn, 1) := by decide +kernel
theorem d_Bk_add_0 : decode b_Bk_add 0 = .ok (.aload_n 0, 1) := by decide +kernel
theorem d_Bk_add_1 : decode b_Bk_add 1 = .ok (.getfield 21, 3) := by decide +kernel
theorem d_Bk_add_4 : decode b_Bk_add 4 = .ok (.bipush 30, 2) := by decide +kernel
theorem d_Bk_add_6 : decode b_Bk_add 6 = .ok (.if_icmp .lt 4, 3) := by decide +kernel
theorem d_Bk_add_9 : decode b_Bk_add 9 = .ok (.return_, 1) := by decide +kernel
theorem d_Bk_add_10 : decode b_Bk_add 10 = .ok (.aload_n 0, 1) := by decide +kernel
theorem d_Bk_add_11 : decode b_Bk_add 11 = .ok (.getfield 9, 3) := by decide +kernel
theorem d_Bk_add_14 : decode b_Bk_add 14 = .ok (.aload_n 0, 1) := by decide +kernel
theorem d_Bk_add_15 : decode b_Bk_add 15 = .ok (.getfield 21, 3) := by decide +kernel
theorem d_Bk_add_18 : decode b_Bk_add 18 = .ok (.iload_n 1, 1) := by decide +kernel
theorem d_Bk_add_19 : decode b_Bk_add 19 = .ok (.iastore, 1) := by decide +kernel
theorem d_Bk_add_20 : decode b_Bk_add 20 = .ok (.aload_n 0, 1) := by decide +kernel
theorem d_Bk_add_21 : decode b_Bk_add 21 = .ok (.getfield 15, 3) := by decide +kernel
theorem d_Bk_add_24 : decode b_Bk_add 24 = .ok (.aload_n 0, 1) := by decide +kernel
theorem d_Bk_add_25 : decode b_Bk_add 25 = .ok (.getfield 21, 3) := by decide +kernel
theorem d_Bk_add_28 : decode b_Bk_add 28 = .ok (.iload_n 2, 1) := by decide +kernel
theorem d_Bk_add_29 : decode b_Bk_add 29 = .ok (.iastore, 1) := by decide +kernel
theorem d_Bk_add_30 : decode b_Bk_add 30 = .ok (.aload_n 0, 1) := by decide +kernel
theorem d_Bk_add_31 : decode b_Bk_add 31 = .ok (.dup, 1) := by decide +kernel
theorem d_Bk_add_32 : decode b_Bk_add 32 = .ok (.getfield 21, 3) := by decide +kernel
theorem d_Bk_add_35 : decode b_Bk_add 35 = .ok (.iconst 1, 1) := by decide +kernel
theorem d_Bk_add_36 : decode b_Bk_add 36 = .ok (.iadd, 1) := by decide +kernel
theorem d_Bk_add_37 : decode b_Bk_add 37 = .ok (.putfield 21, 3) := by decide +kernel
theorem d_Bk_add_40 : decode b_Bk_add 40 = .ok (.aload_n 0, 1) := by decide +kernel
theorem d_Bk_add_41 : decode b_Bk_add 41 = .ok (.getfield 25, 3) := by decide +kernel
theorem d_Bk_add_44 : decode b_Bk_add 44 = .ok (.istore_n 3, 1) := by decide +kernel
theorem d_Bk_add_45 : decode b_Bk_add 45 = .ok (.iload_n 3, 1) := by decide +kernel
theorem d_Bk_add_46 : decode b_Bk_add 46 = .ok (.aload_n 0, 1) := by decide +kernel
theorem d_Bk_add_47 : decode b_Bk_add 47 = .ok (.getfield 25, 3) := by decide +kernel
theorem d_Bk_add_50 : decode b_Bk_add 50 = .ok (.iload_n 2, 1) := by decide +kernel
theorem d_Bk_add_51 : decode b_Bk_add 51 = .ok (.iadd, 1) := by decide +kernel
theorem d_Bk_add_52 : decode b_Bk_add 52 = .ok (.if_icmp .ge 22, 3) := by decide +kernel
theorem d_Bk_add_55 : decode b_Bk_add 55 = .ok (.iload_n 3, 1) := by decide +kernel
theorem d_Bk_add_56 : decode b_Bk_add 56 = .ok (.bipush 96, 2) := by decide +kernel
theorem d_Bk_add_58 : decode b_Bk_add 58 = .ok (.if_icmp .ge 16, 3) := by decide +kernel
theorem d_Bk_add_61 : decode b_Bk_add 61 = .ok (.aload_n 0, 1) := by decide +kernel
theorem d_Bk_add_62 : decode b_Bk_add 62 = .ok (.getfield 18, 3) := by decide +kernel
theorem d_Bk_add_65 : decode b_Bk_add 65 = .ok (.iload_n 3, 1) := by decide +kernel
theorem d_Bk_add_66 : decode b_Bk_add 66 = .ok (.iload_n 1, 1) := by decide +kernel
theorem d_Bk_add_67 : decode b_Bk_add 67 = .ok (.iastore, 1) := by decide +kernel
theorem d_Bk_add_68 : decode b_Bk_add 68 = .ok (.iinc 3 1, 3) := by decide +kernel
theorem d_Bk_add_71 : decode b_Bk_add 71 = .ok (.goto (-26), 3) := by decide +kernel
theorem d_Bk_add_74 : decode b_Bk_add 74 = .ok (.aload_n 0, 1) := by decide +kernel
theorem d_Bk_add_75 : decode b_Bk_add 75 = .ok (.dup, 1) := by decide +kernel
theorem d_Bk_add_76 : decode b_Bk_add 76 = .ok (.getfield 25, 3) := by decide +kernel
theorem d_Bk_add_79 : decode b_Bk_add 79 = .ok (.iload_n 2, 1) := by decide +kernel
theorem d_Bk_add_80 : decode b_Bk_add 80 = .ok (.iadd, 1) := by decide +kernel
theorem d_Bk_add_81 : decode b_Bk_add 81 = .ok (.putfield 25, 3) := by decide +kernel
theorem d_Bk_add_84 : decode b_Bk_add 84 = .ok (.return_, 1) := by decide +kernel
theorem d_Si_add_0 : decode b_Si_add 0 = .ok (.aload_n 0, 1) := by decide +kernel
theorem d_Si_add_1 : decode b_Si_add 1 = .ok (.getfield 21, 3) := by decide +kernel
theorem d_Si_add_4 : decode b_Si_add 4 = .ok (.bipush 20, 2) := by decide +kernel
theorem d_Si_add_6 : decode b_Si_add 6 = .ok (.if_icmp .lt 4, 3) := by decide +kernel
theorem d_Si_add_9 : decode b_Si_add 9 = .ok (.return_, 1) := by decide +kernel
theorem d_Si_add_10 : decode b_Si_add 10 = .ok (.aload_n 0, 1) := by decide +kernel
theorem d_Si_add_11 : decode b_Si_add 11 = .ok (.getfield 9, 3) := by decide +kernel
theorem d_Si_add_14 : decode b_Si_add 14 = .ok (.aload_n 0, 1) := by decide +kernel
theorem d_Si_add_15 : decode b_Si_add 15 = .ok (.getfield 21, 3) := by decide +kernel
theorem d_Si_add_18 : decode b_Si_add 18 = .ok (.iload_n 1, 1) := by decide +kernel
theorem d_Si_add_19 : decode b_Si_add 19 = .ok (.iastore, 1) := by decide +kernel
theorem d_Si_add_20 : decode b_Si_add 20 = .ok (.aload_n 0, 1) := by decide +kernel
theorem d_Si_add_21 : decode b_Si_add 21 = .ok (.getfield 15, 3) := by decide +kernel
theorem d_Si_add_24 : decode b_Si_add 24 = .ok (.aload_n 0, 1) := by decide +kernel
theorem d_Si_add_25 : decode b_Si_add 25 = .ok (.getfield 21, 3) := by decide +kernel
theorem d_Si_add_28 : decode b_Si_add 28 = .ok (.iload_n 2, 1) := by decide +kernel
theorem d_Si_add_29 : decode b_Si_add 29 = .ok (.iastore, 1) := by decide +kernel
theorem d_Si_add_30 : decode b_Si_add 30 = .ok (.aload_n 0, 1) := by decide +kernel
theorem d_Si_add_31 : decode b_Si_add 31 = .ok (.getfield 18, 3) := by decide +kernel
theorem d_Si_add_34 : decode b_Si_add 34 = .ok (.aload_n 0, 1) := by decide +kernel
theorem d_Si_add_35 : decode b_Si_add 35 = .ok (.getfield 21, 3) := by decide +kernel
theorem d_Si_add_38 : decode b_Si_add 38 = .ok (.iload_n 3, 1) := by decide +kernel
theorem d_Si_add_39 : decode b_Si_add 39 = .ok (.invokestatic 31, 3) := by decide +kernel
theorem d_Si_add_42 : decode b_Si_add 42 = .ok (.iastore, 1) := by decide +kernel
theorem d_Si_add_43 : decode b_Si_add 43 = .ok (.aload_n 0, 1) := by decide +kernel
theorem d_Si_add_44 : decode b_Si_add 44 = .ok (.dup, 1) := by decide +kernel
theorem d_Si_add_45 : decode b_Si_add 45 = .ok (.getfield 21, 3) := by decide +kernel
theorem d_Si_add_48 : decode b_Si_add 48 = .ok (.iconst 1, 1) := by decide +kernel
theorem d_Si_add_49 : decode b_Si_add 49 = .ok (.iadd, 1) := by decide +kernel
theorem d_Si_add_50 : decode b_Si_add 50 = .ok (.putfield 21, 3) := by decide +kernel
theorem d_Si_add_53 : decode b_Si_add 53 = .ok (.return_, 1) := by decide +kernel
theorem d_Ld_copyFrom_0 : decode b_Ld_copyFrom 0 = .ok (.aload_n 0, 1) := by decide +kernel
theorem d_Ld_copyFrom_1 : decode b_Ld_copyFrom 1 = .ok (.aload_n 1, 1) := by decide +kernel
theorem d_Ld_copyFrom_2 : decode b_Ld_copyFrom 2 = .ok (.getfield 9, 3) := by decide +kernel
theorem d_Ld_copyFrom_5 : decode b_Ld_copyFrom 5 = .ok (.putfield 9, 3) := by decide +kernel
theorem d_Ld_copyFrom_8 : decode b_Ld_copyFrom 8 = .ok (.aload_n 0, 1) := by decide +kernel
theorem d_Ld_copyFrom_9 : decode b_Ld_copyFrom 9 = .ok (.aload_n 1, 1) := by decide +kernel
theorem d_Ld_copyFrom_10 : decode b_Ld_copyFrom 10 = .ok (.getfield 15, 3) := by decide +kernel
theorem d_Ld_copyFrom_13 : decode b_Ld_copyFrom 13 = .ok (.putfield 15, 3) := by decide +kernel
theorem d_Ld_copyFrom_16 : decode b_Ld_copyFrom 16 = .ok (.aload_n 0, 1) := by decide +kernel
theorem d_Ld_copyFrom_17 : decode b_Ld_copyFrom 17 = .ok (.aload_n 1, 1) := by decide +kernel
theorem d_Ld_copyFrom_18 : decode b_Ld_copyFrom 18 = .ok (.getfield 46, 3) := by decide +kernel
theorem d_Ld_copyFrom_21 : decode b_Ld_copyFrom 21 = .ok (.putfield 46, 3) := by decide +kernel
theorem d_Ld_copyFrom_24 : decode b_Ld_copyFrom 24 = .ok (.aload_n 0, 1) := by decide +kernel
theorem d_Ld_copyFrom_25 : decode b_Ld_copyFrom 25 = .ok (.aload_n 1, 1) := by decide +kernel
theorem d_Ld_copyFrom_26 : decode b_Ld_copyFrom 26 = .ok (.getfield 18, 3) := by decide +kernel
theorem d_Ld_copyFrom_29 : decode b_Ld_copyFrom 29 = .ok (.putfield 18, 3) := by decide +kernel
theorem d_Ld_copyFrom_32 : decode b_Ld_copyFrom 32 = .ok (.aload_n 0, 1) := by decide +kernel
theorem d_Ld_copyFrom_33 : decode b_Ld_copyFrom 33 = .ok (.aload_n 1, 1) := by decide +kernel
theorem d_Ld_copyFrom_34 : decode b_Ld_copyFrom 34 = .ok (.getfield 49, 3) := by decide +kernel
theorem d_Ld_copyFrom_37 : decode b_Ld_copyFrom 37 = .ok (.putfield 49, 3) := by decide +kernel
theorem d_Ld_copyFrom_40 : decode b_Ld_copyFrom 40 = .ok (.aload_n 1, 1) := by decide +kernel
theorem d_Ld_copyFrom_41 : decode b_Ld_copyFrom 41 = .ok (.getfield 21, 3) := by decide +kernel
theorem d_Ld_copyFrom_44 : decode b_Ld_copyFrom 44 = .ok (.iconst 0, 1) := by decide +kernel
theorem d_Ld_copyFrom_45 : decode b_Ld_copyFrom 45 = .ok (.aload_n 0, 1) := by decide +kernel
theorem d_Ld_copyFrom_46 : decode b_Ld_copyFrom 46 = .ok (.getfield 21, 3) := by decide +kernel
theorem d_Ld_copyFrom_49 : decode b_Ld_copyFrom 49 = .ok (.iconst 0, 1) := by decide +kernel
theorem d_Ld_copyFrom_50 : decode b_Ld_copyFrom 50 = .ok (.bipush 10, 2) := by decide +kernel
theorem d_Ld_copyFrom_52 : decode b_Ld_copyFrom 52 = .ok (.invokestatic 65, 3) := by decide +kernel
theorem d_Ld_copyFrom_55 : decode b_Ld_copyFrom 55 = .ok (.aload_n 1, 1) := by decide +kernel
theorem d_Ld_copyFrom_56 : decode b_Ld_copyFrom 56 = .ok (.getfield 25, 3) := by decide +kernel
theorem d_Ld_copyFrom_59 : decode b_Ld_copyFrom 59 = .ok (.iconst 0, 1) := by decide +kernel
theorem d_Ld_copyFrom_60 : decode b_Ld_copyFrom 60 = .ok (.aload_n 0, 1) := by decide +kernel
theorem d_Ld_copyFrom_61 : decode b_Ld_copyFrom 61 = .ok (.getfield 25, 3) := by decide +kernel
theorem d_Ld_copyFrom_64 : decode b_Ld_copyFrom 64 = .ok (.iconst 0, 1) := by decide +kernel
theorem d_Ld_copyFrom_65 : decode b_Ld_copyFrom 65 = .ok (.bipush 10, 2) := by decide +kernel
theorem d_Ld_copyFrom_67 : decode b_Ld_copyFrom 67 = .ok (.invokestatic 65, 3) := by decide +kernel
theorem d_Ld_copyFrom_70 : decode b_Ld_copyFrom 70 = .ok (.aload_n 1, 1) := by decide +kernel
theorem d_Ld_copyFrom_71 : decode b_Ld_copyFrom 71 = .ok (.getfield 28, 3) := by decide +kernel
theorem d_Ld_copyFrom_74 : decode b_Ld_copyFrom 74 = .ok (.iconst 0, 1) := by decide +kernel
theorem d_Ld_copyFrom_75 : decode b_Ld_copyFrom 75 = .ok (.aload_n 0, 1) := by decide +kernel
theorem d_Ld_copyFrom_76 : decode b_Ld_copyFrom 76 = .ok (.getfield 28, 3) := by decide +kernel
theorem d_Ld_copyFrom_79 : decode b_Ld_copyFrom 79 = .ok (.iconst 0, 1) := by decide +kernel
theorem d_Ld_copyFrom_80 : decode b_Ld_copyFrom 80 = .ok (.bipush 10, 2) := by decide +kernel
theorem d_Ld_copyFrom_82 : decode b_Ld_copyFrom 82 = .ok (.invokestatic 65, 3) := by decide +kernel
theorem d_Ld_copyFrom_85 : decode b_Ld_copyFrom 85 = .ok (.aload_n 1, 1) := by decide +kernel
theorem d_Ld_copyFrom_86 : decode b_Ld_copyFrom 86 = .ok (.getfield 31, 3) := by decide +kernel
theorem d_Ld_copyFrom_89 : decode b_Ld_copyFrom 89 = .ok (.iconst 0, 1) := by decide +kernel
theorem d_Ld_copyFrom_90 : decode b_Ld_copyFrom 90 = .ok (.aload_n 0, 1) := by decide +kernel
theorem d_Ld_copyFrom_91 : decode b_Ld_copyFrom 91 = .ok (.getfield 31, 3) := by decide +kernel
theorem d_Ld_copyFrom_94 : decode b_Ld_copyFrom 94 = .ok (.iconst 0, 1) := by decide +kernel
theorem d_Ld_copyFrom_95 : decode b_Ld_copyFrom 95 = .ok (.sipush 240, 3) := by decide +kernel
theorem d_Ld_copyFrom_98 : decode b_Ld_copyFrom 98 = .ok (.invokestatic 65, 3) := by decide +kernel
theorem d_Ld_copyFrom_101 : decode b_Ld_copyFrom 101 = .ok (.aload_n 0, 1) := by decide +kernel
theorem d_Ld_copyFrom_102 : decode b_Ld_copyFrom 102 = .ok (.aload_n 1, 1) := by decide +kernel
theorem d_Ld_copyFrom_103 : decode b_Ld_copyFrom 103 = .ok (.getfield 52, 3) := by decide +kernel
theorem d_Ld_copyFrom_106 : decode b_Ld_copyFrom 106 = .ok (.putfield 52, 3) := by decide +kernel
theorem d_Ld_copyFrom_109 : decode b_Ld_copyFrom 109 = .ok (.aload_n 1, 1) := by decide +kernel
theorem d_Ld_copyFrom_110 : decode b_Ld_copyFrom 110 = .ok (.getfield 34, 3) := by decide +kernel
theorem d_Ld_copyFrom_113 : decode b_Ld_copyFrom 113 = .ok (.iconst 0, 1) := by decide +kernel
theorem d_Ld_copyFrom_114 : decode b_Ld_copyFrom 114 = .ok (.aload_n 0, 1) := by decide +kernel
theorem d_Ld_copyFrom_115 : decode b_Ld_copyFrom 115 = .ok (.getfield 34, 3) := by decide +kernel
theorem d_Ld_copyFrom_118 : decode b_Ld_copyFrom 118 = .ok (.iconst 0, 1) := by decide +kernel
theorem d_Ld_copyFrom_119 : decode b_Ld_copyFrom 119 = .ok (.bipush 6, 2) := by decide +kernel
theorem d_Ld_copyFrom_121 : decode b_Ld_copyFrom 121 = .ok (.invokestatic 65, 3) := by decide +kernel
theorem d_Ld_copyFrom_124 : decode b_Ld_copyFrom 124 = .ok (.aload_n 1, 1) := by decide +kernel
theorem d_Ld_copyFrom_125 : decode b_Ld_copyFrom 125 = .ok (.getfield 37, 3) := by decide +kernel
theorem d_Ld_copyFrom_128 : decode b_Ld_copyFrom 128 = .ok (.iconst 0, 1) := by decide +kernel
theorem d_Ld_copyFrom_129 : decode b_Ld_copyFrom 129 = .ok (.aload_n 0, 1) := by decide +kernel
theorem d_Ld_copyFrom_130 : decode b_Ld_copyFrom 130 = .ok (.getfield 37, 3) := by decide +kernel
theorem d_Ld_copyFrom_133 : decode b_Ld_copyFrom 133 = .ok (.iconst 0, 1) := by decide +kernel
theorem d_Ld_copyFrom_134 : decode b_Ld_copyFrom 134 = .ok (.bipush 6, 2) := by decide +kernel
theorem d_Ld_copyFrom_136 : decode b_Ld_copyFrom 136 = .ok (.invokestatic 65, 3) := by decide +kernel
theorem d_Ld_copyFrom_139 : decode b_Ld_copyFrom 139 = .ok (.aload_n 1, 1) := by decide +kernel
theorem d_Ld_copyFrom_140 : decode b_Ld_copyFrom 140 = .ok (.getfield 40, 3) := by decide +kernel
theorem d_Ld_copyFrom_143 : decode b_Ld_copyFrom 143 = .ok (.iconst 0, 1) := by decide +kernel
theorem d_Ld_copyFrom_144 : decode b_Ld_copyFrom 144 = .ok (.aload_n 0, 1) := by decide +kernel
theorem d_Ld_copyFrom_145 : decode b_Ld_copyFrom 145 = .ok (.getfield 40, 3) := by decide +kernel
theorem d_Ld_copyFrom_148 : decode b_Ld_copyFrom 148 = .ok (.iconst 0, 1) := by decide +kernel
theorem d_Ld_copyFrom_149 : decode b_Ld_copyFrom 149 = .ok (.bipush 24, 2) := by decide +kernel
theorem d_Ld_copyFrom_151 : decode b_Ld_copyFrom 151 = .ok (.invokestatic 65, 3) := by decide +kernel
theorem d_Ld_copyFrom_154 : decode b_Ld_copyFrom 154 = .ok (.aload_n 0, 1) := by decide +kernel
theorem d_Ld_copyFrom_155 : decode b_Ld_copyFrom 155 = .ok (.aload_n 1, 1) := by decide +kernel
theorem d_Ld_copyFrom_156 : decode b_Ld_copyFrom 156 = .ok (.getfield 61, 3) := by decide +kernel
theorem d_Ld_copyFrom_159 : decode b_Ld_copyFrom 159 = .ok (.putfield 61, 3) := by decide +kernel
theorem d_Ld_copyFrom_162 : decode b_Ld_copyFrom 162 = .ok (.aload_n 0, 1) := by decide +kernel
theorem d_Ld_copyFrom_163 : decode b_Ld_copyFrom 163 = .ok (.aload_n 1, 1) := by decide +kernel
theorem d_Ld_copyFrom_164 : decode b_Ld_copyFrom 164 = .ok (.getfield 71, 3) := by decide +kernel
theorem d_Ld_copyFrom_167 : decode b_Ld_copyFrom 167 = .ok (.putfield 71, 3) := by decide +kernel
theorem d_Ld_copyFrom_170 : decode b_Ld_copyFrom 170 = .ok (.aload_n 0, 1) := by decide +kernel
theorem d_Ld_copyFrom_171 : decode b_Ld_copyFrom 171 = .ok (.aload_n 1, 1) := by decide +kernel
theorem d_Ld_copyFrom_172 : decode b_Ld_copyFrom 172 = .ok (.getfield 74, 3) := by decide +kernel
theorem d_Ld_copyFrom_175 : decode b_Ld_copyFrom 175 = .ok (.putfield 74, 3) := by decide +kernel
theorem d_Ld_copyFrom_178 : decode b_Ld_copyFrom 178 = .ok (.aload_n 0, 1) := by decide +kernel
theorem d_Ld_copyFrom_179 : decode b_Ld_copyFrom 179 = .ok (.aload_n 1, 1) := by decide +kernel
theorem d_Ld_copyFrom_180 : decode b_Ld_copyFrom 180 = .ok (.getfield 77, 3) := by decide +kernel
theorem d_Ld_copyFrom_183 : decode b_Ld_copyFrom 183 = .ok (.putfield 77, 3) := by decide +kernel
theorem d_Ld_copyFrom_186 : decode b_Ld_copyFrom 186 = .ok (.aload_n 1, 1) := by decide +kernel
theorem d_Ld_copyFrom_187 : decode b_Ld_copyFrom 187 = .ok (.getfield 43, 3) := by decide +kernel
theorem d_Ld_copyFrom_190 : decode b_Ld_copyFrom 190 = .ok (.iconst 0, 1) := by decide +kernel
theorem d_Ld_copyFrom_191 : decode b_Ld_copyFrom 191 = .ok (.aload_n 0, 1) := by decide +kernel
theorem d_Ld_copyFrom_192 : decode b_Ld_copyFrom 192 = .ok (.getfield 43, 3) := by decide +kernel
theorem d_Ld_copyFrom_195 : decode b_Ld_copyFrom 195 = .ok (.iconst 0, 1) := by decide +kernel
theorem d_Ld_copyFrom_196 : decode b_Ld_copyFrom 196 = .ok (.bipush 24, 2) := by decide +kernel
theorem d_Ld_copyFrom_198 : decode b_Ld_copyFrom 198 = .ok (.invokestatic 65, 3) := by decide +kernel
theorem d_Ld_copyFrom_201 : decode b_Ld_copyFrom 201 = .ok (.return_, 1) := by decide +kernel
theorem d_Bk_copyFrom_0 : decode b_Bk_copyFrom 0 = .ok (.aload_n 0, 1) := by decide +kernel
theorem d_Bk_copyFrom_1 : decode b_Bk_copyFrom 1 = .ok (.aload_n 1, 1) := by decide +kernel
theorem d_Bk_copyFrom_2 : decode b_Bk_copyFrom 2 = .ok (.getfield 21, 3) := by decide +kernel
theorem d_Bk_copyFrom_5 : decode b_Bk_copyFrom 5 = .ok (.putfield 21, 3) := by decide +kernel
theorem d_Bk_copyFrom_8 : decode b_Bk_copyFrom 8 = .ok (.aload_n 0, 1) := by decide +kernel
theorem d_Bk_copyFrom_9 : decode b_Bk_copyFrom 9 = .ok (.aload_n 1, 1) := by decide +kernel
theorem d_Bk_copyFrom_10 : decode b_Bk_copyFrom 10 = .ok (.getfield 25, 3) := by decide +kernel
theorem d_Bk_copyFrom_13 : decode b_Bk_copyFrom 13 = .ok (.putfield 25, 3) := by decide +kernel
theorem d_Bk_copyFrom_16 : decode b_Bk_copyFrom 16 = .ok (.aload_n 1, 1) := by decide +kernel
theorem d_Bk_copyFrom_17 : decode b_Bk_copyFrom 17 = .ok (.getfield 9, 3) := by decide +kernel
theorem d_Bk_copyFrom_20 : decode b_Bk_copyFrom 20 = .ok (.iconst 0, 1) := by decide +kernel
theorem d_Bk_copyFrom_21 : decode b_Bk_copyFrom 21 = .ok (.aload_n 0, 1) := by decide +kernel
theorem d_Bk_copyFrom_22 : decode b_Bk_copyFrom 22 = .ok (.getfield 9, 3) := by decide +kernel
theorem d_Bk_copyFrom_25 : decode b_Bk_copyFrom 25 = .ok (.iconst 0, 1) := by decide +kernel
theorem d_Bk_copyFrom_26 : decode b_Bk_copyFrom 26 = .ok (.bipush 30, 2) := by decide +kernel
theorem d_Bk_copyFrom_28 : decode b_Bk_copyFrom 28 = .ok (.invokestatic 28, 3) := by decide +kernel
theorem d_Bk_copyFrom_31 : decode b_Bk_copyFrom 31 = .ok (.aload_n 1, 1) := by decide +kernel
theorem d_Bk_copyFrom_32 : decode b_Bk_copyFrom 32 = .ok (.getfield 15, 3) := by decide +kernel
theorem d_Bk_copyFrom_35 : decode b_Bk_copyFrom 35 = .ok (.iconst 0, 1) := by decide +kernel
theorem d_Bk_copyFrom_36 : decode b_Bk_copyFrom 36 = .ok (.aload_n 0, 1) := by decide +kernel
theorem d_Bk_copyFrom_37 : decode b_Bk_copyFrom 37 = .ok (.getfield 15, 3) := by decide +kernel
theorem d_Bk_copyFrom_40 : decode b_Bk_copyFrom 40 = .ok (.iconst 0, 1) := by decide +kernel
theorem d_Bk_copyFrom_41 : decode b_Bk_copyFrom 41 = .ok (.bipush 30, 2) := by decide +kernel
theorem d_Bk_copyFrom_43 : decode b_Bk_copyFrom 43 = .ok (.invokestatic 28, 3) := by decide +kernel
theorem d_Bk_copyFrom_46 : decode b_Bk_copyFrom 46 = .ok (.aload_n 1, 1) := by decide +kernel
theorem d_Bk_copyFrom_47 : decode b_Bk_copyFrom 47 = .ok (.getfield 18, 3) := by decide +kernel
theorem d_Bk_copyFrom_50 : decode b_Bk_copyFrom 50 = .ok (.iconst 0, 1) := by decide +kernel
theorem d_Bk_copyFrom_51 : decode b_Bk_copyFrom 51 = .ok (.aload_n 0, 1) := by decide +kernel
theorem d_Bk_copyFrom_52 : decode b_Bk_copyFrom 52 = .ok (.getfield 18, 3) := by decide +kernel
theorem d_Bk_copyFrom_55 : decode b_Bk_copyFrom 55 = .ok (.iconst 0, 1) := by decide +kernel
theorem d_Bk_copyFrom_56 : decode b_Bk_copyFrom 56 = .ok (.bipush 96, 2) := by decide +kernel
theorem d_Bk_copyFrom_58 : decode b_Bk_copyFrom 58 = .ok (.invokestatic 28, 3) := by decide +kernel
theorem d_Bk_copyFrom_61 : decode b_Bk_copyFrom 61 = .ok (.return_, 1) := by decide +kernel
theorem d_Si_copyFrom_0 : decode b_Si_copyFrom 0 = .ok (.aload_n 0, 1) := by decide +kernel
theorem d_Si_copyFrom_1 : decode b_Si_copyFrom 1 = .ok (.aload_n 1, 1) := by decide +kernel
theorem d_Si_copyFrom_2 : decode b_Si_copyFrom 2 = .ok (.getfield 21, 3) := by decide +kernel
theorem d_Si_copyFrom_5 : decode b_Si_copyFrom 5 = .ok (.putfield 21, 3) := by decide +kernel
theorem d_Si_copyFrom_8 : decode b_Si_copyFrom 8 = .ok (.aload_n 1, 1) := by decide +kernel
theorem d_Si_copyFrom_9 : decode b_Si_copyFrom 9 = .ok (.getfield 9, 3) := by decide +kernel
theorem d_Si_copyFrom_12 : decode b_Si_copyFrom 12 = .ok (.iconst 0, 1) := by decide +kernel
theorem d_Si_copyFrom_13 : decode b_Si_copyFrom 13 = .ok (.aload_n 0, 1) := by decide +kernel
theorem d_Si_copyFrom_14 : decode b_Si_copyFrom 14 = .ok (.getfield 9, 3) := by decide +kernel
theorem d_Si_copyFrom_17 : decode b_Si_copyFrom 17 = .ok (.iconst 0, 1) := by decide +kernel
theorem d_Si_copyFrom_18 : decode b_Si_copyFrom 18 = .ok (.bipush 20, 2) := by decide +kernel
theorem d_Si_copyFrom_20 : decode b_Si_copyFrom 20 = .ok (.invokestatic 25, 3) := by decide +kernel
theorem d_Si_copyFrom_23 : decode b_Si_copyFrom 23 = .ok (.aload_n 1, 1) := by decide +kernel
theorem d_Si_copyFrom_24 : decode b_Si_copyFrom 24 = .ok (.getfield 15, 3) := by decide +kernel
theorem d_Si_copyFrom_27 : decode b_Si_copyFrom 27 = .ok (.iconst 0, 1) := by decide +kernel
theorem d_Si_copyFrom_28 : decode b_Si_copyFrom 28 = .ok (.aload_n 0, 1) := by decide +kernel
theorem d_Si_copyFrom_29 : decode b_Si_copyFrom 29 = .ok (.getfield 15, 3) := by decide +kernel
theorem d_Si_copyFrom_32 : decode b_Si_copyFrom 32 = .ok (.iconst 0, 1) := by decide +kernel
theorem d_Si_copyFrom_33 : decode b_Si_copyFrom 33 = .ok (.bipush 20, 2) := by decide +kernel
theorem d_Si_copyFrom_35 : decode b_Si_copyFrom 35 = .ok (.invokestatic 25, 3) := by decide +kernel
theorem d_Si_copyFrom_38 : decode b_Si_copyFrom 38 = .ok (.aload_n 1, 1) := by decide +kernel
theorem d_Si_copyFrom_39 : decode b_Si_copyFrom 39 = .ok (.getfield 18, 3) := by decide +kernel
theorem d_Si_copyFrom_42 : decode b_Si_copyFrom 42 = .ok (.iconst 0, 1) := by decide +kernel
theorem d_Si_copyFrom_43 : decode b_Si_copyFrom 43 = .ok (.aload_n 0, 1) := by decide +kernel
theorem d_Si_copyFrom_44 : decode b_Si_copyFrom 44 = .ok (.getfield 18, 3) := by decide +kernel
theorem d_Si_copyFrom_47 : decode b_Si_copyFrom 47 = .ok (.iconst 0, 1) := by decide +kernel
theorem d_Si_copyFrom_48 : decode b_Si_copyFrom 48 = .ok (.bipush 20, 2) := by decide +kernel
theorem d_Si_copyFrom_50 : decode b_Si_copyFrom 50 = .ok (.invokestatic 25, 3) := by decide +kernel
theorem d_Si_copyFrom_53 : decode b_Si_copyFrom 53 = .ok (.return_, 1) := by decide +kernel
theorem d_Td_copyFrom_0 : decode b_Td_copyFrom 0 = .ok (.aload_n 1, 1) := by decide +kernel
theorem d_Td_copyFrom_1 : decode b_Td_copyFrom 1 = .ok (.getfield 9, 3) := by decide +kernel
theorem d_Td_copyFrom_4 : decode b_Td_copyFrom 4 = .ok (.iconst 0, 1) := by decide +kernel
theorem d_Td_copyFrom_5 : decode b_Td_copyFrom 5 = .ok (.aload_n 0, 1) := by decide +kernel
theorem d_Td_copyFrom_6 : decode b_Td_copyFrom 6 = .ok (.getfield 9, 3) := by decide +kernel
theorem d_Td_copyFrom_9 : decode b_Td_copyFrom 9 = .ok (.iconst 0, 1) := by decide +kernel
theorem d_Td_copyFrom_10 : decode b_Td_copyFrom 10 = .ok (.sipush 600, 3) := by decide +kernel
theorem d_Td_copyFrom_13 : decode b_Td_copyFrom 13 = .ok (.invokestatic 54, 3) := by decide +kernel
theorem d_Td_copyFrom_16 : decode b_Td_copyFrom 16 = .ok (.aload_n 0, 1) := by decide +kernel
theorem d_Td_copyFrom_17 : decode b_Td_copyFrom 17 = .ok (.aload_n 1, 1) := by decide +kernel
theorem d_Td_copyFrom_18 : decode b_Td_copyFrom 18 = .ok (.getfield 51, 3) := by decide +kernel
theorem d_Td_copyFrom_21 : decode b_Td_copyFrom 21 = .ok (.putfield 51, 3) := by decide +kernel
theorem d_Td_copyFrom_24 : decode b_Td_copyFrom 24 = .ok (.aload_n 0, 1) := by decide +kernel
theorem d_Td_copyFrom_25 : decode b_Td_copyFrom 25 = .ok (.aload_n 1, 1) := by decide +kernel
theorem d_Td_copyFrom_26 : decode b_Td_copyFrom 26 = .ok (.getfield 60, 3) := by decide +kernel
theorem d_Td_copyFrom_29 : decode b_Td_copyFrom 29 = .ok (.putfield 60, 3) := by decide +kernel
theorem d_Td_copyFrom_32 : decode b_Td_copyFrom 32 = .ok (.aload_n 0, 1) := by decide +kernel
theorem d_Td_copyFrom_33 : decode b_Td_copyFrom 33 = .ok (.aload_n 1, 1) := by decide +kernel
theorem d_Td_copyFrom_34 : decode b_Td_copyFrom 34 = .ok (.getfield 15, 3) := by decide +kernel
theorem d_Td_copyFrom_37 : decode b_Td_copyFrom 37 = .ok (.putfield 15, 3) := by decide +kernel
theorem d_Td_copyFrom_40 : decode b_Td_copyFrom 40 = .ok (.aload_n 1, 1) := by decide +kernel
theorem d_Td_copyFrom_41 : decode b_Td_copyFrom 41 = .ok (.getfield 19, 3) := by decide +kernel
theorem d_Td_copyFrom_44 : decode b_Td_copyFrom 44 = .ok (.iconst 0, 1) := by decide +kernel
theorem d_Td_copyFrom_45 : decode b_Td_copyFrom 45 = .ok (.aload_n 0, 1) := by decide +kernel
theorem d_Td_copyFrom_46 : decode b_Td_copyFrom 46 = .ok (.getfield 19, 3) := by decide +kernel
theorem d_Td_copyFrom_49 : decode b_Td_copyFrom 49 = .ok (.iconst 0, 1) := by decide +kernel
theorem d_Td_copyFrom_50 : decode b_Td_copyFrom 50 = .ok (.iconst 5, 1) := by decide +kernel
theorem d_Td_copyFrom_51 : decode b_Td_copyFrom 51 = .ok (.invokestatic 54, 3) := by decide +kernel
theorem d_Td_copyFrom_54 : decode b_Td_copyFrom 54 = .ok (.iconst 0, 1) := by decide +kernel
theorem d_Td_copyFrom_55 : decode b_Td_copyFrom 55 = .ok (.istore_n 2, 1) := by decide +kernel
theorem d_Td_copyFrom_56 : decode b_Td_copyFrom 56 = .ok (.iload_n 2, 1) := by decide +kernel
theorem d_Td_copyFrom_57 : decode b_Td_copyFrom 57 = .ok (.iconst 2, 1) := by decide +kernel
theorem d_Td_copyFrom_58 : decode b_Td_copyFrom 58 = .ok (.if_icmp .ge 92, 3) := by decide +kernel
theorem d_Td_copyFrom_61 : decode b_Td_copyFrom 61 = .ok (.aload_n 0, 1) := by decide +kernel
theorem d_Td_copyFrom_62 : decode b_Td_copyFrom 62 = .ok (.getfield 24, 3) := by decide +kernel
theorem d_Td_copyFrom_65 : decode b_Td_copyFrom 65 = .ok (.iload_n 2, 1) := by decide +kernel
theorem d_Td_copyFrom_66 : decode b_Td_copyFrom 66 = .ok (.aaload, 1) := by decide +kernel
theorem d_Td_copyFrom_67 : decode b_Td_copyFrom 67 = .ok (.aload_n 1, 1) := by decide +kernel
theorem d_Td_copyFrom_68 : decode b_Td_copyFrom 68 = .ok (.getfield 24, 3) := by decide +kernel
theorem d_Td_copyFrom_71 : decode b_Td_copyFrom 71 = .ok (.iload_n 2, 1) := by decide +kernel
theorem d_Td_copyFrom_72 : decode b_Td_copyFrom 72 = .ok (.aaload, 1) := by decide +kernel
theorem d_Td_copyFrom_73 : decode b_Td_copyFrom 73 = .ok (.invokevirtual 63, 3) := by decide +kernel
theorem d_Td_copyFrom_76 : decode b_Td_copyFrom 76 = .ok (.aload_n 1, 1) := by decide +kernel
theorem d_Td_copyFrom_77 : decode b_Td_copyFrom 77 = .ok (.getfield 30, 3) := by decide +kernel
theorem d_Td_copyFrom_80 : decode b_Td_copyFrom 80 = .ok (.iload_n 2, 1) := by decide +kernel
theorem d_Td_copyFrom_81 : decode b_Td_copyFrom 81 = .ok (.aaload, 1) := by decide +kernel
theorem d_Td_copyFrom_82 : decode b_Td_copyFrom 82 = .ok (.iconst 0, 1) := by decide +kernel
theorem d_Td_copyFrom_83 : decode b_Td_copyFrom 83 = .ok (.aload_n 0, 1) := by decide +kernel
theorem d_Td_copyFrom_84 : decode b_Td_copyFrom 84 = .ok (.getfield 30, 3) := by decide +kernel
theorem d_Td_copyFrom_87 : decode b_Td_copyFrom 87 = .ok (.iload_n 2, 1) := by decide +kernel
theorem d_Td_copyFrom_88 : decode b_Td_copyFrom 88 = .ok (.aaload, 1) := by decide +kernel
theorem d_Td_copyFrom_89 : decode b_Td_copyFrom 89 = .ok (.iconst 0, 1) := by decide +kernel
theorem d_Td_copyFrom_90 : decode b_Td_copyFrom 90 = .ok (.bipush 24, 2) := by decide +kernel
theorem d_Td_copyFrom_92 : decode b_Td_copyFrom 92 = .ok (.invokestatic 54, 3) := by decide +kernel
theorem d_Td_copyFrom_95 : decode b_Td_copyFrom 95 = .ok (.aload_n 0, 1) := by decide +kernel
theorem d_Td_copyFrom_96 : decode b_Td_copyFrom 96 = .ok (.getfield 35, 3) := by decide +kernel
theorem d_Td_copyFrom_99 : decode b_Td_copyFrom 99 = .ok (.iload_n 2, 1) := by decide +kernel
theorem d_Td_copyFrom_100 : decode b_Td_copyFrom 100 = .ok (.aaload, 1) := by decide +kernel
theorem d_Td_copyFrom_101 : decode b_Td_copyFrom 101 = .ok (.aload_n 1, 1) := by decide +kernel
theorem d_Td_copyFrom_102 : decode b_Td_copyFrom 102 = .ok (.getfield 35, 3) := by decide +kernel
theorem d_Td_copyFrom_105 : decode b_Td_copyFrom 105 = .ok (.iload_n 2, 1) := by decide +kernel
theorem d_Td_copyFrom_106 : decode b_Td_copyFrom 106 = .ok (.aaload, 1) := by decide +kernel
theorem d_Td_copyFrom_107 : decode b_Td_copyFrom 107 = .ok (.invokevirtual 67, 3) := by decide +kernel
theorem d_Td_copyFrom_110 : decode b_Td_copyFrom 110 = .ok (.aload_n 0, 1) := by decide +kernel
theorem d_Td_copyFrom_111 : decode b_Td_copyFrom 111 = .ok (.getfield 41, 3) := by decide +kernel
theorem d_Td_copyFrom_114 : decode b_Td_copyFrom 114 = .ok (.iload_n 2, 1) := by decide +kernel
theorem d_Td_copyFrom_115 : decode b_Td_copyFrom 115 = .ok (.aaload, 1) := by decide +kernel
theorem d_Td_copyFrom_116 : decode b_Td_copyFrom 116 = .ok (.aload_n 1, 1) := by decide +kernel
theorem d_Td_copyFrom_117 : decode b_Td_copyFrom 117 = .ok (.getfield 41, 3) := by decide +kernel
theorem d_Td_copyFrom_120 : decode b_Td_copyFrom 120 = .ok (.iload_n 2, 1) := by decide +kernel
theorem d_Td_copyFrom_121 : decode b_Td_copyFrom 121 = .ok (.aaload, 1) := by decide +kernel
theorem d_Td_copyFrom_122 : decode b_Td_copyFrom 122 = .ok (.invokevirtual 70, 3) := by decide +kernel
theorem d_Td_copyFrom_125 : decode b_Td_copyFrom 125 = .ok (.aload_n 1, 1) := by decide +kernel
theorem d_Td_copyFrom_126 : decode b_Td_copyFrom 126 = .ok (.getfield 45, 3) := by decide +kernel
theorem d_Td_copyFrom_129 : decode b_Td_copyFrom 129 = .ok (.iload_n 2, 1) := by decide +kernel
theorem d_Td_copyFrom_130 : decode b_Td_copyFrom 130 = .ok (.aaload, 1) := by decide +kernel
theorem d_Td_copyFrom_131 : decode b_Td_copyFrom 131 = .ok (.iconst 0, 1) := by decide +kernel
theorem d_Td_copyFrom_132 : decode b_Td_copyFrom 132 = .ok (.aload_n 0, 1) := by decide +kernel
theorem d_Td_copyFrom_133 : decode b_Td_copyFrom 133 = .ok (.getfield 45, 3) := by decide +kernel
theorem d_Td_copyFrom_136 : decode b_Td_copyFrom 136 = .ok (.iload_n 2, 1) := by decide +kernel
theorem d_Td_copyFrom_137 : decode b_Td_copyFrom 137 = .ok (.aaload, 1) := by decide +kernel
theorem d_Td_copyFrom_138 : decode b_Td_copyFrom 138 = .ok (.iconst 0, 1) := by decide +kernel
theorem d_Td_copyFrom_139 : decode b_Td_copyFrom 139 = .ok (.bipush 8, 2) := by decide +kernel
theorem d_Td_copyFrom_141 : decode b_Td_copyFrom 141 = .ok (.invokestatic 54, 3) := by decide +kernel
theorem d_Td_copyFrom_144 : decode b_Td_copyFrom 144 = .ok (.iinc 2 1, 3) := by decide +kernel
theorem d_Td_copyFrom_147 : decode b_Td_copyFrom 147 = .ok (.goto (-91), 3) := by decide +kernel
theorem d_Td_copyFrom_150 : decode b_Td_copyFrom 150 = .ok (.return_, 1) := by decide +kernel
theorem d_Ld_hasPerson_0 : decode b_Ld_hasPerson 0 = .ok (.iload_n 1, 1) := by decide +kernel
theorem d_Ld_hasPerson_1 : decode b_Ld_hasPerson 1 = .ok (.ifCond .lt 15, 3) := by decide +kernel
theorem d_Ld_hasPerson_4 : decode b_Ld_hasPerson 4 = .ok (.iload_n 1, 1) := by decide +kernel
theorem d_Ld_hasPerson_5 : decode b_Ld_hasPerson 5 = .ok (.aload_n 0, 1) := by decide +kernel
theorem d_Ld_hasPerson_6 : decode b_Ld_hasPerson 6 = .ok (.getfield 49, 3) := by decide +kernel
theorem d_Ld_hasPerson_9 : decode b_Ld_hasPerson 9 = .ok (.if_icmp .ge 7, 3) := by decide +kernel
theorem d_Ld_hasPerson_12 : decode b_Ld_hasPerson 12 = .ok (.iconst 1, 1) := by decide +kernel
theorem d_Ld_hasPerson_13 : decode b_Ld_hasPerson 13 = .ok (.goto 4, 3) := by decide +kernel
theorem d_Ld_hasPerson_16 : decode b_Ld_hasPerson 16 = .ok (.iconst 0, 1) := by decide +kernel
theorem d_Ld_hasPerson_17 : decode b_Ld_hasPerson 17 = .ok (.ireturn, 1) := by decide +kernel
theorem d_Ld_isLegal_0 : decode b_Ld_isLegal 0 = .ok (.iconst 0, 1) := by decide +kernel
theorem d_Ld_isLegal_1 : decode b_Ld_isLegal 1 = .ok (.istore_n 2, 1) := by decide +kernel
theorem d_Ld_isLegal_2 : decode b_Ld_isLegal 2 = .ok (.iconst 0, 1) := by decide +kernel
theorem d_Ld_isLegal_3 : decode b_Ld_isLegal 3 = .ok (.istore_n 3, 1) := by decide +kernel
theorem d_Ld_isLegal_4 : decode b_Ld_isLegal 4 = .ok (.iload_n 3, 1) := by decide +kernel
theorem d_Ld_isLegal_5 : decode b_Ld_isLegal 5 = .ok (.aload_n 0, 1) := by decide +kernel
theorem d_Ld_isLegal_6 : decode b_Ld_isLegal 6 = .ok (.getfield 9, 3) := by decide +kernel
theorem d_Ld_isLegal_9 : decode b_Ld_isLegal 9 = .ok (.if_icmp .ge 62, 3) := by decide +kernel
theorem d_Ld_isLegal_12 : decode b_Ld_isLegal 12 = .ok (.aload_n 0, 1) := by decide +kernel
theorem d_Ld_isLegal_13 : decode b_Ld_isLegal 13 = .ok (.aload_n 1, 1) := by decide +kernel
theorem d_Ld_isLegal_14 : decode b_Ld_isLegal 14 = .ok (.iload_n 3, 1) := by decide +kernel
theorem d_Ld_isLegal_15 : decode b_Ld_isLegal 15 = .ok (.invokevirtual 84, 3) := by decide +kernel
theorem d_Ld_isLegal_18 : decode b_Ld_isLegal 18 = .ok (.istore 4, 2) := by decide +kernel
theorem d_Ld_isLegal_20 : decode b_Ld_isLegal 20 = .ok (.aload_n 1, 1) := by decide +kernel
theorem d_Ld_isLegal_21 : decode b_Ld_isLegal 21 = .ok (.iload_n 3, 1) := by decide +kernel
theorem d_Ld_isLegal_22 : decode b_Ld_isLegal 22 = .ok (.iaload, 1) := by decide +kernel
theorem d_Ld_isLegal_23 : decode b_Ld_isLegal 23 = .ok (.iconst 2, 1) := by decide +kernel
theorem d_Ld_isLegal_24 : decode b_Ld_isLegal 24 = .ok (.if_icmp .eq 24, 3) := by decide +kernel
theorem d_Ld_isLegal_27 : decode b_Ld_isLegal 27 = .ok (.iconst 1, 1) := by decide +kernel
theorem d_Ld_isLegal_28 : decode b_Ld_isLegal 28 = .ok (.istore_n 2, 1) := by decide +kernel
theorem d_Ld_isLegal_29 : decode b_Ld_isLegal 29 = .ok (.aload_n 0, 1) := by decide +kernel
theorem d_Ld_isLegal_30 : decode b_Ld_isLegal 30 = .ok (.getfield 15, 3) := by decide +kernel
theorem d_Ld_isLegal_33 : decode b_Ld_isLegal 33 = .ok (.ifCond .le 32, 3) := by decide +kernel
theorem d_Ld_isLegal_36 : decode b_Ld_isLegal 36 = .ok (.iload 4, 2) := by decide +kernel
theorem d_Ld_isLegal_38 : decode b_Ld_isLegal 38 = .ok (.iconst 1, 1) := by decide +kernel
theorem d_Ld_isLegal_39 : decode b_Ld_isLegal 39 = .ok (.aload_n 1, 1) := by decide +kernel
theorem d_Ld_isLegal_40 : decode b_Ld_isLegal 40 = .ok (.iload_n 3, 1) := by decide +kernel
theorem d_Ld_isLegal_41 : decode b_Ld_isLegal 41 = .ok (.iaload, 1) := by decide +kernel
theorem d_Ld_isLegal_42 : decode b_Ld_isLegal 42 = .ok (.isub, 1) := by decide +kernel
theorem d_Ld_isLegal_43 : decode b_Ld_isLegal 43 = .ok (.if_icmp .ne 22, 3) := by decide +kernel
theorem d_Ld_isLegal_46 : decode b_Ld_isLegal 46 = .ok (.iconst 0, 1) := by decide +kernel
theorem d_Ld_isLegal_47 : decode b_Ld_isLegal 47 = .ok (.ireturn, 1) := by decide +kernel
theorem d_Ld_isLegal_48 : decode b_Ld_isLegal 48 = .ok (.iload 4, 2) := by decide +kernel
theorem d_Ld_isLegal_50 : decode b_Ld_isLegal 50 = .ok (.iconst 2, 1) := by decide +kernel
theorem d_Ld_isLegal_51 : decode b_Ld_isLegal 51 = .ok (.if_icmp .eq 14, 3) := by decide +kernel
theorem d_Ld_isLegal_54 : decode b_Ld_isLegal 54 = .ok (.aload_n 0, 1) := by decide +kernel
theorem d_Ld_isLegal_55 : decode b_Ld_isLegal 55 = .ok (.aload_n 1, 1) := by decide +kernel
theorem d_Ld_isLegal_56 : decode b_Ld_isLegal 56 = .ok (.iload_n 3, 1) := by decide +kernel
theorem d_Ld_isLegal_57 : decode b_Ld_isLegal 57 = .ok (.invokevirtual 87, 3) := by decide +kernel
theorem d_Ld_isLegal_60 : decode b_Ld_isLegal 60 = .ok (.ifCond .ne 5, 3) := by decide +kernel
theorem d_Ld_isLegal_63 : decode b_Ld_isLegal 63 = .ok (.iconst 0, 1) := by decide +kernel
theorem d_Ld_isLegal_64 : decode b_Ld_isLegal 64 = .ok (.ireturn, 1) := by decide +kernel
theorem d_Ld_isLegal_65 : decode b_Ld_isLegal 65 = .ok (.iinc 3 1, 3) := by decide +kernel
theorem d_Ld_isLegal_68 : decode b_Ld_isLegal 68 = .ok (.goto (-64), 3) := by decide +kernel
theorem d_Ld_isLegal_71 : decode b_Ld_isLegal 71 = .ok (.iload_n 2, 1) := by decide +kernel
theorem d_Ld_isLegal_72 : decode b_Ld_isLegal 72 = .ok (.ireturn, 1) := by decide +kernel
theorem d_Ld_before_0 : decode b_Ld_before 0 = .ok (.aload_n 0, 1) := by decide +kernel
theorem d_Ld_before_1 : decode b_Ld_before 1 = .ok (.aload_n 1, 1) := by decide +kernel
theorem d_Ld_before_2 : decode b_Ld_before 2 = .ok (.iload_n 2, 1) := by decide +kernel
theorem d_Ld_before_3 : decode b_Ld_before 3 = .ok (.aload_n 0, 1) := by decide +kernel
theorem d_Ld_before_4 : decode b_Ld_before 4 = .ok (.getfield 9, 3) := by decide +kernel
theorem d_Ld_before_7 : decode b_Ld_before 7 = .ok (.iadd, 1) := by decide +kernel
theorem d_Ld_before_8 : decode b_Ld_before 8 = .ok (.iconst 1, 1) := by decide +kernel
theorem d_Ld_before_9 : decode b_Ld_before 9 = .ok (.isub, 1) := by decide +kernel
theorem d_Ld_before_10 : decode b_Ld_before 10 = .ok (.invokevirtual 80, 3) := by decide +kernel
theorem d_Ld_before_13 : decode b_Ld_before 13 = .ok (.ireturn, 1) := by decide +kernel
theorem d_Ld_at_0 : decode b_Ld_at 0 = .ok (.aload_n 0, 1) := by decide +kernel
theorem d_Ld_at_1 : decode b_Ld_at 1 = .ok (.getfield 9, 3) := by decide +kernel
theorem d_Ld_at_4 : decode b_Ld_at 4 = .ok (.ifCond .le 14, 3) := by decide +kernel
theorem d_Ld_at_7 : decode b_Ld_at 7 = .ok (.aload_n 1, 1) := by decide +kernel
theorem d_Ld_at_8 : decode b_Ld_at 8 = .ok (.iload_n 2, 1) := by decide +kernel
theorem d_Ld_at_9 : decode b_Ld_at 9 = .ok (.aload_n 0, 1) := by decide +kernel
theorem d_Ld_at_10 : decode b_Ld_at 10 = .ok (.getfield 9, 3) := by decide +kernel
theorem d_Ld_at_13 : decode b_Ld_at 13 = .ok (.irem, 1) := by decide +kernel
theorem d_Ld_at_14 : decode b_Ld_at 14 = .ok (.iaload, 1) := by decide +kernel
theorem d_Ld_at_15 : decode b_Ld_at 15 = .ok (.goto 4, 3) := by decide +kernel
theorem d_Ld_at_18 : decode b_Ld_at 18 = .ok (.iconst 2, 1) := by decide +kernel
theorem d_Ld_at_19 : decode b_Ld_at 19 = .ok (.ireturn, 1) := by decide +kernel
theorem d_Ld_isCrossing_0 : decode b_Ld_isCrossing 0 = .ok (.iconst 0, 1) := by decide +kernel
theorem d_Ld_isCrossing_1 : decode b_Ld_isCrossing 1 = .ok (.istore_n 3, 1) := by decide +kernel
theorem d_Ld_isCrossing_2 : decode b_Ld_isCrossing 2 = .ok (.iload_n 3, 1) := by decide +kernel
theorem d_Ld_isCrossing_3 : decode b_Ld_isCrossing 3 = .ok (.aload_n 0, 1) := by decide +kernel
theorem d_Ld_isCrossing_4 : decode b_Ld_isCrossing 4 = .ok (.getfield 15, 3) := by decide +kernel
theorem d_Ld_isCrossing_7 : decode b_Ld_isCrossing 7 = .ok (.if_icmp .ge 23, 3) := by decide +kernel
theorem d_Ld_isCrossing_10 : decode b_Ld_isCrossing 10 = .ok (.aload_n 0, 1) := by decide +kernel
theorem d_Ld_isCrossing_11 : decode b_Ld_isCrossing 11 = .ok (.aload_n 1, 1) := by decide +kernel
theorem d_Ld_isCrossing_12 : decode b_Ld_isCrossing 12 = .ok (.iload_n 2, 1) := by decide +kernel
theorem d_Ld_isCrossing_13 : decode b_Ld_isCrossing 13 = .ok (.iload_n 3, 1) := by decide +kernel
theorem d_Ld_isCrossing_14 : decode b_Ld_isCrossing 14 = .ok (.iadd, 1) := by decide +kernel
theorem d_Ld_isCrossing_15 : decode b_Ld_isCrossing 15 = .ok (.invokevirtual 80, 3) := by decide +kernel
theorem d_Ld_isCrossing_18 : decode b_Ld_isCrossing 18 = .ok (.iconst 2, 1) := by decide +kernel
theorem d_Ld_isCrossing_19 : decode b_Ld_isCrossing 19 = .ok (.if_icmp .eq 5, 3) := by decide +kernel
theorem d_Ld_isCrossing_22 : decode b_Ld_isCrossing 22 = .ok (.iconst 0, 1) := by decide +kernel
theorem d_Ld_isCrossing_23 : decode b_Ld_isCrossing 23 = .ok (.ireturn, 1) := by decide +kernel
theorem d_Ld_isCrossing_24 : decode b_Ld_isCrossing 24 = .ok (.iinc 3 1, 3) := by decide +kernel
theorem d_Ld_isCrossing_27 : decode b_Ld_isCrossing 27 = .ok (.goto (-25), 3) := by decide +kernel
theorem d_Ld_isCrossing_30 : decode b_Ld_isCrossing 30 = .ok (.aload_n 0, 1) := by decide +kernel
theorem d_Ld_isCrossing_31 : decode b_Ld_isCrossing 31 = .ok (.aload_n 1, 1) := by decide +kernel
theorem d_Ld_isCrossing_32 : decode b_Ld_isCrossing 32 = .ok (.iload_n 2, 1) := by decide +kernel
theorem d_Ld_isCrossing_33 : decode b_Ld_isCrossing 33 = .ok (.aload_n 0, 1) := by decide +kernel
theorem d_Ld_isCrossing_34 : decode b_Ld_isCrossing 34 = .ok (.getfield 15, 3) := by decide +kernel
theorem d_Ld_isCrossing_37 : decode b_Ld_isCrossing 37 = .ok (.iadd, 1) := by decide +kernel
theorem d_Ld_isCrossing_38 : decode b_Ld_isCrossing 38 = .ok (.invokevirtual 80, 3) := by decide +kernel
theorem d_Ld_isCrossing_41 : decode b_Ld_isCrossing 41 = .ok (.iconst 1, 1) := by decide +kernel
theorem d_Ld_isCrossing_42 : decode b_Ld_isCrossing 42 = .ok (.aload_n 0, 1) := by decide +kernel
theorem d_Ld_isCrossing_43 : decode b_Ld_isCrossing 43 = .ok (.aload_n 1, 1) := by decide +kernel
theorem d_Ld_isCrossing_44 : decode b_Ld_isCrossing 44 = .ok (.iload_n 2, 1) := by decide +kernel
theorem d_Ld_isCrossing_45 : decode b_Ld_isCrossing 45 = .ok (.invokevirtual 84, 3) := by decide +kernel
theorem d_Ld_isCrossing_48 : decode b_Ld_isCrossing 48 = .ok (.isub, 1) := by decide +kernel
theorem d_Ld_isCrossing_49 : decode b_Ld_isCrossing 49 = .ok (.if_icmp .ne 7, 3) := by decide +kernel
theorem d_Ld_isCrossing_52 : decode b_Ld_isCrossing 52 = .ok (.iconst 1, 1) := by decide +kernel
theorem d_Ld_isCrossing_53 : decode b_Ld_isCrossing 53 = .ok (.goto 4, 3) := by decide +kernel
theorem d_Ld_isCrossing_56 : decode b_Ld_isCrossing 56 = .ok (.iconst 0, 1) := by decide +kernel
theorem d_Ld_isCrossing_57 : decode b_Ld_isCrossing 57 = .ok (.ireturn, 1) := by decide +kernel
theorem d_Ld_carryings_0 : decode b_Ld_carryings 0 = .ok (.iconst 0, 1) := by decide +kernel
theorem d_Ld_carryings_1 : decode b_Ld_carryings 1 = .ok (.istore_n 2, 1) := by decide +kernel
theorem d_Ld_carryings_2 : decode b_Ld_carryings 2 = .ok (.iconst 0, 1) := by decide +kernel
theorem d_Ld_carryings_3 : decode b_Ld_carryings 3 = .ok (.istore_n 3, 1) := by decide +kernel
theorem d_Ld_carryings_4 : decode b_Ld_carryings 4 = .ok (.iload_n 3, 1) := by decide +kernel
theorem d_Ld_carryings_5 : decode b_Ld_carryings 5 = .ok (.aload_n 0, 1) := by decide +kernel
theorem d_Ld_carryings_6 : decode b_Ld_carryings 6 = .ok (.getfield 9, 3) := by decide +kernel
theorem d_Ld_carryings_9 : decode b_Ld_carryings 9 = .ok (.if_icmp .ge 21, 3) := by decide +kernel
theorem d_Ld_carryings_12 : decode b_Ld_carryings 12 = .ok (.iload_n 2, 1) := by decide +kernel
theorem d_Ld_carryings_13 : decode b_Ld_carryings 13 = .ok (.aload_n 0, 1) := by decide +kernel
theorem d_Ld_carryings_14 : decode b_Ld_carryings 14 = .ok (.aload_n 1, 1) := by decide +kernel
theorem d_Ld_carryings_15 : decode b_Ld_carryings 15 = .ok (.iload_n 3, 1) := by decide +kernel
theorem d_Ld_carryings_16 : decode b_Ld_carryings 16 = .ok (.invokevirtual 91, 3) := by decide +kernel
theorem d_Ld_carryings_19 : decode b_Ld_carryings 19 = .ok (.invokestatic 94, 3) := by decide +kernel
theorem d_Ld_carryings_22 : decode b_Ld_carryings 22 = .ok (.iadd, 1) := by decide +kernel
theorem d_Ld_carryings_23 : decode b_Ld_carryings 23 = .ok (.istore_n 2, 1) := by decide +kernel
theorem d_Ld_carryings_24 : decode b_Ld_carryings 24 = .ok (.iinc 3 1, 3) := by decide +kernel
theorem d_Ld_carryings_27 : decode b_Ld_carryings 27 = .ok (.goto (-23), 3) := by decide +kernel
theorem d_Ld_carryings_30 : decode b_Ld_carryings 30 = .ok (.iload_n 2, 1) := by decide +kernel
theorem d_Ld_carryings_31 : decode b_Ld_carryings 31 = .ok (.ireturn, 1) := by decide +kernel
theorem d_Ld_arrives_0 : decode b_Ld_arrives 0 = .ok (.aload_n 1, 1) := by decide +kernel
theorem d_Ld_arrives_1 : decode b_Ld_arrives 1 = .ok (.iload_n 2, 1) := by decide +kernel
theorem d_Ld_arrives_2 : decode b_Ld_arrives 2 = .ok (.iaload, 1) := by decide +kernel
theorem d_Ld_arrives_3 : decode b_Ld_arrives 3 = .ok (.iconst 2, 1) := by decide +kernel
theorem d_Ld_arrives_4 : decode b_Ld_arrives 4 = .ok (.if_icmp .ne 5, 3) := by decide +kernel
theorem d_Ld_arrives_7 : decode b_Ld_arrives 7 = .ok (.iconst 0, 1) := by decide +kernel
theorem d_Ld_arrives_8 : decode b_Ld_arrives 8 = .ok (.ireturn, 1) := by decide +kernel
theorem d_Ld_arrives_9 : decode b_Ld_arrives 9 = .ok (.iconst 1, 1) := by decide +kernel
theorem d_Ld_arrives_10 : decode b_Ld_arrives 10 = .ok (.istore_n 3, 1) := by decide +kernel
theorem d_Ld_arrives_11 : decode b_Ld_arrives 11 = .ok (.iload_n 3, 1) := by decide +kernel
theorem d_Ld_arrives_12 : decode b_Ld_arrives 12 = .ok (.aload_n 0, 1) := by decide +kernel
theorem d_Ld_arrives_13 : decode b_Ld_arrives 13 = .ok (.getfield 9, 3) := by decide +kernel
theorem d_Ld_arrives_16 : decode b_Ld_arrives 16 = .ok (.if_icmp .ge 44, 3) := by decide +kernel
theorem d_Ld_arrives_19 : decode b_Ld_arrives 19 = .ok (.aload_n 0, 1) := by decide +kernel
theorem d_Ld_arrives_20 : decode b_Ld_arrives 20 = .ok (.aload_n 1, 1) := by decide +kernel
theorem d_Ld_arrives_21 : decode b_Ld_arrives 21 = .ok (.iload_n 2, 1) := by decide +kernel
theorem d_Ld_arrives_22 : decode b_Ld_arrives 22 = .ok (.aload_n 0, 1) := by decide +kernel
theorem d_Ld_arrives_23 : decode b_Ld_arrives 23 = .ok (.getfield 9, 3) := by decide +kernel
theorem d_Ld_arrives_26 : decode b_Ld_arrives 26 = .ok (.iadd, 1) := by decide +kernel
theorem d_Ld_arrives_27 : decode b_Ld_arrives 27 = .ok (.iload_n 3, 1) := by decide +kernel
theorem d_Ld_arrives_28 : decode b_Ld_arrives 28 = .ok (.isub, 1) := by decide +kernel
theorem d_Ld_arrives_29 : decode b_Ld_arrives 29 = .ok (.invokevirtual 80, 3) := by decide +kernel
theorem d_Ld_arrives_32 : decode b_Ld_arrives 32 = .ok (.istore 4, 2) := by decide +kernel
theorem d_Ld_arrives_34 : decode b_Ld_arrives 34 = .ok (.iload 4, 2) := by decide +kernel
theorem d_Ld_arrives_36 : decode b_Ld_arrives 36 = .ok (.iconst 2, 1) := by decide +kernel
theorem d_Ld_arrives_37 : decode b_Ld_arrives 37 = .ok (.if_icmp .eq 17, 3) := by decide +kernel
theorem d_Ld_arrives_40 : decode b_Ld_arrives 40 = .ok (.iload 4, 2) := by decide +kernel
theorem d_Ld_arrives_42 : decode b_Ld_arrives 42 = .ok (.aload_n 1, 1) := by decide +kernel
theorem d_Ld_arrives_43 : decode b_Ld_arrives 43 = .ok (.iload_n 2, 1) := by decide +kernel
theorem d_Ld_arrives_44 : decode b_Ld_arrives 44 = .ok (.iaload, 1) := by decide +kernel
theorem d_Ld_arrives_45 : decode b_Ld_arrives 45 = .ok (.if_icmp .eq 7, 3) := by decide +kernel
theorem d_Ld_arrives_48 : decode b_Ld_arrives 48 = .ok (.iconst 1, 1) := by decide +kernel
theorem d_Ld_arrives_49 : decode b_Ld_arrives 49 = .ok (.goto 4, 3) := by decide +kernel
theorem d_Ld_arrives_52 : decode b_Ld_arrives 52 = .ok (.iconst 0, 1) := by decide +kernel
theorem d_Ld_arrives_53 : decode b_Ld_arrives 53 = .ok (.ireturn, 1) := by decide +kernel
theorem d_Ld_arrives_54 : decode b_Ld_arrives 54 = .ok (.iinc 3 1, 3) := by decide +kernel
theorem d_Ld_arrives_57 : decode b_Ld_arrives 57 = .ok (.goto (-46), 3) := by decide +kernel
theorem d_Ld_arrives_60 : decode b_Ld_arrives 60 = .ok (.iconst 0, 1) := by decide +kernel
theorem d_Ld_arrives_61 : decode b_Ld_arrives 61 = .ok (.ireturn, 1) := by decide +kernel
theorem d_Ld_dark_0 : decode b_Ld_dark 0 = .ok (.iconst 0, 1) := by decide +kernel
theorem d_Ld_dark_1 : decode b_Ld_dark 1 = .ok (.istore_n 3, 1) := by decide +kernel
theorem d_Ld_dark_2 : decode b_Ld_dark 2 = .ok (.iconst 0, 1) := by decide +kernel
theorem d_Ld_dark_3 : decode b_Ld_dark 3 = .ok (.istore 4, 2) := by decide +kernel
theorem d_Ld_dark_5 : decode b_Ld_dark 5 = .ok (.iload 4, 2) := by decide +kernel
theorem d_Ld_dark_7 : decode b_Ld_dark 7 = .ok (.aload_n 0, 1) := by decide +kernel
theorem d_Ld_dark_8 : decode b_Ld_dark 8 = .ok (.getfield 9, 3) := by decide +kernel
theorem d_Ld_dark_11 : decode b_Ld_dark 11 = .ok (.if_icmp .ge 28, 3) := by decide +kernel
theorem d_Ld_dark_14 : decode b_Ld_dark 14 = .ok (.iload_n 3, 1) := by decide +kernel
theorem d_Ld_dark_15 : decode b_Ld_dark 15 = .ok (.aload_n 1, 1) := by decide +kernel
theorem d_Ld_dark_16 : decode b_Ld_dark 16 = .ok (.iload 4, 2) := by decide +kernel
theorem d_Ld_dark_18 : decode b_Ld_dark 18 = .ok (.iaload, 1) := by decide +kernel
theorem d_Ld_dark_19 : decode b_Ld_dark 19 = .ok (.iload_n 2, 1) := by decide +kernel
theorem d_Ld_dark_20 : decode b_Ld_dark 20 = .ok (.if_icmp .ne 7, 3) := by decide +kernel
theorem d_Ld_dark_23 : decode b_Ld_dark 23 = .ok (.iconst 1, 1) := by decide +kernel
theorem d_Ld_dark_24 : decode b_Ld_dark 24 = .ok (.goto 4, 3) := by decide +kernel
theorem d_Ld_dark_27 : decode b_Ld_dark 27 = .ok (.iconst 0, 1) := by decide +kernel
theorem d_Ld_dark_28 : decode b_Ld_dark 28 = .ok (.invokestatic 94, 3) := by decide +kernel
theorem d_Ld_dark_31 : decode b_Ld_dark 31 = .ok (.iadd, 1) := by decide +kernel
theorem d_Ld_dark_32 : decode b_Ld_dark 32 = .ok (.istore_n 3, 1) := by decide +kernel
theorem d_Ld_dark_33 : decode b_Ld_dark 33 = .ok (.iinc 4 1, 3) := by decide +kernel
theorem d_Ld_dark_36 : decode b_Ld_dark 36 = .ok (.goto (-31), 3) := by decide +kernel
theorem d_Ld_dark_39 : decode b_Ld_dark 39 = .ok (.iload_n 3, 1) := by decide +kernel
theorem d_Ld_dark_40 : decode b_Ld_dark 40 = .ok (.ireturn, 1) := by decide +kernel
theorem d_Ld_sleepless_0 : decode b_Ld_sleepless 0 = .ok (.iconst 0, 1) := by decide +kernel
theorem d_Ld_sleepless_1 : decode b_Ld_sleepless 1 = .ok (.istore_n 3, 1) := by decide +kernel
theorem d_Ld_sleepless_2 : decode b_Ld_sleepless 2 = .ok (.iconst 0, 1) := by decide +kernel
theorem d_Ld_sleepless_3 : decode b_Ld_sleepless 3 = .ok (.istore 4, 2) := by decide +kernel
theorem d_Ld_sleepless_5 : decode b_Ld_sleepless 5 = .ok (.iload 4, 2) := by decide +kernel
theorem d_Ld_sleepless_7 : decode b_Ld_sleepless 7 = .ok (.aload_n 0, 1) := by decide +kernel
theorem d_Ld_sleepless_8 : decode b_Ld_sleepless 8 = .ok (.getfield 49, 3) := by decide +kernel
theorem d_Ld_sleepless_11 : decode b_Ld_sleepless 11 = .ok (.if_icmp .ge 62, 3) := by decide +kernel
theorem d_Ld_sleepless_14 : decode b_Ld_sleepless 14 = .ok (.aload_n 0, 1) := by decide +kernel
theorem d_Ld_sleepless_15 : decode b_Ld_sleepless 15 = .ok (.getfield 21, 3) := by decide +kernel
theorem d_Ld_sleepless_18 : decode b_Ld_sleepless 18 = .ok (.iload 4, 2) := by decide +kernel
theorem d_Ld_sleepless_20 : decode b_Ld_sleepless 20 = .ok (.iaload, 1) := by decide +kernel
theorem d_Ld_sleepless_21 : decode b_Ld_sleepless 21 = .ok (.ifCond .ne 7, 3) := by decide +kernel
theorem d_Ld_sleepless_24 : decode b_Ld_sleepless 24 = .ok (.iload_n 1, 1) := by decide +kernel
theorem d_Ld_sleepless_25 : decode b_Ld_sleepless 25 = .ok (.goto 4, 3) := by decide +kernel
theorem d_Ld_sleepless_28 : decode b_Ld_sleepless 28 = .ok (.iload_n 2, 1) := by decide +kernel
theorem d_Ld_sleepless_29 : decode b_Ld_sleepless 29 = .ok (.istore 5, 2) := by decide +kernel
theorem d_Ld_sleepless_31 : decode b_Ld_sleepless 31 = .ok (.iload 5, 2) := by decide +kernel
theorem d_Ld_sleepless_33 : decode b_Ld_sleepless 33 = .ok (.aload_n 0, 1) := by decide +kernel
theorem d_Ld_sleepless_34 : decode b_Ld_sleepless 34 = .ok (.getfield 25, 3) := by decide +kernel
theorem d_Ld_sleepless_37 : decode b_Ld_sleepless 37 = .ok (.iload 4, 2) := by decide +kernel
theorem d_Ld_sleepless_39 : decode b_Ld_sleepless 39 = .ok (.iaload, 1) := by decide +kernel
theorem d_Ld_sleepless_40 : decode b_Ld_sleepless 40 = .ok (.if_icmp .lt 20, 3) := by decide +kernel
theorem d_Ld_sleepless_43 : decode b_Ld_sleepless 43 = .ok (.aload_n 0, 1) := by decide +kernel
theorem d_Ld_sleepless_44 : decode b_Ld_sleepless 44 = .ok (.getfield 9, 3) := by decide +kernel
theorem d_Ld_sleepless_47 : decode b_Ld_sleepless 47 = .ok (.iload 5, 2) := by decide +kernel
theorem d_Ld_sleepless_49 : decode b_Ld_sleepless 49 = .ok (.isub, 1) := by decide +kernel
theorem d_Ld_sleepless_50 : decode b_Ld_sleepless 50 = .ok (.aload_n 0, 1) := by decide +kernel
theorem d_Ld_sleepless_51 : decode b_Ld_sleepless 51 = .ok (.getfield 28, 3) := by decide +kernel
theorem d_Ld_sleepless_54 : decode b_Ld_sleepless 54 = .ok (.iload 4, 2) := by decide +kernel
theorem d_Ld_sleepless_56 : decode b_Ld_sleepless 56 = .ok (.iaload, 1) := by decide +kernel
theorem d_Ld_sleepless_57 : decode b_Ld_sleepless 57 = .ok (.if_icmp .ge 10, 3) := by decide +kernel
theorem d_Ld_sleepless_60 : decode b_Ld_sleepless 60 = .ok (.iload_n 3, 1) := by decide +kernel
theorem d_Ld_sleepless_61 : decode b_Ld_sleepless 61 = .ok (.iconst 1, 1) := by decide +kernel
theorem d_Ld_sleepless_62 : decode b_Ld_sleepless 62 = .ok (.iload 4, 2) := by decide +kernel
theorem d_Ld_sleepless_64 : decode b_Ld_sleepless 64 = .ok (.ishl, 1) := by decide +kernel
theorem d_Ld_sleepless_65 : decode b_Ld_sleepless 65 = .ok (.ior, 1) := by decide +kernel
theorem d_Ld_sleepless_66 : decode b_Ld_sleepless 66 = .ok (.istore_n 3, 1) := by decide +kernel
theorem d_Ld_sleepless_67 : decode b_Ld_sleepless 67 = .ok (.iinc 4 1, 3) := by decide +kernel
theorem d_Ld_sleepless_70 : decode b_Ld_sleepless 70 = .ok (.goto (-65), 3) := by decide +kernel
theorem d_Ld_sleepless_73 : decode b_Ld_sleepless 73 = .ok (.iload_n 3, 1) := by decide +kernel
theorem d_Ld_sleepless_74 : decode b_Ld_sleepless 74 = .ok (.ireturn, 1) := by decide +kernel
theorem d_Ld_valueOf_0 : decode b_Ld_valueOf 0 = .ok (.iconst 0, 1) := by decide +kernel
theorem d_Ld_valueOf_1 : decode b_Ld_valueOf 1 = .ok (.istore_n 2, 1) := by decide +kernel
theorem d_Ld_valueOf_2 : decode b_Ld_valueOf 2 = .ok (.iconst 0, 1) := by decide +kernel
theorem d_Ld_valueOf_3 : decode b_Ld_valueOf 3 = .ok (.istore_n 3, 1) := by decide +kernel
theorem d_Ld_valueOf_4 : decode b_Ld_valueOf 4 = .ok (.iload_n 3, 1) := by decide +kernel
theorem d_Ld_valueOf_5 : decode b_Ld_valueOf 5 = .ok (.aload_n 0, 1) := by decide +kernel
theorem d_Ld_valueOf_6 : decode b_Ld_valueOf 6 = .ok (.getfield 49, 3) := by decide +kernel
theorem d_Ld_valueOf_9 : decode b_Ld_valueOf 9 = .ok (.if_icmp .ge 24, 3) := by decide +kernel
theorem d_Ld_valueOf_12 : decode b_Ld_valueOf 12 = .ok (.iload_n 2, 1) := by decide +kernel
theorem d_Ld_valueOf_13 : decode b_Ld_valueOf 13 = .ok (.aload_n 0, 1) := by decide +kernel
theorem d_Ld_valueOf_14 : decode b_Ld_valueOf 14 = .ok (.iload_n 3, 1) := by decide +kernel
theorem d_Ld_valueOf_15 : decode b_Ld_valueOf 15 = .ok (.aload_n 1, 1) := by decide +kernel
theorem d_Ld_valueOf_16 : decode b_Ld_valueOf 16 = .ok (.aload_n 0, 1) := by decide +kernel
theorem d_Ld_valueOf_17 : decode b_Ld_valueOf 17 = .ok (.getfield 21, 3) := by decide +kernel
theorem d_Ld_valueOf_20 : decode b_Ld_valueOf 20 = .ok (.iload_n 3, 1) := by decide +kernel
theorem d_Ld_valueOf_21 : decode b_Ld_valueOf 21 = .ok (.iaload, 1) := by decide +kernel
theorem d_Ld_valueOf_22 : decode b_Ld_valueOf 22 = .ok (.invokevirtual 104, 3) := by decide +kernel
theorem d_Ld_valueOf_25 : decode b_Ld_valueOf 25 = .ok (.iadd, 1) := by decide +kernel
theorem d_Ld_valueOf_26 : decode b_Ld_valueOf 26 = .ok (.istore_n 2, 1) := by decide +kernel
theorem d_Ld_valueOf_27 : decode b_Ld_valueOf 27 = .ok (.iinc 3 1, 3) := by decide +kernel
theorem d_Ld_valueOf_30 : decode b_Ld_valueOf 30 = .ok (.goto (-26), 3) := by decide +kernel
theorem d_Ld_valueOf_33 : decode b_Ld_valueOf 33 = .ok (.iload_n 2, 1) := by decide +kernel
theorem d_Ld_valueOf_34 : decode b_Ld_valueOf 34 = .ok (.ireturn, 1) := by decide +kernel
theorem d_Ld_likedDark_0 : decode b_Ld_likedDark 0 = .ok (.iconst 0, 1) := by decide +kernel
theorem d_Ld_likedDark_1 : decode b_Ld_likedDark 1 = .ok (.istore 4, 2) := by decide +kernel
theorem d_Ld_likedDark_3 : decode b_Ld_likedDark 3 = .ok (.iconst 0, 1) := by decide +kernel
theorem d_Ld_likedDark_4 : decode b_Ld_likedDark 4 = .ok (.istore 5, 2) := by decide +kernel
theorem d_Ld_likedDark_6 : decode b_Ld_likedDark 6 = .ok (.iload 5, 2) := by decide +kernel
theorem d_Ld_likedDark_8 : decode b_Ld_likedDark 8 = .ok (.aload_n 0, 1) := by decide +kernel
theorem d_Ld_likedDark_9 : decode b_Ld_likedDark 9 = .ok (.getfield 9, 3) := by decide +kernel
theorem d_Ld_likedDark_12 : decode b_Ld_likedDark 12 = .ok (.if_icmp .ge 34, 3) := by decide +kernel
theorem d_Ld_likedDark_15 : decode b_Ld_likedDark 15 = .ok (.aload_n 2, 1) := by decide +kernel
theorem d_Ld_likedDark_16 : decode b_Ld_likedDark 16 = .ok (.iload 5, 2) := by decide +kernel
theorem d_Ld_likedDark_18 : decode b_Ld_likedDark 18 = .ok (.iaload, 1) := by decide +kernel
theorem d_Ld_likedDark_19 : decode b_Ld_likedDark 19 = .ok (.iload_n 3, 1) := by decide +kernel
theorem d_Ld_likedDark_20 : decode b_Ld_likedDark 20 = .ok (.if_icmp .ne 20, 3) := by decide +kernel
theorem d_Ld_likedDark_23 : decode b_Ld_likedDark 23 = .ok (.iload 4, 2) := by decide +kernel
theorem d_Ld_likedDark_25 : decode b_Ld_likedDark 25 = .ok (.aload_n 0, 1) := by decide +kernel
theorem d_Ld_likedDark_26 : decode b_Ld_likedDark 26 = .ok (.getfield 31, 3) := by decide +kernel
theorem d_Ld_likedDark_29 : decode b_Ld_likedDark 29 = .ok (.iload_n 1, 1) := by decide +kernel
theorem d_Ld_likedDark_30 : decode b_Ld_likedDark 30 = .ok (.bipush 24, 2) := by decide +kernel
theorem d_Ld_likedDark_32 : decode b_Ld_likedDark 32 = .ok (.imul, 1) := by decide +kernel
theorem d_Ld_likedDark_33 : decode b_Ld_likedDark 33 = .ok (.iload 5, 2) := by decide +kernel
theorem d_Ld_likedDark_35 : decode b_Ld_likedDark 35 = .ok (.iadd, 1) := by decide +kernel
theorem d_Ld_likedDark_36 : decode b_Ld_likedDark 36 = .ok (.iaload, 1) := by decide +kernel
theorem d_Ld_likedDark_37 : decode b_Ld_likedDark 37 = .ok (.iadd, 1) := by decide +kernel
theorem d_Ld_likedDark_38 : decode b_Ld_likedDark 38 = .ok (.istore 4, 2) := by decide +kernel
theorem d_Ld_likedDark_40 : decode b_Ld_likedDark 40 = .ok (.iinc 5 1, 3) := by decide +kernel
theorem d_Ld_likedDark_43 : decode b_Ld_likedDark 43 = .ok (.goto (-37), 3) := by decide +kernel
theorem d_Ld_likedDark_46 : decode b_Ld_likedDark 46 = .ok (.iload 4, 2) := by decide +kernel
theorem d_Ld_likedDark_48 : decode b_Ld_likedDark 48 = .ok (.ireturn, 1) := by decide +kernel
theorem d_Ld_priceOf_0 : decode b_Ld_priceOf 0 = .ok (.iconst 0, 1) := by decide +kernel
theorem d_Ld_priceOf_1 : decode b_Ld_priceOf 1 = .ok (.istore_n 2, 1) := by decide +kernel
theorem d_Ld_priceOf_2 : decode b_Ld_priceOf 2 = .ok (.iconst 0, 1) := by decide +kernel
theorem d_Ld_priceOf_3 : decode b_Ld_priceOf 3 = .ok (.istore_n 3, 1) := by decide +kernel
theorem d_Ld_priceOf_4 : decode b_Ld_priceOf 4 = .ok (.iload_n 3, 1) := by decide +kernel
theorem d_Ld_priceOf_5 : decode b_Ld_priceOf 5 = .ok (.aload_n 0, 1) := by decide +kernel
theorem d_Ld_priceOf_6 : decode b_Ld_priceOf 6 = .ok (.getfield 9, 3) := by decide +kernel
theorem d_Ld_priceOf_9 : decode b_Ld_priceOf 9 = .ok (.if_icmp .ge 26, 3) := by decide +kernel
theorem d_Ld_priceOf_12 : decode b_Ld_priceOf 12 = .ok (.aload_n 0, 1) := by decide +kernel
theorem d_Ld_priceOf_13 : decode b_Ld_priceOf 13 = .ok (.aload_n 1, 1) := by decide +kernel
theorem d_Ld_priceOf_14 : decode b_Ld_priceOf 14 = .ok (.iload_n 3, 1) := by decide +kernel
theorem d_Ld_priceOf_15 : decode b_Ld_priceOf 15 = .ok (.invokevirtual 91, 3) := by decide +kernel
theorem d_Ld_priceOf_18 : decode b_Ld_priceOf 18 = .ok (.ifCond .eq 11, 3) := by decide +kernel
theorem d_Ld_priceOf_21 : decode b_Ld_priceOf 21 = .ok (.iload_n 2, 1) := by decide +kernel
theorem d_Ld_priceOf_22 : decode b_Ld_priceOf 22 = .ok (.aload_n 0, 1) := by decide +kernel
theorem d_Ld_priceOf_23 : decode b_Ld_priceOf 23 = .ok (.iload_n 3, 1) := by decide +kernel
theorem d_Ld_priceOf_24 : decode b_Ld_priceOf 24 = .ok (.invokevirtual 111, 3) := by decide +kernel
theorem d_Ld_priceOf_27 : decode b_Ld_priceOf 27 = .ok (.iadd, 1) := by decide +kernel
theorem d_Ld_priceOf_28 : decode b_Ld_priceOf 28 = .ok (.istore_n 2, 1) := by decide +kernel
theorem d_Ld_priceOf_29 : decode b_Ld_priceOf 29 = .ok (.iinc 3 1, 3) := by decide +kernel
theorem d_Ld_priceOf_32 : decode b_Ld_priceOf 32 = .ok (.goto (-28), 3) := by decide +kernel
theorem d_Ld_priceOf_35 : decode b_Ld_priceOf 35 = .ok (.iload_n 2, 1) := by decide +kernel
theorem d_Ld_priceOf_36 : decode b_Ld_priceOf 36 = .ok (.ireturn, 1) := by decide +kernel
theorem d_Ld_feeAt_0 : decode b_Ld_feeAt 0 = .ok (.aload_n 0, 1) := by decide +kernel
theorem d_Ld_feeAt_1 : decode b_Ld_feeAt 1 = .ok (.getfield 52, 3) := by decide +kernel
theorem d_Ld_feeAt_4 : decode b_Ld_feeAt 4 = .ok (.ifCond .le 12, 3) := by decide +kernel
theorem d_Ld_feeAt_7 : decode b_Ld_feeAt 7 = .ok (.aload_n 0, 1) := by decide +kernel
theorem d_Ld_feeAt_8 : decode b_Ld_feeAt 8 = .ok (.getfield 34, 3) := by decide +kernel
theorem d_Ld_feeAt_11 : decode b_Ld_feeAt 11 = .ok (.iconst 0, 1) := by decide +kernel
theorem d_Ld_feeAt_12 : decode b_Ld_feeAt 12 = .ok (.iaload, 1) := by decide +kernel
theorem d_Ld_feeAt_13 : decode b_Ld_feeAt 13 = .ok (.goto 4, 3) := by decide +kernel
theorem d_Ld_feeAt_16 : decode b_Ld_feeAt 16 = .ok (.iconst 0, 1) := by decide +kernel
theorem d_Ld_feeAt_17 : decode b_Ld_feeAt 17 = .ok (.istore_n 2, 1) := by decide +kernel
theorem d_Ld_feeAt_18 : decode b_Ld_feeAt 18 = .ok (.iconst 1, 1) := by decide +kernel
theorem d_Ld_feeAt_19 : decode b_Ld_feeAt 19 = .ok (.istore_n 3, 1) := by decide +kernel
theorem d_Ld_feeAt_20 : decode b_Ld_feeAt 20 = .ok (.iload_n 3, 1) := by decide +kernel
theorem d_Ld_feeAt_21 : decode b_Ld_feeAt 21 = .ok (.aload_n 0, 1) := by decide +kernel
theorem d_Ld_feeAt_22 : decode b_Ld_feeAt 22 = .ok (.getfield 52, 3) := by decide +kernel
theorem d_Ld_feeAt_25 : decode b_Ld_feeAt 25 = .ok (.if_icmp .ge 20, 3) := by decide +kernel
theorem d_Ld_feeAt_28 : decode b_Ld_feeAt 28 = .ok (.iload_n 2, 1) := by decide +kernel
theorem d_Ld_feeAt_29 : decode b_Ld_feeAt 29 = .ok (.aload_n 0, 1) := by decide +kernel
theorem d_Ld_feeAt_30 : decode b_Ld_feeAt 30 = .ok (.getfield 34, 3) := by decide +kernel
theorem d_Ld_feeAt_33 : decode b_Ld_feeAt 33 = .ok (.iload_n 3, 1) := by decide +kernel
theorem d_Ld_feeAt_34 : decode b_Ld_feeAt 34 = .ok (.iaload, 1) := by decide +kernel
theorem d_Ld_feeAt_35 : decode b_Ld_feeAt 35 = .ok (.invokestatic 108, 3) := by decide +kernel
theorem d_Ld_feeAt_38 : decode b_Ld_feeAt 38 = .ok (.istore_n 2, 1) := by decide +kernel
theorem d_Ld_feeAt_39 : decode b_Ld_feeAt 39 = .ok (.iinc 3 1, 3) := by decide +kernel
theorem d_Ld_feeAt_42 : decode b_Ld_feeAt 42 = .ok (.goto (-22), 3) := by decide +kernel
theorem d_Ld_feeAt_45 : decode b_Ld_feeAt 45 = .ok (.aload_n 0, 1) := by decide +kernel
theorem d_Ld_feeAt_46 : decode b_Ld_feeAt 46 = .ok (.getfield 40, 3) := by decide +kernel
theorem d_Ld_feeAt_49 : decode b_Ld_feeAt 49 = .ok (.iload_n 1, 1) := by decide +kernel
theorem d_Ld_feeAt_50 : decode b_Ld_feeAt 50 = .ok (.iaload, 1) := by decide +kernel
theorem d_Ld_feeAt_51 : decode b_Ld_feeAt 51 = .ok (.iload_n 2, 1) := by decide +kernel
theorem d_Ld_feeAt_52 : decode b_Ld_feeAt 52 = .ok (.iadd, 1) := by decide +kernel
theorem d_Ld_feeAt_53 : decode b_Ld_feeAt 53 = .ok (.ireturn, 1) := by decide +kernel
theorem d_Bk_hoursAt_0 : decode b_Bk_hoursAt 0 = .ok (.iconst 0, 1) := by decide +kernel
theorem d_Bk_hoursAt_1 : decode b_Bk_hoursAt 1 = .ok (.istore 4, 2) := by decide +kernel
theorem d_Bk_hoursAt_3 : decode b_Bk_hoursAt 3 = .ok (.iconst 0, 1) := by decide +kernel
theorem d_Bk_hoursAt_4 : decode b_Bk_hoursAt 4 = .ok (.iload_n 2, 1) := by decide +kernel
theorem d_Bk_hoursAt_5 : decode b_Bk_hoursAt 5 = .ok (.invokestatic 40, 3) := by decide +kernel
theorem d_Bk_hoursAt_8 : decode b_Bk_hoursAt 8 = .ok (.istore 5, 2) := by decide +kernel
theorem d_Bk_hoursAt_10 : decode b_Bk_hoursAt 10 = .ok (.iload 5, 2) := by decide +kernel
theorem d_Bk_hoursAt_12 : decode b_Bk_hoursAt 12 = .ok (.iload_n 3, 1) := by decide +kernel
theorem d_Bk_hoursAt_13 : decode b_Bk_hoursAt 13 = .ok (.if_icmp .ge 42, 3) := by decide +kernel
theorem d_Bk_hoursAt_16 : decode b_Bk_hoursAt 16 = .ok (.iload 5, 2) := by decide +kernel
theorem d_Bk_hoursAt_18 : decode b_Bk_hoursAt 18 = .ok (.aload_n 0, 1) := by decide +kernel
theorem d_Bk_hoursAt_19 : decode b_Bk_hoursAt 19 = .ok (.invokevirtual 43, 3) := by decide +kernel
theorem d_Bk_hoursAt_22 : decode b_Bk_hoursAt 22 = .ok (.if_icmp .ge 33, 3) := by decide +kernel
theorem d_Bk_hoursAt_25 : decode b_Bk_hoursAt 25 = .ok (.iload 4, 2) := by decide +kernel
theorem d_Bk_hoursAt_27 : decode b_Bk_hoursAt 27 = .ok (.aload_n 0, 1) := by decide +kernel
theorem d_Bk_hoursAt_28 : decode b_Bk_hoursAt 28 = .ok (.getfield 18, 3) := by decide +kernel
theorem d_Bk_hoursAt_31 : decode b_Bk_hoursAt 31 = .ok (.iload 5, 2) := by decide +kernel
theorem d_Bk_hoursAt_33 : decode b_Bk_hoursAt 33 = .ok (.iaload, 1) := by decide +kernel
theorem d_Bk_hoursAt_34 : decode b_Bk_hoursAt 34 = .ok (.iload_n 1, 1) := by decide +kernel
theorem d_Bk_hoursAt_35 : decode b_Bk_hoursAt 35 = .ok (.if_icmp .ne 7, 3) := by decide +kernel
theorem d_Bk_hoursAt_38 : decode b_Bk_hoursAt 38 = .ok (.iconst 1, 1) := by decide +kernel
theorem d_Bk_hoursAt_39 : decode b_Bk_hoursAt 39 = .ok (.goto 4, 3) := by decide +kernel
theorem d_Bk_hoursAt_42 : decode b_Bk_hoursAt 42 = .ok (.iconst 0, 1) := by decide +kernel
theorem d_Bk_hoursAt_43 : decode b_Bk_hoursAt 43 = .ok (.invokestatic 47, 3) := by decide +kernel
theorem d_Bk_hoursAt_46 : decode b_Bk_hoursAt 46 = .ok (.iadd, 1) := by decide +kernel
theorem d_Bk_hoursAt_47 : decode b_Bk_hoursAt 47 = .ok (.istore 4, 2) := by decide +kernel
theorem d_Bk_hoursAt_49 : decode b_Bk_hoursAt 49 = .ok (.iinc 5 1, 3) := by decide +kernel
theorem d_Bk_hoursAt_52 : decode b_Bk_hoursAt 52 = .ok (.goto (-42), 3) := by decide +kernel
theorem d_Bk_hoursAt_55 : decode b_Bk_hoursAt 55 = .ok (.iload 4, 2) := by decide +kernel
theorem d_Bk_hoursAt_57 : decode b_Bk_hoursAt 57 = .ok (.ireturn, 1) := by decide +kernel
theorem d_Bk_trackHours_0 : decode b_Bk_trackHours 0 = .ok (.aload_n 0, 1) := by decide +kernel
theorem d_Bk_trackHours_1 : decode b_Bk_trackHours 1 = .ok (.getfield 25, 3) := by decide +kernel
theorem d_Bk_trackHours_4 : decode b_Bk_trackHours 4 = .ok (.bipush 96, 2) := by decide +kernel
theorem d_Bk_trackHours_6 : decode b_Bk_trackHours 6 = .ok (.invokestatic 34, 3) := by decide +kernel
theorem d_Bk_trackHours_9 : decode b_Bk_trackHours 9 = .ok (.ireturn, 1) := by decide +kernel
theorem d_Ld_everybody_0 : decode b_Ld_everybody 0 = .ok (.iconst 1, 1) := by decide +kernel
theorem d_Ld_everybody_1 : decode b_Ld_everybody 1 = .ok (.aload_n 0, 1) := by decide +kernel
theorem d_Ld_everybody_2 : decode b_Ld_everybody 2 = .ok (.getfield 49, 3) := by decide +kernel
theorem d_Ld_everybody_5 : decode b_Ld_everybody 5 = .ok (.ishl, 1) := by decide +kernel
theorem d_Ld_everybody_6 : decode b_Ld_everybody 6 = .ok (.iconst 1, 1) := by decide +kernel
theorem d_Ld_everybody_7 : decode b_Ld_everybody 7 = .ok (.isub, 1) := by decide +kernel
theorem d_Ld_everybody_8 : decode b_Ld_everybody 8 = .ok (.ireturn, 1) := by decide +kernel
theorem d_Bk_villages_0 : decode b_Bk_villages 0 = .ok (.iconst 0, 1) := by decide +kernel
theorem d_Bk_villages_1 : decode b_Bk_villages 1 = .ok (.istore_n 2, 1) := by decide +kernel
theorem d_Bk_villages_2 : decode b_Bk_villages 2 = .ok (.iconst 0, 1) := by decide +kernel
theorem d_Bk_villages_3 : decode b_Bk_villages 3 = .ok (.istore_n 3, 1) := by decide +kernel
theorem d_Bk_villages_4 : decode b_Bk_villages 4 = .ok (.iconst 0, 1) := by decide +kernel
theorem d_Bk_villages_5 : decode b_Bk_villages 5 = .ok (.istore 4, 2) := by decide +kernel
theorem d_Bk_villages_7 : decode b_Bk_villages 7 = .ok (.iload 4, 2) := by decide +kernel
theorem d_Bk_villages_9 : decode b_Bk_villages 9 = .ok (.aload_n 0, 1) := by decide +kernel
theorem d_Bk_villages_10 : decode b_Bk_villages 10 = .ok (.invokevirtual 43, 3) := by decide +kernel
theorem d_Bk_villages_13 : decode b_Bk_villages 13 = .ok (.if_icmp .ge 46, 3) := by decide +kernel
theorem d_Bk_villages_16 : decode b_Bk_villages 16 = .ok (.aload_n 0, 1) := by decide +kernel
theorem d_Bk_villages_17 : decode b_Bk_villages 17 = .ok (.getfield 18, 3) := by decide +kernel
theorem d_Bk_villages_20 : decode b_Bk_villages 20 = .ok (.iload 4, 2) := by decide +kernel
theorem d_Bk_villages_22 : decode b_Bk_villages 22 = .ok (.iaload, 1) := by decide +kernel
theorem d_Bk_villages_23 : decode b_Bk_villages 23 = .ok (.iconst 2, 1) := by decide +kernel
theorem d_Bk_villages_24 : decode b_Bk_villages 24 = .ok (.if_icmp .ne 9, 3) := by decide +kernel
theorem d_Bk_villages_27 : decode b_Bk_villages 27 = .ok (.iload_n 3, 1) := by decide +kernel
theorem d_Bk_villages_28 : decode b_Bk_villages 28 = .ok (.iconst 1, 1) := by decide +kernel
theorem d_Bk_villages_29 : decode b_Bk_villages 29 = .ok (.iadd, 1) := by decide +kernel
theorem d_Bk_villages_30 : decode b_Bk_villages 30 = .ok (.goto 4, 3) := by decide +kernel
theorem d_Bk_villages_33 : decode b_Bk_villages 33 = .ok (.iconst 0, 1) := by decide +kernel
theorem d_Bk_villages_34 : decode b_Bk_villages 34 = .ok (.istore_n 3, 1) := by decide +kernel
theorem d_Bk_villages_35 : decode b_Bk_villages 35 = .ok (.iload_n 2, 1) := by decide +kernel
theorem d_Bk_villages_36 : decode b_Bk_villages 36 = .ok (.iload_n 3, 1) := by decide +kernel
theorem d_Bk_villages_37 : decode b_Bk_villages 37 = .ok (.iload_n 1, 1) := by decide +kernel
theorem d_Bk_villages_38 : decode b_Bk_villages 38 = .ok (.iconst 1, 1) := by decide +kernel
theorem d_Bk_villages_39 : decode b_Bk_villages 39 = .ok (.iadd, 1) := by decide +kernel
theorem d_Bk_villages_40 : decode b_Bk_villages 40 = .ok (.if_icmp .ne 7, 3) := by decide +kernel
theorem d_Bk_villages_43 : decode b_Bk_villages 43 = .ok (.iconst 1, 1) := by decide +kernel
theorem d_Bk_villages_44 : decode b_Bk_villages 44 = .ok (.goto 4, 3) := by decide +kernel
theorem d_Bk_villages_47 : decode b_Bk_villages 47 = .ok (.iconst 0, 1) := by decide +kernel
theorem d_Bk_villages_48 : decode b_Bk_villages 48 = .ok (.invokestatic 47, 3) := by decide +kernel
theorem d_Bk_villages_51 : decode b_Bk_villages 51 = .ok (.iadd, 1) := by decide +kernel
theorem d_Bk_villages_52 : decode b_Bk_villages 52 = .ok (.istore_n 2, 1) := by decide +kernel
theorem d_Bk_villages_53 : decode b_Bk_villages 53 = .ok (.iinc 4 1, 3) := by decide +kernel
theorem d_Bk_villages_56 : decode b_Bk_villages 56 = .ok (.goto (-49), 3) := by decide +kernel
theorem d_Bk_villages_59 : decode b_Bk_villages 59 = .ok (.iload_n 2, 1) := by decide +kernel
theorem d_Bk_villages_60 : decode b_Bk_villages 60 = .ok (.ireturn, 1) := by decide +kernel
theorem d_Ld_greatestNeed_0 : decode b_Ld_greatestNeed 0 = .ok (.iconst 0, 1) := by decide +kernel
theorem d_Ld_greatestNeed_1 : decode b_Ld_greatestNeed 1 = .ok (.istore_n 2, 1) := by decide +kernel
theorem d_Ld_greatestNeed_2 : decode b_Ld_greatestNeed 2 = .ok (.iconst 0, 1) := by decide +kernel
theorem d_Ld_greatestNeed_3 : decode b_Ld_greatestNeed 3 = .ok (.istore_n 3, 1) := by decide +kernel
theorem d_Ld_greatestNeed_4 : decode b_Ld_greatestNeed 4 = .ok (.iload_n 3, 1) := by decide +kernel
theorem d_Ld_greatestNeed_5 : decode b_Ld_greatestNeed 5 = .ok (.aload_n 0, 1) := by decide +kernel
theorem d_Ld_greatestNeed_6 : decode b_Ld_greatestNeed 6 = .ok (.getfield 49, 3) := by decide +kernel
theorem d_Ld_greatestNeed_9 : decode b_Ld_greatestNeed 9 = .ok (.if_icmp .ge 30, 3) := by decide +kernel
theorem d_Ld_greatestNeed_12 : decode b_Ld_greatestNeed 12 = .ok (.aload_n 0, 1) := by decide +kernel
theorem d_Ld_greatestNeed_13 : decode b_Ld_greatestNeed 13 = .ok (.getfield 21, 3) := by decide +kernel
theorem d_Ld_greatestNeed_16 : decode b_Ld_greatestNeed 16 = .ok (.iload_n 3, 1) := by decide +kernel
theorem d_Ld_greatestNeed_17 : decode b_Ld_greatestNeed 17 = .ok (.iaload, 1) := by decide +kernel
theorem d_Ld_greatestNeed_18 : decode b_Ld_greatestNeed 18 = .ok (.iload_n 1, 1) := by decide +kernel
theorem d_Ld_greatestNeed_19 : decode b_Ld_greatestNeed 19 = .ok (.if_icmp .ne 14, 3) := by decide +kernel
theorem d_Ld_greatestNeed_22 : decode b_Ld_greatestNeed 22 = .ok (.iload_n 2, 1) := by decide +kernel
theorem d_Ld_greatestNeed_23 : decode b_Ld_greatestNeed 23 = .ok (.aload_n 0, 1) := by decide +kernel
theorem d_Ld_greatestNeed_24 : decode b_Ld_greatestNeed 24 = .ok (.getfield 25, 3) := by decide +kernel
theorem d_Ld_greatestNeed_27 : decode b_Ld_greatestNeed 27 = .ok (.iload_n 3, 1) := by decide +kernel
theorem d_Ld_greatestNeed_28 : decode b_Ld_greatestNeed 28 = .ok (.iaload, 1) := by decide +kernel
theorem d_Ld_greatestNeed_29 : decode b_Ld_greatestNeed 29 = .ok (.invokestatic 98, 3) := by decide +kernel
theorem d_Ld_greatestNeed_32 : decode b_Ld_greatestNeed 32 = .ok (.istore_n 2, 1) := by decide +kernel
theorem d_Ld_greatestNeed_33 : decode b_Ld_greatestNeed 33 = .ok (.iinc 3 1, 3) := by decide +kernel
theorem d_Ld_greatestNeed_36 : decode b_Ld_greatestNeed 36 = .ok (.goto (-32), 3) := by decide +kernel
theorem d_Ld_greatestNeed_39 : decode b_Ld_greatestNeed 39 = .ok (.iload_n 2, 1) := by decide +kernel
theorem d_Ld_greatestNeed_40 : decode b_Ld_greatestNeed 40 = .ok (.ireturn, 1) := by decide +kernel
theorem d_Pl_plan_0 : decode b_Pl_plan 0 = .ok (.aload_n 0, 1) := by decide +kernel
theorem d_Pl_plan_1 : decode b_Pl_plan 1 = .ok (.aload_n 1, 1) := by decide +kernel
theorem d_Pl_plan_2 : decode b_Pl_plan 2 = .ok (.invokevirtual 28, 3) := by decide +kernel
theorem d_Pl_plan_5 : decode b_Pl_plan 5 = .ok (.ldc2_w 32, 3) := by decide +kernel
theorem d_Pl_plan_8 : decode b_Pl_plan 8 = .ok (.lstore_n 2, 1) := by decide +kernel
theorem d_Pl_plan_9 : decode b_Pl_plan 9 = .ok (.iconst 0, 1) := by decide +kernel
theorem d_Pl_plan_10 : decode b_Pl_plan 10 = .ok (.istore 4, 2) := by decide +kernel
theorem d_Pl_plan_12 : decode b_Pl_plan 12 = .ok (.iload 4, 2) := by decide +kernel
theorem d_Pl_plan_14 : decode b_Pl_plan 14 = .ok (.aload_n 0, 1) := by decide +kernel
theorem d_Pl_plan_15 : decode b_Pl_plan 15 = .ok (.getfield 34, 3) := by decide +kernel
theorem d_Pl_plan_18 : decode b_Pl_plan 18 = .ok (.if_icmp .ge 21, 3) := by decide +kernel
theorem d_Pl_plan_21 : decode b_Pl_plan 21 = .ok (.lload_n 2, 1) := by decide +kernel
theorem d_Pl_plan_22 : decode b_Pl_plan 22 = .ok (.aload_n 0, 1) := by decide +kernel
theorem d_Pl_plan_23 : decode b_Pl_plan 23 = .ok (.aload_n 1, 1) := by decide +kernel
theorem d_Pl_plan_24 : decode b_Pl_plan 24 = .ok (.iload 4, 2) := by decide +kernel
theorem d_Pl_plan_26 : decode b_Pl_plan 26 = .ok (.invokevirtual 38, 3) := by decide +kernel
theorem d_Pl_plan_29 : decode b_Pl_plan 29 = .ok (.invokestatic 42, 3) := by decide +kernel
theorem d_Pl_plan_32 : decode b_Pl_plan 32 = .ok (.lstore_n 2, 1) := by decide +kernel
theorem d_Pl_plan_33 : decode b_Pl_plan 33 = .ok (.iinc 4 1, 3) := by decide +kernel
theorem d_Pl_plan_36 : decode b_Pl_plan 36 = .ok (.goto (-24), 3) := by decide +kernel
theorem d_Pl_plan_39 : decode b_Pl_plan 39 = .ok (.aload_n 1, 1) := by decide +kernel
theorem d_Pl_plan_40 : decode b_Pl_plan 40 = .ok (.iconst 1, 1) := by decide +kernel
theorem d_Pl_plan_41 : decode b_Pl_plan 41 = .ok (.putfield 48, 3) := by decide +kernel
theorem d_Pl_plan_44 : decode b_Pl_plan 44 = .ok (.aload_n 1, 1) := by decide +kernel
theorem d_Pl_plan_45 : decode b_Pl_plan 45 = .ok (.lload_n 2, 1) := by decide +kernel
theorem d_Pl_plan_46 : decode b_Pl_plan 46 = .ok (.ldc2_w 32, 3) := by decide +kernel
theorem d_Pl_plan_49 : decode b_Pl_plan 49 = .ok (.lcmp, 1) := by decide +kernel
theorem d_Pl_plan_50 : decode b_Pl_plan 50 = .ok (.ifCond .eq 7, 3) := by decide +kernel
theorem d_Pl_plan_53 : decode b_Pl_plan 53 = .ok (.iconst 1, 1) := by decide +kernel
theorem d_Pl_plan_54 : decode b_Pl_plan 54 = .ok (.goto 4, 3) := by decide +kernel
theorem d_Pl_plan_57 : decode b_Pl_plan 57 = .ok (.iconst 0, 1) := by decide +kernel
theorem d_Pl_plan_58 : decode b_Pl_plan 58 = .ok (.putfield 54, 3) := by decide +kernel
theorem d_Pl_plan_61 : decode b_Pl_plan 61 = .ok (.lload_n 2, 1) := by decide +kernel
theorem d_Pl_plan_62 : decode b_Pl_plan 62 = .ok (.ldc2_w 32, 3) := by decide +kernel
theorem d_Pl_plan_65 : decode b_Pl_plan 65 = .ok (.lcmp, 1) := by decide +kernel
theorem d_Pl_plan_66 : decode b_Pl_plan 66 = .ok (.ifCond .eq 9, 3) := by decide +kernel
theorem d_Pl_plan_69 : decode b_Pl_plan 69 = .ok (.aload_n 0, 1) := by decide +kernel
theorem d_Pl_plan_70 : decode b_Pl_plan 70 = .ok (.aload_n 1, 1) := by decide +kernel
theorem d_Pl_plan_71 : decode b_Pl_plan 71 = .ok (.lload_n 2, 1) := by decide +kernel
theorem d_Pl_plan_72 : decode b_Pl_plan 72 = .ok (.invokevirtual 57, 3) := by decide +kernel
theorem d_Pl_plan_75 : decode b_Pl_plan 75 = .ok (.return_, 1) := by decide +kernel
theorem d_Pl_prepare_0 : decode b_Pl_prepare 0 = .ok (.aload_n 0, 1) := by decide +kernel
theorem d_Pl_prepare_1 : decode b_Pl_prepare 1 = .ok (.aload_n 1, 1) := by decide +kernel
theorem d_Pl_prepare_2 : decode b_Pl_prepare 2 = .ok (.getfield 61, 3) := by decide +kernel
theorem d_Pl_prepare_5 : decode b_Pl_prepare 5 = .ok (.putfield 64, 3) := by decide +kernel
theorem d_Pl_prepare_8 : decode b_Pl_prepare 8 = .ok (.aload_n 0, 1) := by decide +kernel
theorem d_Pl_prepare_9 : decode b_Pl_prepare 9 = .ok (.aload_n 1, 1) := by decide +kernel
theorem d_Pl_prepare_10 : decode b_Pl_prepare 10 = .ok (.getfield 65, 3) := by decide +kernel
theorem d_Pl_prepare_13 : decode b_Pl_prepare 13 = .ok (.putfield 68, 3) := by decide +kernel
theorem d_Pl_prepare_16 : decode b_Pl_prepare 16 = .ok (.aload_n 0, 1) := by decide +kernel
theorem d_Pl_prepare_17 : decode b_Pl_prepare 17 = .ok (.iconst 2, 1) := by decide +kernel
theorem d_Pl_prepare_18 : decode b_Pl_prepare 18 = .ok (.iconst 2, 1) := by decide +kernel
theorem d_Pl_prepare_19 : decode b_Pl_prepare 19 = .ok (.aload_n 0, 1) := by decide +kernel
theorem d_Pl_prepare_20 : decode b_Pl_prepare 20 = .ok (.getfield 68, 3) := by decide +kernel
theorem d_Pl_prepare_23 : decode b_Pl_prepare 23 = .ok (.imul, 1) := by decide +kernel
theorem d_Pl_prepare_24 : decode b_Pl_prepare 24 = .ok (.iadd, 1) := by decide +kernel
theorem d_Pl_prepare_25 : decode b_Pl_prepare 25 = .ok (.putfield 34, 3) := by decide +kernel
theorem d_Pl_prepare_28 : decode b_Pl_prepare 28 = .ok (.aload_n 0, 1) := by decide +kernel
theorem d_Pl_prepare_29 : decode b_Pl_prepare 29 = .ok (.aload_n 0, 1) := by decide +kernel
theorem d_Pl_prepare_30 : decode b_Pl_prepare 30 = .ok (.getfield 68, 3) := by decide +kernel
theorem d_Pl_prepare_33 : decode b_Pl_prepare 33 = .ok (.ifCond .le 19, 3) := by decide +kernel
theorem d_Pl_prepare_36 : decode b_Pl_prepare 36 = .ok (.aload_n 0, 1) := by decide +kernel
theorem d_Pl_prepare_37 : decode b_Pl_prepare 37 = .ok (.getfield 64, 3) := by decide +kernel
theorem d_Pl_prepare_40 : decode b_Pl_prepare 40 = .ok (.aload_n 0, 1) := by decide +kernel
theorem d_Pl_prepare_41 : decode b_Pl_prepare 41 = .ok (.getfield 68, 3) := by decide +kernel
theorem d_Pl_prepare_44 : decode b_Pl_prepare 44 = .ok (.iconst 1, 1) := by decide +kernel
theorem d_Pl_prepare_45 : decode b_Pl_prepare 45 = .ok (.iadd, 1) := by decide +kernel
theorem d_Pl_prepare_46 : decode b_Pl_prepare 46 = .ok (.idiv, 1) := by decide +kernel
theorem d_Pl_prepare_47 : decode b_Pl_prepare 47 = .ok (.iconst 1, 1) := by decide +kernel
theorem d_Pl_prepare_48 : decode b_Pl_prepare 48 = .ok (.iadd, 1) := by decide +kernel
theorem d_Pl_prepare_49 : decode b_Pl_prepare 49 = .ok (.goto 4, 3) := by decide +kernel
theorem d_Pl_prepare_52 : decode b_Pl_prepare 52 = .ok (.iconst 1, 1) := by decide +kernel
theorem d_Pl_prepare_53 : decode b_Pl_prepare 53 = .ok (.putfield 69, 3) := by decide +kernel
theorem d_Pl_prepare_56 : decode b_Pl_prepare 56 = .ok (.aload_n 0, 1) := by decide +kernel
theorem d_Pl_prepare_57 : decode b_Pl_prepare 57 = .ok (.sipush 1400, 3) := by decide +kernel
theorem d_Pl_prepare_60 : decode b_Pl_prepare 60 = .ok (.aload_n 0, 1) := by decide +kernel
theorem d_Pl_prepare_61 : decode b_Pl_prepare 61 = .ok (.getfield 34, 3) := by decide +kernel
theorem d_Pl_prepare_64 : decode b_Pl_prepare 64 = .ok (.aload_n 0, 1) := by decide +kernel
theorem d_Pl_prepare_65 : decode b_Pl_prepare 65 = .ok (.getfield 64, 3) := by decide +kernel
theorem d_Pl_prepare_68 : decode b_Pl_prepare 68 = .ok (.iconst 1, 1) := by decide +kernel
theorem d_Pl_prepare_69 : decode b_Pl_prepare 69 = .ok (.iadd, 1) := by decide +kernel
theorem d_Pl_prepare_70 : decode b_Pl_prepare 70 = .ok (.imul, 1) := by decide +kernel
theorem d_Pl_prepare_71 : decode b_Pl_prepare 71 = .ok (.aload_n 0, 1) := by decide +kernel
theorem d_Pl_prepare_72 : decode b_Pl_prepare 72 = .ok (.getfield 69, 3) := by decide +kernel
theorem d_Pl_prepare_75 : decode b_Pl_prepare 75 = .ok (.imul, 1) := by decide +kernel
theorem d_Pl_prepare_76 : decode b_Pl_prepare 76 = .ok (.invokestatic 72, 3) := by decide +kernel
theorem d_Pl_prepare_79 : decode b_Pl_prepare 79 = .ok (.putfield 76, 3) := by decide +kernel
theorem d_Pl_prepare_82 : decode b_Pl_prepare 82 = .ok (.aload_n 0, 1) := by decide +kernel
theorem d_Pl_prepare_83 : decode b_Pl_prepare 83 = .ok (.lconst 1, 1) := by decide +kernel
theorem d_Pl_prepare_84 : decode b_Pl_prepare 84 = .ok (.putfield 79, 3) := by decide +kernel
theorem d_Pl_prepare_87 : decode b_Pl_prepare 87 = .ok (.aload_n 0, 1) := by decide +kernel
theorem d_Pl_prepare_88 : decode b_Pl_prepare 88 = .ok (.getfield 64, 3) := by decide +kernel
theorem d_Pl_prepare_91 : decode b_Pl_prepare 91 = .ok (.iconst 1, 1) := by decide +kernel
theorem d_Pl_prepare_92 : decode b_Pl_prepare 92 = .ok (.isub, 1) := by decide +kernel
theorem d_Pl_prepare_93 : decode b_Pl_prepare 93 = .ok (.istore_n 2, 1) := by decide +kernel
theorem d_Pl_prepare_94 : decode b_Pl_prepare 94 = .ok (.iload_n 2, 1) := by decide +kernel
theorem d_Pl_prepare_95 : decode b_Pl_prepare 95 = .ok (.ifCond .lt 81, 3) := by decide +kernel
theorem d_Pl_prepare_98 : decode b_Pl_prepare 98 = .ok (.aload_n 0, 1) := by decide +kernel
theorem d_Pl_prepare_99 : decode b_Pl_prepare 99 = .ok (.getfield 18, 3) := by decide +kernel
theorem d_Pl_prepare_102 : decode b_Pl_prepare 102 = .ok (.iload_n 2, 1) := by decide +kernel
theorem d_Pl_prepare_103 : decode b_Pl_prepare 103 = .ok (.aload_n 0, 1) := by decide +kernel
theorem d_Pl_prepare_104 : decode b_Pl_prepare 104 = .ok (.getfield 79, 3) := by decide +kernel
theorem d_Pl_prepare_107 : decode b_Pl_prepare 107 = .ok (.lastore, 1) := by decide +kernel
theorem d_Pl_prepare_108 : decode b_Pl_prepare 108 = .ok (.aload_n 0, 1) := by decide +kernel
theorem d_Pl_prepare_109 : decode b_Pl_prepare 109 = .ok (.dup, 1) := by decide +kernel
theorem d_Pl_prepare_110 : decode b_Pl_prepare 110 = .ok (.getfield 79, 3) := by decide +kernel
theorem d_Pl_prepare_113 : decode b_Pl_prepare 113 = .ok (.ldc2_w 83, 3) := by decide +kernel
theorem d_Pl_prepare_116 : decode b_Pl_prepare 116 = .ok (.lmul, 1) := by decide +kernel
theorem d_Pl_prepare_117 : decode b_Pl_prepare 117 = .ok (.putfield 79, 3) := by decide +kernel
theorem d_Pl_prepare_120 : decode b_Pl_prepare 120 = .ok (.aload_n 0, 1) := by decide +kernel
theorem d_Pl_prepare_121 : decode b_Pl_prepare 121 = .ok (.getfield 21, 3) := by decide +kernel
theorem d_Pl_prepare_124 : decode b_Pl_prepare 124 = .ok (.iload_n 2, 1) := by decide +kernel
theorem d_Pl_prepare_125 : decode b_Pl_prepare 125 = .ok (.aload_n 1, 1) := by decide +kernel
theorem d_Pl_prepare_126 : decode b_Pl_prepare 126 = .ok (.iconst 0, 1) := by decide +kernel
theorem d_Pl_prepare_127 : decode b_Pl_prepare 127 = .ok (.iconst 1, 1) := by decide +kernel
theorem d_Pl_prepare_128 : decode b_Pl_prepare 128 = .ok (.iload_n 2, 1) := by decide +kernel
theorem d_Pl_prepare_129 : decode b_Pl_prepare 129 = .ok (.ishl, 1) := by decide +kernel
theorem d_Pl_prepare_130 : decode b_Pl_prepare 130 = .ok (.invokevirtual 85, 3) := by decide +kernel
theorem d_Pl_prepare_133 : decode b_Pl_prepare 133 = .ok (.sipush 4753, 3) := by decide +kernel
theorem d_Pl_prepare_136 : decode b_Pl_prepare 136 = .ok (.imul, 1) := by decide +kernel
theorem d_Pl_prepare_137 : decode b_Pl_prepare 137 = .ok (.iastore, 1) := by decide +kernel
theorem d_Pl_prepare_138 : decode b_Pl_prepare 138 = .ok (.aload_n 0, 1) := by decide +kernel
theorem d_Pl_prepare_139 : decode b_Pl_prepare 139 = .ok (.getfield 21, 3) := by decide +kernel
theorem d_Pl_prepare_142 : decode b_Pl_prepare 142 = .ok (.bipush 24, 2) := by decide +kernel
theorem d_Pl_prepare_144 : decode b_Pl_prepare 144 = .ok (.iload_n 2, 1) := by decide +kernel
theorem d_Pl_prepare_145 : decode b_Pl_prepare 145 = .ok (.iadd, 1) := by decide +kernel
theorem d_Pl_prepare_146 : decode b_Pl_prepare 146 = .ok (.aload_n 1, 1) := by decide +kernel
theorem d_Pl_prepare_147 : decode b_Pl_prepare 147 = .ok (.iconst 1, 1) := by decide +kernel
theorem d_Pl_prepare_148 : decode b_Pl_prepare 148 = .ok (.iconst 1, 1) := by decide +kernel
theorem d_Pl_prepare_149 : decode b_Pl_prepare 149 = .ok (.iload_n 2, 1) := by decide +kernel
theorem d_Pl_prepare_150 : decode b_Pl_prepare 150 = .ok (.ishl, 1) := by decide +kernel
theorem d_Pl_prepare_151 : decode b_Pl_prepare 151 = .ok (.invokevirtual 85, 3) := by decide +kernel
theorem d_Pl_prepare_154 : decode b_Pl_prepare 154 = .ok (.sipush 4753, 3) := by decide +kernel
theorem d_Pl_prepare_157 : decode b_Pl_prepare 157 = .ok (.imul, 1) := by decide +kernel
theorem d_Pl_prepare_158 : decode b_Pl_prepare 158 = .ok (.iastore, 1) := by decide +kernel
theorem d_Pl_prepare_159 : decode b_Pl_prepare 159 = .ok (.aload_n 0, 1) := by decide +kernel
theorem d_Pl_prepare_160 : decode b_Pl_prepare 160 = .ok (.getfield 25, 3) := by decide +kernel
theorem d_Pl_prepare_163 : decode b_Pl_prepare 163 = .ok (.iload_n 2, 1) := by decide +kernel
theorem d_Pl_prepare_164 : decode b_Pl_prepare 164 = .ok (.aload_n 1, 1) := by decide +kernel
theorem d_Pl_prepare_165 : decode b_Pl_prepare 165 = .ok (.iload_n 2, 1) := by decide +kernel
theorem d_Pl_prepare_166 : decode b_Pl_prepare 166 = .ok (.invokevirtual 88, 3) := by decide +kernel
theorem d_Pl_prepare_169 : decode b_Pl_prepare 169 = .ok (.iastore, 1) := by decide +kernel
theorem d_Pl_prepare_170 : decode b_Pl_prepare 170 = .ok (.iinc 2 (-1), 3) := by decide +kernel
theorem d_Pl_prepare_173 : decode b_Pl_prepare 173 = .ok (.goto (-79), 3) := by decide +kernel
theorem d_Pl_prepare_176 : decode b_Pl_prepare 176 = .ok (.return_, 1) := by decide +kernel
theorem d_Ld_worthOf_0 : decode b_Ld_worthOf 0 = .ok (.iconst 0, 1) := by decide +kernel
theorem d_Ld_worthOf_1 : decode b_Ld_worthOf 1 = .ok (.istore_n 3, 1) := by decide +kernel
theorem d_Ld_worthOf_2 : decode b_Ld_worthOf 2 = .ok (.iconst 0, 1) := by decide +kernel
theorem d_Ld_worthOf_3 : decode b_Ld_worthOf 3 = .ok (.istore 4, 2) := by decide +kernel
theorem d_Ld_worthOf_5 : decode b_Ld_worthOf 5 = .ok (.iload 4, 2) := by decide +kernel
theorem d_Ld_worthOf_7 : decode b_Ld_worthOf 7 = .ok (.aload_n 0, 1) := by decide +kernel
theorem d_Ld_worthOf_8 : decode b_Ld_worthOf 8 = .ok (.getfield 9, 3) := by decide +kernel
theorem d_Ld_worthOf_11 : decode b_Ld_worthOf 11 = .ok (.if_icmp .ge 68, 3) := by decide +kernel
theorem d_Ld_worthOf_14 : decode b_Ld_worthOf 14 = .ok (.iload_n 2, 1) := by decide +kernel
theorem d_Ld_worthOf_15 : decode b_Ld_worthOf 15 = .ok (.iload 4, 2) := by decide +kernel
theorem d_Ld_worthOf_17 : decode b_Ld_worthOf 17 = .ok (.ishr, 1) := by decide +kernel
theorem d_Ld_worthOf_18 : decode b_Ld_worthOf 18 = .ok (.iconst 1, 1) := by decide +kernel
theorem d_Ld_worthOf_19 : decode b_Ld_worthOf 19 = .ok (.iand, 1) := by decide +kernel
theorem d_Ld_worthOf_20 : decode b_Ld_worthOf 20 = .ok (.iconst 1, 1) := by decide +kernel
theorem d_Ld_worthOf_21 : decode b_Ld_worthOf 21 = .ok (.if_icmp .ne 52, 3) := by decide +kernel
theorem d_Ld_worthOf_24 : decode b_Ld_worthOf 24 = .ok (.iconst 0, 1) := by decide +kernel
theorem d_Ld_worthOf_25 : decode b_Ld_worthOf 25 = .ok (.istore 5, 2) := by decide +kernel
theorem d_Ld_worthOf_27 : decode b_Ld_worthOf 27 = .ok (.iload 5, 2) := by decide +kernel
theorem d_Ld_worthOf_29 : decode b_Ld_worthOf 29 = .ok (.aload_n 0, 1) := by decide +kernel
theorem d_Ld_worthOf_30 : decode b_Ld_worthOf 30 = .ok (.getfield 49, 3) := by decide +kernel
theorem d_Ld_worthOf_33 : decode b_Ld_worthOf 33 = .ok (.if_icmp .ge 40, 3) := by decide +kernel
theorem d_Ld_worthOf_36 : decode b_Ld_worthOf 36 = .ok (.iload_n 3, 1) := by decide +kernel
theorem d_Ld_worthOf_37 : decode b_Ld_worthOf 37 = .ok (.aload_n 0, 1) := by decide +kernel
theorem d_Ld_worthOf_38 : decode b_Ld_worthOf 38 = .ok (.getfield 21, 3) := by decide +kernel
theorem d_Ld_worthOf_41 : decode b_Ld_worthOf 41 = .ok (.iload 5, 2) := by decide +kernel
theorem d_Ld_worthOf_43 : decode b_Ld_worthOf 43 = .ok (.iaload, 1) := by decide +kernel
theorem d_Ld_worthOf_44 : decode b_Ld_worthOf 44 = .ok (.iload_n 1, 1) := by decide +kernel
theorem d_Ld_worthOf_45 : decode b_Ld_worthOf 45 = .ok (.if_icmp .ne 19, 3) := by decide +kernel
theorem d_Ld_worthOf_48 : decode b_Ld_worthOf 48 = .ok (.aload_n 0, 1) := by decide +kernel
theorem d_Ld_worthOf_49 : decode b_Ld_worthOf 49 = .ok (.getfield 31, 3) := by decide +kernel
theorem d_Ld_worthOf_52 : decode b_Ld_worthOf 52 = .ok (.iload 5, 2) := by decide +kernel
theorem d_Ld_worthOf_54 : decode b_Ld_worthOf 54 = .ok (.bipush 24, 2) := by decide +kernel
theorem d_Ld_worthOf_56 : decode b_Ld_worthOf 56 = .ok (.imul, 1) := by decide +kernel
theorem d_Ld_worthOf_57 : decode b_Ld_worthOf 57 = .ok (.iload 4, 2) := by decide +kernel
theorem d_Ld_worthOf_59 : decode b_Ld_worthOf 59 = .ok (.iadd, 1) := by decide +kernel
theorem d_Ld_worthOf_60 : decode b_Ld_worthOf 60 = .ok (.iaload, 1) := by decide +kernel
theorem d_Ld_worthOf_61 : decode b_Ld_worthOf 61 = .ok (.goto 4, 3) := by decide +kernel
theorem d_Ld_worthOf_64 : decode b_Ld_worthOf 64 = .ok (.iconst 0, 1) := by decide +kernel
theorem d_Ld_worthOf_65 : decode b_Ld_worthOf 65 = .ok (.iadd, 1) := by decide +kernel
theorem d_Ld_worthOf_66 : decode b_Ld_worthOf 66 = .ok (.istore_n 3, 1) := by decide +kernel
theorem d_Ld_worthOf_67 : decode b_Ld_worthOf 67 = .ok (.iinc 5 1, 3) := by decide +kernel
theorem d_Ld_worthOf_70 : decode b_Ld_worthOf 70 = .ok (.goto (-43), 3) := by decide +kernel
theorem d_Ld_worthOf_73 : decode b_Ld_worthOf 73 = .ok (.iinc 4 1, 3) := by decide +kernel
theorem d_Ld_worthOf_76 : decode b_Ld_worthOf 76 = .ok (.goto (-71), 3) := by decide +kernel
theorem d_Ld_worthOf_79 : decode b_Ld_worthOf 79 = .ok (.iload_n 3, 1) := by decide +kernel
theorem d_Ld_worthOf_80 : decode b_Ld_worthOf 80 = .ok (.ireturn, 1) := by decide +kernel
theorem d_Pl_bestFrom_0 : decode b_Pl_bestFrom 0 = .ok (.aload_n 0, 1) := by decide +kernel
theorem d_Pl_bestFrom_1 : decode b_Pl_bestFrom 1 = .ok (.getfield 11, 3) := by decide +kernel
theorem d_Pl_bestFrom_4 : decode b_Pl_bestFrom 4 = .ok (.iconst 0, 1) := by decide +kernel
theorem d_Pl_bestFrom_5 : decode b_Pl_bestFrom 5 = .ok (.aload_n 0, 1) := by decide +kernel
theorem d_Pl_bestFrom_6 : decode b_Pl_bestFrom 6 = .ok (.getfield 76, 3) := by decide +kernel
theorem d_Pl_bestFrom_9 : decode b_Pl_bestFrom 9 = .ok (.ldc2_w 32, 3) := by decide +kernel
theorem d_Pl_bestFrom_12 : decode b_Pl_bestFrom 12 = .ok (.invokestatic 106, 3) := by decide +kernel
theorem d_Pl_bestFrom_15 : decode b_Pl_bestFrom 15 = .ok (.aload_n 0, 1) := by decide +kernel
theorem d_Pl_bestFrom_16 : decode b_Pl_bestFrom 16 = .ok (.getfield 11, 3) := by decide +kernel
theorem d_Pl_bestFrom_19 : decode b_Pl_bestFrom 19 = .ok (.aload_n 0, 1) := by decide +kernel
theorem d_Pl_bestFrom_20 : decode b_Pl_bestFrom 20 = .ok (.iload_n 2, 1) := by decide +kernel
theorem d_Pl_bestFrom_21 : decode b_Pl_bestFrom 21 = .ok (.iload_n 2, 1) := by decide +kernel
theorem d_Pl_bestFrom_22 : decode b_Pl_bestFrom 22 = .ok (.ifCond .ne 7, 3) := by decide +kernel
theorem d_Pl_bestFrom_25 : decode b_Pl_bestFrom 25 = .ok (.iconst 1, 1) := by decide +kernel
theorem d_Pl_bestFrom_26 : decode b_Pl_bestFrom 26 = .ok (.goto 4, 3) := by decide +kernel
theorem d_Pl_bestFrom_29 : decode b_Pl_bestFrom 29 = .ok (.iconst 0, 1) := by decide +kernel
theorem d_Pl_bestFrom_30 : decode b_Pl_bestFrom 30 = .ok (.invokestatic 112, 3) := by decide +kernel
theorem d_Pl_bestFrom_33 : decode b_Pl_bestFrom 33 = .ok (.iconst 0, 1) := by decide +kernel
theorem d_Pl_bestFrom_34 : decode b_Pl_bestFrom 34 = .ok (.invokevirtual 116, 3) := by decide +kernel
theorem d_Pl_bestFrom_37 : decode b_Pl_bestFrom 37 = .ok (.aload_n 0, 1) := by decide +kernel
theorem d_Pl_bestFrom_38 : decode b_Pl_bestFrom 38 = .ok (.iload_n 2, 1) := by decide +kernel
theorem d_Pl_bestFrom_39 : decode b_Pl_bestFrom 39 = .ok (.iconst 0, 1) := by decide +kernel
theorem d_Pl_bestFrom_40 : decode b_Pl_bestFrom 40 = .ok (.invokevirtual 120, 3) := by decide +kernel
theorem d_Pl_bestFrom_43 : decode b_Pl_bestFrom 43 = .ok (.lastore, 1) := by decide +kernel
theorem d_Pl_bestFrom_44 : decode b_Pl_bestFrom 44 = .ok (.iconst 1, 1) := by decide +kernel
theorem d_Pl_bestFrom_45 : decode b_Pl_bestFrom 45 = .ok (.istore_n 3, 1) := by decide +kernel
theorem d_Pl_bestFrom_46 : decode b_Pl_bestFrom 46 = .ok (.iload_n 3, 1) := by decide +kernel
theorem d_Pl_bestFrom_47 : decode b_Pl_bestFrom 47 = .ok (.aload_n 0, 1) := by decide +kernel
theorem d_Pl_bestFrom_48 : decode b_Pl_bestFrom 48 = .ok (.getfield 64, 3) := by decide +kernel
theorem d_Pl_bestFrom_51 : decode b_Pl_bestFrom 51 = .ok (.if_icmp .ge 49, 3) := by decide +kernel
theorem d_Pl_bestFrom_54 : decode b_Pl_bestFrom 54 = .ok (.aload_n 0, 1) := by decide +kernel
theorem d_Pl_bestFrom_55 : decode b_Pl_bestFrom 55 = .ok (.getfield 15, 3) := by decide +kernel
theorem d_Pl_bestFrom_58 : decode b_Pl_bestFrom 58 = .ok (.iconst 0, 1) := by decide +kernel
theorem d_Pl_bestFrom_59 : decode b_Pl_bestFrom 59 = .ok (.aload_n 0, 1) := by decide +kernel
theorem d_Pl_bestFrom_60 : decode b_Pl_bestFrom 60 = .ok (.getfield 76, 3) := by decide +kernel
theorem d_Pl_bestFrom_63 : decode b_Pl_bestFrom 63 = .ok (.ldc2_w 32, 3) := by decide +kernel
theorem d_Pl_bestFrom_66 : decode b_Pl_bestFrom 66 = .ok (.invokestatic 106, 3) := by decide +kernel
theorem d_Pl_bestFrom_69 : decode b_Pl_bestFrom 69 = .ok (.aload_n 0, 1) := by decide +kernel
theorem d_Pl_bestFrom_70 : decode b_Pl_bestFrom 70 = .ok (.iload_n 3, 1) := by decide +kernel
theorem d_Pl_bestFrom_71 : decode b_Pl_bestFrom 71 = .ok (.invokevirtual 124, 3) := by decide +kernel
theorem d_Pl_bestFrom_74 : decode b_Pl_bestFrom 74 = .ok (.aload_n 0, 1) := by decide +kernel
theorem d_Pl_bestFrom_75 : decode b_Pl_bestFrom 75 = .ok (.getfield 11, 3) := by decide +kernel
theorem d_Pl_bestFrom_78 : decode b_Pl_bestFrom 78 = .ok (.astore 4, 2) := by decide +kernel
theorem d_Pl_bestFrom_80 : decode b_Pl_bestFrom 80 = .ok (.aload_n 0, 1) := by decide +kernel
theorem d_Pl_bestFrom_81 : decode b_Pl_bestFrom 81 = .ok (.aload_n 0, 1) := by decide +kernel
theorem d_Pl_bestFrom_82 : decode b_Pl_bestFrom 82 = .ok (.getfield 15, 3) := by decide +kernel
theorem d_Pl_bestFrom_85 : decode b_Pl_bestFrom 85 = .ok (.putfield 11, 3) := by decide +kernel
theorem d_Pl_bestFrom_88 : decode b_Pl_bestFrom 88 = .ok (.aload_n 0, 1) := by decide +kernel
theorem d_Pl_bestFrom_89 : decode b_Pl_bestFrom 89 = .ok (.aload 4, 2) := by decide +kernel
theorem d_Pl_bestFrom_91 : decode b_Pl_bestFrom 91 = .ok (.putfield 15, 3) := by decide +kernel
theorem d_Pl_bestFrom_94 : decode b_Pl_bestFrom 94 = .ok (.iinc 3 1, 3) := by decide +kernel
theorem d_Pl_bestFrom_97 : decode b_Pl_bestFrom 97 = .ok (.goto (-51), 3) := by decide +kernel
theorem d_Pl_bestFrom_100 : decode b_Pl_bestFrom 100 = .ok (.aload_n 0, 1) := by decide +kernel
theorem d_Pl_bestFrom_101 : decode b_Pl_bestFrom 101 = .ok (.aload_n 1, 1) := by decide +kernel
theorem d_Pl_bestFrom_102 : decode b_Pl_bestFrom 102 = .ok (.iload_n 2, 1) := by decide +kernel
theorem d_Pl_bestFrom_103 : decode b_Pl_bestFrom 103 = .ok (.invokevirtual 128, 3) := by decide +kernel
theorem d_Pl_bestFrom_106 : decode b_Pl_bestFrom 106 = .ok (.lreturn, 1) := by decide +kernel
theorem d_JA_fill_2_0 : decode b_JA_fill_2 0 = .ok (.aload_n 0, 1) := by decide +kernel
theorem d_JA_fill_2_1 : decode b_JA_fill_2 1 = .ok (.arraylength, 1) := by decide +kernel
theorem d_JA_fill_2_2 : decode b_JA_fill_2 2 = .ok (.iload_n 1, 1) := by decide +kernel
theorem d_JA_fill_2_3 : decode b_JA_fill_2 3 = .ok (.iload_n 2, 1) := by decide +kernel
theorem d_JA_fill_2_4 : decode b_JA_fill_2 4 = .ok (.invokestatic 13, 3) := by decide +kernel
theorem d_JA_fill_2_7 : decode b_JA_fill_2 7 = .ok (.iload_n 1, 1) := by decide +kernel
theorem d_JA_fill_2_8 : decode b_JA_fill_2 8 = .ok (.istore 5, 2) := by decide +kernel
theorem d_JA_fill_2_10 : decode b_JA_fill_2 10 = .ok (.iload 5, 2) := by decide +kernel
theorem d_JA_fill_2_12 : decode b_JA_fill_2 12 = .ok (.iload_n 2, 1) := by decide +kernel
theorem d_JA_fill_2_13 : decode b_JA_fill_2 13 = .ok (.if_icmp .ge 14, 3) := by decide +kernel
theorem d_JA_fill_2_16 : decode b_JA_fill_2 16 = .ok (.aload_n 0, 1) := by decide +kernel
theorem d_JA_fill_2_17 : decode b_JA_fill_2 17 = .ok (.iload 5, 2) := by decide +kernel
theorem d_JA_fill_2_19 : decode b_JA_fill_2 19 = .ok (.lload_n 3, 1) := by decide +kernel
theorem d_JA_fill_2_20 : decode b_JA_fill_2 20 = .ok (.lastore, 1) := by decide +kernel
theorem d_JA_fill_2_21 : decode b_JA_fill_2 21 = .ok (.iinc 5 1, 3) := by decide +kernel
theorem d_JA_fill_2_24 : decode b_JA_fill_2 24 = .ok (.goto (-14), 3) := by decide +kernel
theorem d_JA_fill_2_27 : decode b_JA_fill_2 27 = .ok (.return_, 1) := by decide +kernel
theorem d_Pl_cell_0 : decode b_Pl_cell 0 = .ok (.iload_n 1, 1) := by decide +kernel
theorem d_Pl_cell_1 : decode b_Pl_cell 1 = .ok (.aload_n 0, 1) := by decide +kernel
theorem d_Pl_cell_2 : decode b_Pl_cell 2 = .ok (.getfield 64, 3) := by decide +kernel
theorem d_Pl_cell_5 : decode b_Pl_cell 5 = .ok (.iconst 1, 1) := by decide +kernel
theorem d_Pl_cell_6 : decode b_Pl_cell 6 = .ok (.iadd, 1) := by decide +kernel
theorem d_Pl_cell_7 : decode b_Pl_cell 7 = .ok (.imul, 1) := by decide +kernel
theorem d_Pl_cell_8 : decode b_Pl_cell 8 = .ok (.iload_n 2, 1) := by decide +kernel
theorem d_Pl_cell_9 : decode b_Pl_cell 9 = .ok (.iadd, 1) := by decide +kernel
theorem d_Pl_cell_10 : decode b_Pl_cell 10 = .ok (.aload_n 0, 1) := by decide +kernel
theorem d_Pl_cell_11 : decode b_Pl_cell 11 = .ok (.getfield 69, 3) := by decide +kernel
theorem d_Pl_cell_14 : decode b_Pl_cell 14 = .ok (.imul, 1) := by decide +kernel
theorem d_Pl_cell_15 : decode b_Pl_cell 15 = .ok (.iload_n 3, 1) := by decide +kernel
theorem d_Pl_cell_16 : decode b_Pl_cell 16 = .ok (.iadd, 1) := by decide +kernel
theorem d_Pl_cell_17 : decode b_Pl_cell 17 = .ok (.ireturn, 1) := by decide +kernel
theorem d_Pl_scoreOf_0 : decode b_Pl_scoreOf 0 = .ok (.iload_n 1, 1) := by decide +kernel
theorem d_Pl_scoreOf_1 : decode b_Pl_scoreOf 1 = .ok (.iconst 1, 1) := by decide +kernel
theorem d_Pl_scoreOf_2 : decode b_Pl_scoreOf 2 = .ok (.if_icmp .le 14, 3) := by decide +kernel
theorem d_Pl_scoreOf_5 : decode b_Pl_scoreOf 5 = .ok (.ldc2_w 152, 3) := by decide +kernel
theorem d_Pl_scoreOf_8 : decode b_Pl_scoreOf 8 = .ok (.aload_n 0, 1) := by decide +kernel
theorem d_Pl_scoreOf_9 : decode b_Pl_scoreOf 9 = .ok (.getfield 18, 3) := by decide +kernel
theorem d_Pl_scoreOf_12 : decode b_Pl_scoreOf 12 = .ok (.iload_n 2, 1) := by decide +kernel
theorem d_Pl_scoreOf_13 : decode b_Pl_scoreOf 13 = .ok (.laload, 1) := by decide +kernel
theorem d_Pl_scoreOf_14 : decode b_Pl_scoreOf 14 = .ok (.lmul, 1) := by decide +kernel
theorem d_Pl_scoreOf_15 : decode b_Pl_scoreOf 15 = .ok (.lreturn, 1) := by decide +kernel
theorem d_Pl_scoreOf_16 : decode b_Pl_scoreOf 16 = .ok (.aload_n 0, 1) := by decide +kernel
theorem d_Pl_scoreOf_17 : decode b_Pl_scoreOf 17 = .ok (.getfield 21, 3) := by decide +kernel
theorem d_Pl_scoreOf_20 : decode b_Pl_scoreOf 20 = .ok (.iload_n 1, 1) := by decide +kernel
theorem d_Pl_scoreOf_21 : decode b_Pl_scoreOf 21 = .ok (.bipush 24, 2) := by decide +kernel
theorem d_Pl_scoreOf_23 : decode b_Pl_scoreOf 23 = .ok (.imul, 1) := by decide +kernel
theorem d_Pl_scoreOf_24 : decode b_Pl_scoreOf 24 = .ok (.iload_n 2, 1) := by decide +kernel
theorem d_Pl_scoreOf_25 : decode b_Pl_scoreOf 25 = .ok (.iadd, 1) := by decide +kernel
theorem d_Pl_scoreOf_26 : decode b_Pl_scoreOf 26 = .ok (.iaload, 1) := by decide +kernel
theorem d_Pl_scoreOf_27 : decode b_Pl_scoreOf 27 = .ok (.i2l, 1) := by decide +kernel
theorem d_Pl_scoreOf_28 : decode b_Pl_scoreOf 28 = .ok (.aload_n 0, 1) := by decide +kernel
theorem d_Pl_scoreOf_29 : decode b_Pl_scoreOf 29 = .ok (.getfield 79, 3) := by decide +kernel
theorem d_Pl_scoreOf_32 : decode b_Pl_scoreOf 32 = .ok (.lmul, 1) := by decide +kernel
theorem d_Pl_scoreOf_33 : decode b_Pl_scoreOf 33 = .ok (.iload_n 1, 1) := by decide +kernel
theorem d_Pl_scoreOf_34 : decode b_Pl_scoreOf 34 = .ok (.i2l, 1) := by decide +kernel
theorem d_Pl_scoreOf_35 : decode b_Pl_scoreOf 35 = .ok (.aload_n 0, 1) := by decide +kernel
theorem d_Pl_scoreOf_36 : decode b_Pl_scoreOf 36 = .ok (.getfield 18, 3) := by decide +kernel
theorem d_Pl_scoreOf_39 : decode b_Pl_scoreOf 39 = .ok (.iload_n 2, 1) := by decide +kernel
theorem d_Pl_scoreOf_40 : decode b_Pl_scoreOf 40 = .ok (.laload, 1) := by decide +kernel
theorem d_Pl_scoreOf_41 : decode b_Pl_scoreOf 41 = .ok (.lmul, 1) := by decide +kernel
theorem d_Pl_scoreOf_42 : decode b_Pl_scoreOf 42 = .ok (.lsub, 1) := by decide +kernel
theorem d_Pl_scoreOf_43 : decode b_Pl_scoreOf 43 = .ok (.lreturn, 1) := by decide +kernel
theorem d_Pl_advance_0 : decode b_Pl_advance 0 = .ok (.iconst 0, 1) := by decide +kernel
theorem d_Pl_advance_1 : decode b_Pl_advance 1 = .ok (.istore_n 2, 1) := by decide +kernel
theorem d_Pl_advance_2 : decode b_Pl_advance 2 = .ok (.iload_n 2, 1) := by decide +kernel
theorem d_Pl_advance_3 : decode b_Pl_advance 3 = .ok (.aload_n 0, 1) := by decide +kernel
theorem d_Pl_advance_4 : decode b_Pl_advance 4 = .ok (.getfield 34, 3) := by decide +kernel
theorem d_Pl_advance_7 : decode b_Pl_advance 7 = .ok (.if_icmp .ge 96, 3) := by decide +kernel
theorem d_Pl_advance_10 : decode b_Pl_advance 10 = .ok (.iconst 0, 1) := by decide +kernel
theorem d_Pl_advance_11 : decode b_Pl_advance 11 = .ok (.istore_n 3, 1) := by decide +kernel
theorem d_Pl_advance_12 : decode b_Pl_advance 12 = .ok (.iload_n 3, 1) := by decide +kernel
theorem d_Pl_advance_13 : decode b_Pl_advance 13 = .ok (.iload_n 1, 1) := by decide +kernel
theorem d_Pl_advance_14 : decode b_Pl_advance 14 = .ok (.if_icmp .gt 83, 3) := by decide +kernel
theorem d_Pl_advance_17 : decode b_Pl_advance 17 = .ok (.iconst 0, 1) := by decide +kernel
theorem d_Pl_advance_18 : decode b_Pl_advance 18 = .ok (.istore 4, 2) := by decide +kernel
theorem d_Pl_advance_20 : decode b_Pl_advance 20 = .ok (.iload 4, 2) := by decide +kernel
theorem d_Pl_advance_22 : decode b_Pl_advance 22 = .ok (.aload_n 0, 1) := by decide +kernel
theorem d_Pl_advance_23 : decode b_Pl_advance 23 = .ok (.getfield 69, 3) := by decide +kernel
theorem d_Pl_advance_26 : decode b_Pl_advance 26 = .ok (.if_icmp .ge 65, 3) := by decide +kernel
theorem d_Pl_advance_29 : decode b_Pl_advance 29 = .ok (.aload_n 0, 1) := by decide +kernel
theorem d_Pl_advance_30 : decode b_Pl_advance 30 = .ok (.getfield 11, 3) := by decide +kernel
theorem d_Pl_advance_33 : decode b_Pl_advance 33 = .ok (.aload_n 0, 1) := by decide +kernel
theorem d_Pl_advance_34 : decode b_Pl_advance 34 = .ok (.iload_n 2, 1) := by decide +kernel
theorem d_Pl_advance_35 : decode b_Pl_advance 35 = .ok (.iload_n 3, 1) := by decide +kernel
theorem d_Pl_advance_36 : decode b_Pl_advance 36 = .ok (.iload 4, 2) := by decide +kernel
theorem d_Pl_advance_38 : decode b_Pl_advance 38 = .ok (.invokevirtual 116, 3) := by decide +kernel
theorem d_Pl_advance_41 : decode b_Pl_advance 41 = .ok (.laload, 1) := by decide +kernel
theorem d_Pl_advance_42 : decode b_Pl_advance 42 = .ok (.lstore 5, 2) := by decide +kernel
theorem d_Pl_advance_44 : decode b_Pl_advance 44 = .ok (.lload 5, 2) := by decide +kernel
theorem d_Pl_advance_46 : decode b_Pl_advance 46 = .ok (.ldc2_w 32, 3) := by decide +kernel
theorem d_Pl_advance_49 : decode b_Pl_advance 49 = .ok (.lcmp, 1) := by decide +kernel
theorem d_Pl_advance_50 : decode b_Pl_advance 50 = .ok (.ifCond .eq 35, 3) := by decide +kernel
theorem d_Pl_advance_53 : decode b_Pl_advance 53 = .ok (.aload_n 0, 1) := by decide +kernel
theorem d_Pl_advance_54 : decode b_Pl_advance 54 = .ok (.aload_n 0, 1) := by decide +kernel
theorem d_Pl_advance_55 : decode b_Pl_advance 55 = .ok (.iload_n 2, 1) := by decide +kernel
theorem d_Pl_advance_56 : decode b_Pl_advance 56 = .ok (.invokevirtual 131, 3) := by decide +kernel
theorem d_Pl_advance_59 : decode b_Pl_advance 59 = .ok (.iload_n 2, 1) := by decide +kernel
theorem d_Pl_advance_60 : decode b_Pl_advance 60 = .ok (.iload_n 3, 1) := by decide +kernel
theorem d_Pl_advance_61 : decode b_Pl_advance 61 = .ok (.iload 4, 2) := by decide +kernel
theorem d_Pl_advance_63 : decode b_Pl_advance 63 = .ok (.lload 5, 2) := by decide +kernel
theorem d_Pl_advance_65 : decode b_Pl_advance 65 = .ok (.iload_n 1, 1) := by decide +kernel
theorem d_Pl_advance_66 : decode b_Pl_advance 66 = .ok (.invokevirtual 134, 3) := by decide +kernel
theorem d_Pl_advance_69 : decode b_Pl_advance 69 = .ok (.aload_n 0, 1) := by decide +kernel
theorem d_Pl_advance_70 : decode b_Pl_advance 70 = .ok (.aload_n 0, 1) := by decide +kernel
theorem d_Pl_advance_71 : decode b_Pl_advance 71 = .ok (.iload_n 2, 1) := by decide +kernel
theorem d_Pl_advance_72 : decode b_Pl_advance 72 = .ok (.invokevirtual 138, 3) := by decide +kernel
theorem d_Pl_advance_75 : decode b_Pl_advance 75 = .ok (.iload_n 2, 1) := by decide +kernel
theorem d_Pl_advance_76 : decode b_Pl_advance 76 = .ok (.iload_n 3, 1) := by decide +kernel
theorem d_Pl_advance_77 : decode b_Pl_advance 77 = .ok (.iload 4, 2) := by decide +kernel
theorem d_Pl_advance_79 : decode b_Pl_advance 79 = .ok (.lload 5, 2) := by decide +kernel
theorem d_Pl_advance_81 : decode b_Pl_advance 81 = .ok (.iload_n 1, 1) := by decide +kernel
theorem d_Pl_advance_82 : decode b_Pl_advance 82 = .ok (.invokevirtual 134, 3) := by decide +kernel
theorem d_Pl_advance_85 : decode b_Pl_advance 85 = .ok (.iinc 4 1, 3) := by decide +kernel
theorem d_Pl_advance_88 : decode b_Pl_advance 88 = .ok (.goto (-68), 3) := by decide +kernel
theorem d_Pl_advance_91 : decode b_Pl_advance 91 = .ok (.iinc 3 1, 3) := by decide +kernel
theorem d_Pl_advance_94 : decode b_Pl_advance 94 = .ok (.goto (-82), 3) := by decide +kernel
theorem d_Pl_advance_97 : decode b_Pl_advance 97 = .ok (.iinc 2 1, 3) := by decide +kernel
theorem d_Pl_advance_100 : decode b_Pl_advance 100 = .ok (.goto (-98), 3) := by decide +kernel
theorem d_Pl_advance_103 : decode b_Pl_advance 103 = .ok (.return_, 1) := by decide +kernel
theorem d_Pl_onward_0 : decode b_Pl_onward 0 = .ok (.iload_n 1, 1) := by decide +kernel
theorem d_Pl_onward_1 : decode b_Pl_onward 1 = .ok (.iconst 1, 1) := by decide +kernel
theorem d_Pl_onward_2 : decode b_Pl_onward 2 = .ok (.if_icmp .gt 5, 3) := by decide +kernel
theorem d_Pl_onward_5 : decode b_Pl_onward 5 = .ok (.iload_n 1, 1) := by decide +kernel
theorem d_Pl_onward_6 : decode b_Pl_onward 6 = .ok (.ireturn, 1) := by decide +kernel
theorem d_Pl_onward_7 : decode b_Pl_onward 7 = .ok (.iload_n 1, 1) := by decide +kernel
theorem d_Pl_onward_8 : decode b_Pl_onward 8 = .ok (.iconst 1, 1) := by decide +kernel
theorem d_Pl_onward_9 : decode b_Pl_onward 9 = .ok (.aload_n 0, 1) := by decide +kernel
theorem d_Pl_onward_10 : decode b_Pl_onward 10 = .ok (.getfield 68, 3) := by decide +kernel
theorem d_Pl_onward_13 : decode b_Pl_onward 13 = .ok (.iadd, 1) := by decide +kernel
theorem d_Pl_onward_14 : decode b_Pl_onward 14 = .ok (.if_icmp .ne 5, 3) := by decide +kernel
theorem d_Pl_onward_17 : decode b_Pl_onward 17 = .ok (.iconst 1, 1) := by decide +kernel
theorem d_Pl_onward_18 : decode b_Pl_onward 18 = .ok (.ireturn, 1) := by decide +kernel
theorem d_Pl_onward_19 : decode b_Pl_onward 19 = .ok (.iload_n 1, 1) := by decide +kernel
theorem d_Pl_onward_20 : decode b_Pl_onward 20 = .ok (.iconst 1, 1) := by decide +kernel
theorem d_Pl_onward_21 : decode b_Pl_onward 21 = .ok (.iconst 2, 1) := by decide +kernel
theorem d_Pl_onward_22 : decode b_Pl_onward 22 = .ok (.aload_n 0, 1) := by decide +kernel
theorem d_Pl_onward_23 : decode b_Pl_onward 23 = .ok (.getfield 68, 3) := by decide +kernel
theorem d_Pl_onward_26 : decode b_Pl_onward 26 = .ok (.imul, 1) := by decide +kernel
theorem d_Pl_onward_27 : decode b_Pl_onward 27 = .ok (.iadd, 1) := by decide +kernel
theorem d_Pl_onward_28 : decode b_Pl_onward 28 = .ok (.if_icmp .ne 7, 3) := by decide +kernel
theorem d_Pl_onward_31 : decode b_Pl_onward 31 = .ok (.iconst 0, 1) := by decide +kernel
theorem d_Pl_onward_32 : decode b_Pl_onward 32 = .ok (.goto 6, 3) := by decide +kernel
theorem d_Pl_onward_35 : decode b_Pl_onward 35 = .ok (.iload_n 1, 1) := by decide +kernel
theorem d_Pl_onward_36 : decode b_Pl_onward 36 = .ok (.iconst 1, 1) := by decide +kernel
theorem d_Pl_onward_37 : decode b_Pl_onward 37 = .ok (.iadd, 1) := by decide +kernel
theorem d_Pl_onward_38 : decode b_Pl_onward 38 = .ok (.ireturn, 1) := by decide +kernel
theorem d_Pl_enter_0 : decode b_Pl_enter 0 = .ok (.iload_n 1, 1) := by decide +kernel
theorem d_Pl_enter_1 : decode b_Pl_enter 1 = .ok (.iconst (-1), 1) := by decide +kernel
theorem d_Pl_enter_2 : decode b_Pl_enter 2 = .ok (.if_icmp .ne 4, 3) := by decide +kernel
theorem d_Pl_enter_5 : decode b_Pl_enter 5 = .ok (.return_, 1) := by decide +kernel
theorem d_Pl_enter_6 : decode b_Pl_enter 6 = .ok (.iload_n 2, 1) := by decide +kernel
theorem d_Pl_enter_7 : decode b_Pl_enter 7 = .ok (.iload_n 1, 1) := by decide +kernel
theorem d_Pl_enter_8 : decode b_Pl_enter 8 = .ok (.invokestatic 141, 3) := by decide +kernel
theorem d_Pl_enter_11 : decode b_Pl_enter 11 = .ok (.istore 8, 2) := by decide +kernel
theorem d_Pl_enter_13 : decode b_Pl_enter 13 = .ok (.iload_n 3, 1) := by decide +kernel
theorem d_Pl_enter_14 : decode b_Pl_enter 14 = .ok (.iload_n 1, 1) := by decide +kernel
theorem d_Pl_enter_15 : decode b_Pl_enter 15 = .ok (.ifCond .ne 7, 3) := by decide +kernel
theorem d_Pl_enter_18 : decode b_Pl_enter 18 = .ok (.iconst 1, 1) := by decide +kernel
theorem d_Pl_enter_19 : decode b_Pl_enter 19 = .ok (.goto 4, 3) := by decide +kernel
theorem d_Pl_enter_22 : decode b_Pl_enter 22 = .ok (.iconst 0, 1) := by decide +kernel
theorem d_Pl_enter_23 : decode b_Pl_enter 23 = .ok (.invokestatic 112, 3) := by decide +kernel
theorem d_Pl_enter_26 : decode b_Pl_enter 26 = .ok (.iadd, 1) := by decide +kernel
theorem d_Pl_enter_27 : decode b_Pl_enter 27 = .ok (.istore 9, 2) := by decide +kernel
theorem d_Pl_enter_29 : decode b_Pl_enter 29 = .ok (.iload 4, 2) := by decide +kernel
theorem d_Pl_enter_31 : decode b_Pl_enter 31 = .ok (.iload 8, 2) := by decide +kernel
theorem d_Pl_enter_33 : decode b_Pl_enter 33 = .ok (.ifCond .eq 14, 3) := by decide +kernel
theorem d_Pl_enter_36 : decode b_Pl_enter 36 = .ok (.aload_n 0, 1) := by decide +kernel
theorem d_Pl_enter_37 : decode b_Pl_enter 37 = .ok (.getfield 68, 3) := by decide +kernel
theorem d_Pl_enter_40 : decode b_Pl_enter 40 = .ok (.ifCond .le 7, 3) := by decide +kernel
theorem d_Pl_enter_43 : decode b_Pl_enter 43 = .ok (.iconst 1, 1) := by decide +kernel
theorem d_Pl_enter_44 : decode b_Pl_enter 44 = .ok (.goto 4, 3) := by decide +kernel
theorem d_Pl_enter_47 : decode b_Pl_enter 47 = .ok (.iconst 0, 1) := by decide +kernel
theorem d_Pl_enter_48 : decode b_Pl_enter 48 = .ok (.invokestatic 112, 3) := by decide +kernel
theorem d_Pl_enter_51 : decode b_Pl_enter 51 = .ok (.iadd, 1) := by decide +kernel
theorem d_Pl_enter_52 : decode b_Pl_enter 52 = .ok (.istore 10, 2) := by decide +kernel
theorem d_Pl_enter_54 : decode b_Pl_enter 54 = .ok (.iload 10, 2) := by decide +kernel
theorem d_Pl_enter_56 : decode b_Pl_enter 56 = .ok (.aload_n 0, 1) := by decide +kernel
theorem d_Pl_enter_57 : decode b_Pl_enter 57 = .ok (.getfield 69, 3) := by decide +kernel
theorem d_Pl_enter_60 : decode b_Pl_enter 60 = .ok (.if_icmp .ge 12, 3) := by decide +kernel
theorem d_Pl_enter_63 : decode b_Pl_enter 63 = .ok (.iload 9, 2) := by decide +kernel
theorem d_Pl_enter_65 : decode b_Pl_enter 65 = .ok (.aload_n 0, 1) := by decide +kernel
theorem d_Pl_enter_66 : decode b_Pl_enter 66 = .ok (.getfield 64, 3) := by decide +kernel
theorem d_Pl_enter_69 : decode b_Pl_enter 69 = .ok (.if_icmp .le 4, 3) := by decide +kernel
theorem d_Pl_enter_72 : decode b_Pl_enter 72 = .ok (.return_, 1) := by decide +kernel
theorem d_Pl_enter_73 : decode b_Pl_enter 73 = .ok (.aload_n 0, 1) := by decide +kernel
theorem d_Pl_enter_74 : decode b_Pl_enter 74 = .ok (.iload_n 1, 1) := by decide +kernel
theorem d_Pl_enter_75 : decode b_Pl_enter 75 = .ok (.iload 9, 2) := by decide +kernel
theorem d_Pl_enter_77 : decode b_Pl_enter 77 = .ok (.iload 10, 2) := by decide +kernel
theorem d_Pl_enter_79 : decode b_Pl_enter 79 = .ok (.invokevirtual 116, 3) := by decide +kernel
theorem d_Pl_enter_82 : decode b_Pl_enter 82 = .ok (.istore 11, 2) := by decide +kernel
theorem d_Pl_enter_84 : decode b_Pl_enter 84 = .ok (.lload 5, 2) := by decide +kernel
theorem d_Pl_enter_86 : decode b_Pl_enter 86 = .ok (.aload_n 0, 1) := by decide +kernel
theorem d_Pl_enter_87 : decode b_Pl_enter 87 = .ok (.iload_n 1, 1) := by decide +kernel
theorem d_Pl_enter_88 : decode b_Pl_enter 88 = .ok (.iload 7, 2) := by decide +kernel
theorem d_Pl_enter_90 : decode b_Pl_enter 90 = .ok (.invokevirtual 120, 3) := by decide +kernel
theorem d_Pl_enter_93 : decode b_Pl_enter 93 = .ok (.ladd, 1) := by decide +kernel
theorem d_Pl_enter_94 : decode b_Pl_enter 94 = .ok (.iload 8, 2) := by decide +kernel
theorem d_Pl_enter_96 : decode b_Pl_enter 96 = .ok (.ifCond .eq 19, 3) := by decide +kernel
theorem d_Pl_enter_99 : decode b_Pl_enter 99 = .ok (.aload_n 0, 1) := by decide +kernel
theorem d_Pl_enter_100 : decode b_Pl_enter 100 = .ok (.getfield 25, 3) := by decide +kernel
theorem d_Pl_enter_103 : decode b_Pl_enter 103 = .ok (.iload 7, 2) := by decide +kernel
theorem d_Pl_enter_105 : decode b_Pl_enter 105 = .ok (.iaload, 1) := by decide +kernel
theorem d_Pl_enter_106 : decode b_Pl_enter 106 = .ok (.i2l, 1) := by decide +kernel
theorem d_Pl_enter_107 : decode b_Pl_enter 107 = .ok (.aload_n 0, 1) := by decide +kernel
theorem d_Pl_enter_108 : decode b_Pl_enter 108 = .ok (.getfield 79, 3) := by decide +kernel
theorem d_Pl_enter_111 : decode b_Pl_enter 111 = .ok (.lmul, 1) := by decide +kernel
theorem d_Pl_enter_112 : decode b_Pl_enter 112 = .ok (.goto 4, 3) := by decide +kernel
theorem d_Pl_enter_115 : decode b_Pl_enter 115 = .ok (.lconst 0, 1) := by decide +kernel
theorem d_Pl_enter_116 : decode b_Pl_enter 116 = .ok (.lsub, 1) := by decide +kernel
theorem d_Pl_enter_117 : decode b_Pl_enter 117 = .ok (.lstore 12, 2) := by decide +kernel
theorem d_Pl_enter_119 : decode b_Pl_enter 119 = .ok (.aload_n 0, 1) := by decide +kernel
theorem d_Pl_enter_120 : decode b_Pl_enter 120 = .ok (.getfield 15, 3) := by decide +kernel
theorem d_Pl_enter_123 : decode b_Pl_enter 123 = .ok (.iload 11, 2) := by decide +kernel
theorem d_Pl_enter_125 : decode b_Pl_enter 125 = .ok (.aload_n 0, 1) := by decide +kernel
theorem d_Pl_enter_126 : decode b_Pl_enter 126 = .ok (.getfield 15, 3) := by decide +kernel
theorem d_Pl_enter_129 : decode b_Pl_enter 129 = .ok (.iload 11, 2) := by decide +kernel
theorem d_Pl_enter_131 : decode b_Pl_enter 131 = .ok (.laload, 1) := by decide +kernel
theorem d_Pl_enter_132 : decode b_Pl_enter 132 = .ok (.lload 12, 2) := by decide +kernel
theorem d_Pl_enter_134 : decode b_Pl_enter 134 = .ok (.invokestatic 42, 3) := by decide +kernel
theorem d_Pl_enter_137 : decode b_Pl_enter 137 = .ok (.lastore, 1) := by decide +kernel
theorem d_Pl_enter_138 : decode b_Pl_enter 138 = .ok (.return_, 1) := by decide +kernel
theorem d_Pl_isArrival_0 : decode b_Pl_isArrival 0 = .ok (.iload_n 1, 1) := by decide +kernel
theorem d_Pl_isArrival_1 : decode b_Pl_isArrival 1 = .ok (.iconst 1, 1) := by decide +kernel
theorem d_Pl_isArrival_2 : decode b_Pl_isArrival 2 = .ok (.if_icmp .gt 12, 3) := by decide +kernel
theorem d_Pl_isArrival_5 : decode b_Pl_isArrival 5 = .ok (.iload_n 0, 1) := by decide +kernel
theorem d_Pl_isArrival_6 : decode b_Pl_isArrival 6 = .ok (.iload_n 1, 1) := by decide +kernel
theorem d_Pl_isArrival_7 : decode b_Pl_isArrival 7 = .ok (.if_icmp .eq 7, 3) := by decide +kernel
theorem d_Pl_isArrival_10 : decode b_Pl_isArrival 10 = .ok (.iconst 1, 1) := by decide +kernel
theorem d_Pl_isArrival_11 : decode b_Pl_isArrival 11 = .ok (.goto 4, 3) := by decide +kernel
theorem d_Pl_isArrival_14 : decode b_Pl_isArrival 14 = .ok (.iconst 0, 1) := by decide +kernel
theorem d_Pl_isArrival_15 : decode b_Pl_isArrival 15 = .ok (.ireturn, 1) := by decide +kernel
theorem d_JM_max_1_0 : decode b_JM_max_1 0 = .ok (.lload_n 0, 1) := by decide +kernel
theorem d_JM_max_1_1 : decode b_JM_max_1 1 = .ok (.lload_n 2, 1) := by decide +kernel
theorem d_JM_max_1_2 : decode b_JM_max_1 2 = .ok (.lcmp, 1) := by decide +kernel
theorem d_JM_max_1_3 : decode b_JM_max_1 3 = .ok (.ifCond .lt 7, 3) := by decide +kernel
theorem d_JM_max_1_6 : decode b_JM_max_1 6 = .ok (.lload_n 0, 1) := by decide +kernel
theorem d_JM_max_1_7 : decode b_JM_max_1 7 = .ok (.goto 4, 3) := by decide +kernel
theorem d_JM_max_1_10 : decode b_JM_max_1 10 = .ok (.lload_n 2, 1) := by decide +kernel
theorem d_JM_max_1_11 : decode b_JM_max_1 11 = .ok (.lreturn, 1) := by decide +kernel
theorem d_Pl_leaving_0 : decode b_Pl_leaving 0 = .ok (.iload_n 1, 1) := by decide +kernel
theorem d_Pl_leaving_1 : decode b_Pl_leaving 1 = .ok (.iconst 1, 1) := by decide +kernel
theorem d_Pl_leaving_2 : decode b_Pl_leaving 2 = .ok (.if_icmp .le 5, 3) := by decide +kernel
theorem d_Pl_leaving_5 : decode b_Pl_leaving 5 = .ok (.iconst (-1), 1) := by decide +kernel
theorem d_Pl_leaving_6 : decode b_Pl_leaving 6 = .ok (.ireturn, 1) := by decide +kernel
theorem d_Pl_leaving_7 : decode b_Pl_leaving 7 = .ok (.aload_n 0, 1) := by decide +kernel
theorem d_Pl_leaving_8 : decode b_Pl_leaving 8 = .ok (.getfield 68, 3) := by decide +kernel
theorem d_Pl_leaving_11 : decode b_Pl_leaving 11 = .ok (.ifCond .ne 9, 3) := by decide +kernel
theorem d_Pl_leaving_14 : decode b_Pl_leaving 14 = .ok (.iconst 1, 1) := by decide +kernel
theorem d_Pl_leaving_15 : decode b_Pl_leaving 15 = .ok (.iload_n 1, 1) := by decide +kernel
theorem d_Pl_leaving_16 : decode b_Pl_leaving 16 = .ok (.isub, 1) := by decide +kernel
theorem d_Pl_leaving_17 : decode b_Pl_leaving 17 = .ok (.goto 11, 3) := by decide +kernel
theorem d_Pl_leaving_20 : decode b_Pl_leaving 20 = .ok (.iconst 2, 1) := by decide +kernel
theorem d_Pl_leaving_21 : decode b_Pl_leaving 21 = .ok (.iload_n 1, 1) := by decide +kernel
theorem d_Pl_leaving_22 : decode b_Pl_leaving 22 = .ok (.aload_n 0, 1) := by decide +kernel
theorem d_Pl_leaving_23 : decode b_Pl_leaving 23 = .ok (.getfield 68, 3) := by decide +kernel
theorem d_Pl_leaving_26 : decode b_Pl_leaving 26 = .ok (.imul, 1) := by decide +kernel
theorem d_Pl_leaving_27 : decode b_Pl_leaving 27 = .ok (.iadd, 1) := by decide +kernel
theorem d_Pl_leaving_28 : decode b_Pl_leaving 28 = .ok (.ireturn, 1) := by decide +kernel
theorem d_Pl_bestClosed_0 : decode b_Pl_bestClosed 0 = .ok (.ldc2_w 32, 3) := by decide +kernel
theorem d_Pl_bestClosed_3 : decode b_Pl_bestClosed 3 = .ok (.lstore_n 3, 1) := by decide +kernel
theorem d_Pl_bestClosed_4 : decode b_Pl_bestClosed 4 = .ok (.iconst 0, 1) := by decide +kernel
theorem d_Pl_bestClosed_5 : decode b_Pl_bestClosed 5 = .ok (.istore 5, 2) := by decide +kernel
theorem d_Pl_bestClosed_7 : decode b_Pl_bestClosed 7 = .ok (.iload 5, 2) := by decide +kernel
theorem d_Pl_bestClosed_9 : decode b_Pl_bestClosed 9 = .ok (.aload_n 0, 1) := by decide +kernel
theorem d_Pl_bestClosed_10 : decode b_Pl_bestClosed 10 = .ok (.getfield 34, 3) := by decide +kernel
theorem d_Pl_bestClosed_13 : decode b_Pl_bestClosed 13 = .ok (.if_icmp .ge 62, 3) := by decide +kernel
theorem d_Pl_bestClosed_16 : decode b_Pl_bestClosed 16 = .ok (.aload_n 0, 1) := by decide +kernel
theorem d_Pl_bestClosed_17 : decode b_Pl_bestClosed 17 = .ok (.iload 5, 2) := by decide +kernel
theorem d_Pl_bestClosed_19 : decode b_Pl_bestClosed 19 = .ok (.invokevirtual 131, 3) := by decide +kernel
theorem d_Pl_bestClosed_22 : decode b_Pl_bestClosed 22 = .ok (.iload_n 2, 1) := by decide +kernel
theorem d_Pl_bestClosed_23 : decode b_Pl_bestClosed 23 = .ok (.if_icmp .eq 13, 3) := by decide +kernel
theorem d_Pl_bestClosed_26 : decode b_Pl_bestClosed 26 = .ok (.aload_n 0, 1) := by decide +kernel
theorem d_Pl_bestClosed_27 : decode b_Pl_bestClosed 27 = .ok (.iload 5, 2) := by decide +kernel
theorem d_Pl_bestClosed_29 : decode b_Pl_bestClosed 29 = .ok (.invokevirtual 138, 3) := by decide +kernel
theorem d_Pl_bestClosed_32 : decode b_Pl_bestClosed 32 = .ok (.iload_n 2, 1) := by decide +kernel
theorem d_Pl_bestClosed_33 : decode b_Pl_bestClosed 33 = .ok (.if_icmp .ne 36, 3) := by decide +kernel
theorem d_Pl_bestClosed_36 : decode b_Pl_bestClosed 36 = .ok (.iconst 0, 1) := by decide +kernel
theorem d_Pl_bestClosed_37 : decode b_Pl_bestClosed 37 = .ok (.istore 6, 2) := by decide +kernel
theorem d_Pl_bestClosed_39 : decode b_Pl_bestClosed 39 = .ok (.iload 6, 2) := by decide +kernel
theorem d_Pl_bestClosed_41 : decode b_Pl_bestClosed 41 = .ok (.aload_n 0, 1) := by decide +kernel
theorem d_Pl_bestClosed_42 : decode b_Pl_bestClosed 42 = .ok (.getfield 64, 3) := by decide +kernel
theorem d_Pl_bestClosed_45 : decode b_Pl_bestClosed 45 = .ok (.if_icmp .gt 24, 3) := by decide +kernel
theorem d_Pl_bestClosed_48 : decode b_Pl_bestClosed 48 = .ok (.lload_n 3, 1) := by decide +kernel
theorem d_Pl_bestClosed_49 : decode b_Pl_bestClosed 49 = .ok (.aload_n 0, 1) := by decide +kernel
theorem d_Pl_bestClosed_50 : decode b_Pl_bestClosed 50 = .ok (.aload_n 1, 1) := by decide +kernel
theorem d_Pl_bestClosed_51 : decode b_Pl_bestClosed 51 = .ok (.iload_n 2, 1) := by decide +kernel
theorem d_Pl_bestClosed_52 : decode b_Pl_bestClosed 52 = .ok (.iload 5, 2) := by decide +kernel
theorem d_Pl_bestClosed_54 : decode b_Pl_bestClosed 54 = .ok (.iload 6, 2) := by decide +kernel
theorem d_Pl_bestClosed_56 : decode b_Pl_bestClosed 56 = .ok (.invokevirtual 145, 3) := by decide +kernel
theorem d_Pl_bestClosed_59 : decode b_Pl_bestClosed 59 = .ok (.invokestatic 42, 3) := by decide +kernel
theorem d_Pl_bestClosed_62 : decode b_Pl_bestClosed 62 = .ok (.lstore_n 3, 1) := by decide +kernel
theorem d_Pl_bestClosed_63 : decode b_Pl_bestClosed 63 = .ok (.iinc 6 1, 3) := by decide +kernel
theorem d_Pl_bestClosed_66 : decode b_Pl_bestClosed 66 = .ok (.goto (-27), 3) := by decide +kernel
theorem d_Pl_bestClosed_69 : decode b_Pl_bestClosed 69 = .ok (.iinc 5 1, 3) := by decide +kernel
theorem d_Pl_bestClosed_72 : decode b_Pl_bestClosed 72 = .ok (.goto (-65), 3) := by decide +kernel
theorem d_Pl_bestClosed_75 : decode b_Pl_bestClosed 75 = .ok (.lload_n 3, 1) := by decide +kernel
theorem d_Pl_bestClosed_76 : decode b_Pl_bestClosed 76 = .ok (.lreturn, 1) := by decide +kernel
theorem d_Pl_bestEnd_0 : decode b_Pl_bestEnd 0 = .ok (.iload_n 3, 1) := by decide +kernel
theorem d_Pl_bestEnd_1 : decode b_Pl_bestEnd 1 = .ok (.iload_n 2, 1) := by decide +kernel
theorem d_Pl_bestEnd_2 : decode b_Pl_bestEnd 2 = .ok (.invokestatic 141, 3) := by decide +kernel
theorem d_Pl_bestEnd_5 : decode b_Pl_bestEnd 5 = .ok (.istore 5, 2) := by decide +kernel
theorem d_Pl_bestEnd_7 : decode b_Pl_bestEnd 7 = .ok (.ldc2_w 32, 3) := by decide +kernel
theorem d_Pl_bestEnd_10 : decode b_Pl_bestEnd 10 = .ok (.lstore 6, 2) := by decide +kernel
theorem d_Pl_bestEnd_12 : decode b_Pl_bestEnd 12 = .ok (.iconst 0, 1) := by decide +kernel
theorem d_Pl_bestEnd_13 : decode b_Pl_bestEnd 13 = .ok (.istore 8, 2) := by decide +kernel
theorem d_Pl_bestEnd_15 : decode b_Pl_bestEnd 15 = .ok (.iload 8, 2) := by decide +kernel
theorem d_Pl_bestEnd_17 : decode b_Pl_bestEnd 17 = .ok (.aload_n 0, 1) := by decide +kernel
theorem d_Pl_bestEnd_18 : decode b_Pl_bestEnd 18 = .ok (.getfield 69, 3) := by decide +kernel
theorem d_Pl_bestEnd_21 : decode b_Pl_bestEnd 21 = .ok (.if_icmp .ge 99, 3) := by decide +kernel
theorem d_Pl_bestEnd_24 : decode b_Pl_bestEnd 24 = .ok (.aload_n 0, 1) := by decide +kernel
theorem d_Pl_bestEnd_25 : decode b_Pl_bestEnd 25 = .ok (.getfield 11, 3) := by decide +kernel
theorem d_Pl_bestEnd_28 : decode b_Pl_bestEnd 28 = .ok (.aload_n 0, 1) := by decide +kernel
theorem d_Pl_bestEnd_29 : decode b_Pl_bestEnd 29 = .ok (.iload_n 3, 1) := by decide +kernel
theorem d_Pl_bestEnd_30 : decode b_Pl_bestEnd 30 = .ok (.iload 4, 2) := by decide +kernel
theorem d_Pl_bestEnd_32 : decode b_Pl_bestEnd 32 = .ok (.iload 8, 2) := by decide +kernel
theorem d_Pl_bestEnd_34 : decode b_Pl_bestEnd 34 = .ok (.invokevirtual 116, 3) := by decide +kernel
theorem d_Pl_bestEnd_37 : decode b_Pl_bestEnd 37 = .ok (.laload, 1) := by decide +kernel
theorem d_Pl_bestEnd_38 : decode b_Pl_bestEnd 38 = .ok (.lstore 9, 2) := by decide +kernel
theorem d_Pl_bestEnd_40 : decode b_Pl_bestEnd 40 = .ok (.aload_n 0, 1) := by decide +kernel
theorem d_Pl_bestEnd_41 : decode b_Pl_bestEnd 41 = .ok (.getfield 64, 3) := by decide +kernel
theorem d_Pl_bestEnd_44 : decode b_Pl_bestEnd 44 = .ok (.iload 4, 2) := by decide +kernel
theorem d_Pl_bestEnd_46 : decode b_Pl_bestEnd 46 = .ok (.isub, 1) := by decide +kernel
theorem d_Pl_bestEnd_47 : decode b_Pl_bestEnd 47 = .ok (.aload_n 0, 1) := by decide +kernel
theorem d_Pl_bestEnd_48 : decode b_Pl_bestEnd 48 = .ok (.getfield 68, 3) := by decide +kernel
theorem d_Pl_bestEnd_51 : decode b_Pl_bestEnd 51 = .ok (.iload 8, 2) := by decide +kernel
theorem d_Pl_bestEnd_53 : decode b_Pl_bestEnd 53 = .ok (.iload 5, 2) := by decide +kernel
theorem d_Pl_bestEnd_55 : decode b_Pl_bestEnd 55 = .ok (.invokestatic 112, 3) := by decide +kernel
theorem d_Pl_bestEnd_58 : decode b_Pl_bestEnd 58 = .ok (.iadd, 1) := by decide +kernel
theorem d_Pl_bestEnd_59 : decode b_Pl_bestEnd 59 = .ok (.imul, 1) := by decide +kernel
theorem d_Pl_bestEnd_60 : decode b_Pl_bestEnd 60 = .ok (.isub, 1) := by decide +kernel
theorem d_Pl_bestEnd_61 : decode b_Pl_bestEnd 61 = .ok (.istore 11, 2) := by decide +kernel
theorem d_Pl_bestEnd_63 : decode b_Pl_bestEnd 63 = .ok (.lload 9, 2) := by decide +kernel
theorem d_Pl_bestEnd_65 : decode b_Pl_bestEnd 65 = .ok (.ldc2_w 32, 3) := by decide +kernel
theorem d_Pl_bestEnd_68 : decode b_Pl_bestEnd 68 = .ok (.lcmp, 1) := by decide +kernel
theorem d_Pl_bestEnd_69 : decode b_Pl_bestEnd 69 = .ok (.ifCond .eq 45, 3) := by decide +kernel
theorem d_Pl_bestEnd_72 : decode b_Pl_bestEnd 72 = .ok (.aload_n 1, 1) := by decide +kernel
theorem d_Pl_bestEnd_73 : decode b_Pl_bestEnd 73 = .ok (.iload 4, 2) := by decide +kernel
theorem d_Pl_bestEnd_75 : decode b_Pl_bestEnd 75 = .ok (.iload 11, 2) := by decide +kernel
theorem d_Pl_bestEnd_77 : decode b_Pl_bestEnd 77 = .ok (.invokevirtual 149, 3) := by decide +kernel
theorem d_Pl_bestEnd_80 : decode b_Pl_bestEnd 80 = .ok (.ifCond .ne 34, 3) := by decide +kernel
theorem d_Pl_bestEnd_83 : decode b_Pl_bestEnd 83 = .ok (.lload 6, 2) := by decide +kernel
theorem d_Pl_bestEnd_85 : decode b_Pl_bestEnd 85 = .ok (.lload 9, 2) := by decide +kernel
theorem d_Pl_bestEnd_87 : decode b_Pl_bestEnd 87 = .ok (.iload 5, 2) := by decide +kernel
theorem d_Pl_bestEnd_89 : decode b_Pl_bestEnd 89 = .ok (.ifCond .eq 18, 3) := by decide +kernel
theorem d_Pl_bestEnd_92 : decode b_Pl_bestEnd 92 = .ok (.aload_n 0, 1) := by decide +kernel
theorem d_Pl_bestEnd_93 : decode b_Pl_bestEnd 93 = .ok (.getfield 25, 3) := by decide +kernel
theorem d_Pl_bestEnd_96 : decode b_Pl_bestEnd 96 = .ok (.iconst 0, 1) := by decide +kernel
theorem d_Pl_bestEnd_97 : decode b_Pl_bestEnd 97 = .ok (.iaload, 1) := by decide +kernel
theorem d_Pl_bestEnd_98 : decode b_Pl_bestEnd 98 = .ok (.i2l, 1) := by decide +kernel
theorem d_Pl_bestEnd_99 : decode b_Pl_bestEnd 99 = .ok (.aload_n 0, 1) := by decide +kernel
theorem d_Pl_bestEnd_100 : decode b_Pl_bestEnd 100 = .ok (.getfield 79, 3) := by decide +kernel
theorem d_Pl_bestEnd_103 : decode b_Pl_bestEnd 103 = .ok (.lmul, 1) := by decide +kernel
theorem d_Pl_bestEnd_104 : decode b_Pl_bestEnd 104 = .ok (.goto 4, 3) := by decide +kernel
theorem d_Pl_bestEnd_107 : decode b_Pl_bestEnd 107 = .ok (.lconst 0, 1) := by decide +kernel
theorem d_Pl_bestEnd_108 : decode b_Pl_bestEnd 108 = .ok (.lsub, 1) := by decide +kernel
theorem d_Pl_bestEnd_109 : decode b_Pl_bestEnd 109 = .ok (.invokestatic 42, 3) := by decide +kernel
theorem d_Pl_bestEnd_112 : decode b_Pl_bestEnd 112 = .ok (.lstore 6, 2) := by decide +kernel
theorem d_Pl_bestEnd_114 : decode b_Pl_bestEnd 114 = .ok (.iinc 8 1, 3) := by decide +kernel
theorem d_Pl_bestEnd_117 : decode b_Pl_bestEnd 117 = .ok (.goto (-102), 3) := by decide +kernel
theorem d_Pl_bestEnd_120 : decode b_Pl_bestEnd 120 = .ok (.lload 6, 2) := by decide +kernel
theorem d_Pl_bestEnd_122 : decode b_Pl_bestEnd 122 = .ok (.lreturn, 1) := by decide +kernel
theorem d_Pl_keep_0 : decode b_Pl_keep 0 = .ok (.lload_n 2, 1) := by decide +kernel
theorem d_Pl_keep_1 : decode b_Pl_keep 1 = .ok (.lneg, 1) := by decide +kernel
theorem d_Pl_keep_2 : decode b_Pl_keep 2 = .ok (.lconst 1, 1) := by decide +kernel
theorem d_Pl_keep_3 : decode b_Pl_keep 3 = .ok (.aload_n 0, 1) := by decide +kernel
theorem d_Pl_keep_4 : decode b_Pl_keep 4 = .ok (.getfield 79, 3) := by decide +kernel
theorem d_Pl_keep_7 : decode b_Pl_keep 7 = .ok (.invokestatic 42, 3) := by decide +kernel
theorem d_Pl_keep_10 : decode b_Pl_keep 10 = .ok (.invokestatic 92, 3) := by decide +kernel
theorem d_Pl_keep_13 : decode b_Pl_keep 13 = .ok (.lneg, 1) := by decide +kernel
theorem d_Pl_keep_14 : decode b_Pl_keep 14 = .ok (.lstore 4, 2) := by decide +kernel
theorem d_Pl_keep_16 : decode b_Pl_keep 16 = .ok (.lload 4, 2) := by decide +kernel
theorem d_Pl_keep_18 : decode b_Pl_keep 18 = .ok (.aload_n 0, 1) := by decide +kernel
theorem d_Pl_keep_19 : decode b_Pl_keep 19 = .ok (.getfield 79, 3) := by decide +kernel
theorem d_Pl_keep_22 : decode b_Pl_keep 22 = .ok (.lmul, 1) := by decide +kernel
theorem d_Pl_keep_23 : decode b_Pl_keep 23 = .ok (.lload_n 2, 1) := by decide +kernel
theorem d_Pl_keep_24 : decode b_Pl_keep 24 = .ok (.lsub, 1) := by decide +kernel
theorem d_Pl_keep_25 : decode b_Pl_keep 25 = .ok (.lstore 6, 2) := by decide +kernel
theorem d_Pl_keep_27 : decode b_Pl_keep 27 = .ok (.aload_n 0, 1) := by decide +kernel
theorem d_Pl_keep_28 : decode b_Pl_keep 28 = .ok (.getfield 64, 3) := by decide +kernel
theorem d_Pl_keep_31 : decode b_Pl_keep 31 = .ok (.iconst 1, 1) := by decide +kernel
theorem d_Pl_keep_32 : decode b_Pl_keep 32 = .ok (.isub, 1) := by decide +kernel
theorem d_Pl_keep_33 : decode b_Pl_keep 33 = .ok (.istore 8, 2) := by decide +kernel
theorem d_Pl_keep_35 : decode b_Pl_keep 35 = .ok (.iload 8, 2) := by decide +kernel
theorem d_Pl_keep_37 : decode b_Pl_keep 37 = .ok (.ifCond .lt 31, 3) := by decide +kernel
theorem d_Pl_keep_40 : decode b_Pl_keep 40 = .ok (.aload_n 1, 1) := by decide +kernel
theorem d_Pl_keep_41 : decode b_Pl_keep 41 = .ok (.getfield 95, 3) := by decide +kernel
theorem d_Pl_keep_44 : decode b_Pl_keep 44 = .ok (.iload 8, 2) := by decide +kernel
theorem d_Pl_keep_46 : decode b_Pl_keep 46 = .ok (.lload 6, 2) := by decide +kernel
theorem d_Pl_keep_48 : decode b_Pl_keep 48 = .ok (.ldc2_w 83, 3) := by decide +kernel
theorem d_Pl_keep_51 : decode b_Pl_keep 51 = .ok (.lrem, 1) := by decide +kernel
theorem d_Pl_keep_52 : decode b_Pl_keep 52 = .ok (.l2i, 1) := by decide +kernel
theorem d_Pl_keep_53 : decode b_Pl_keep 53 = .ok (.iastore, 1) := by decide +kernel
theorem d_Pl_keep_54 : decode b_Pl_keep 54 = .ok (.lload 6, 2) := by decide +kernel
theorem d_Pl_keep_56 : decode b_Pl_keep 56 = .ok (.ldc2_w 83, 3) := by decide +kernel
theorem d_Pl_keep_59 : decode b_Pl_keep 59 = .ok (.ldiv, 1) := by decide +kernel
theorem d_Pl_keep_60 : decode b_Pl_keep 60 = .ok (.lstore 6, 2) := by decide +kernel
theorem d_Pl_keep_62 : decode b_Pl_keep 62 = .ok (.iinc 8 (-1), 3) := by decide +kernel
theorem d_Pl_keep_65 : decode b_Pl_keep 65 = .ok (.goto (-30), 3) := by decide +kernel
theorem d_Pl_keep_68 : decode b_Pl_keep 68 = .ok (.aload_n 1, 1) := by decide +kernel
theorem d_Pl_keep_69 : decode b_Pl_keep 69 = .ok (.lload 4, 2) := by decide +kernel
theorem d_Pl_keep_71 : decode b_Pl_keep 71 = .ok (.lneg, 1) := by decide +kernel
theorem d_Pl_keep_72 : decode b_Pl_keep 72 = .ok (.ldc2_w 98, 3) := by decide +kernel
theorem d_Pl_keep_75 : decode b_Pl_keep 75 = .ok (.invokestatic 92, 3) := by decide +kernel
theorem d_Pl_keep_78 : decode b_Pl_keep 78 = .ok (.lneg, 1) := by decide +kernel
theorem d_Pl_keep_79 : decode b_Pl_keep 79 = .ok (.l2i, 1) := by decide +kernel
theorem d_Pl_keep_80 : decode b_Pl_keep 80 = .ok (.putfield 100, 3) := by decide +kernel
theorem d_Pl_keep_83 : decode b_Pl_keep 83 = .ok (.aload_n 1, 1) := by decide +kernel
theorem d_Pl_keep_84 : decode b_Pl_keep 84 = .ok (.aload_n 1, 1) := by decide +kernel
theorem d_Pl_keep_85 : decode b_Pl_keep 85 = .ok (.getfield 100, 3) := by decide +kernel
theorem d_Pl_keep_88 : decode b_Pl_keep 88 = .ok (.i2l, 1) := by decide +kernel
theorem d_Pl_keep_89 : decode b_Pl_keep 89 = .ok (.ldc2_w 98, 3) := by decide +kernel
theorem d_Pl_keep_92 : decode b_Pl_keep 92 = .ok (.lmul, 1) := by decide +kernel
theorem d_Pl_keep_93 : decode b_Pl_keep 93 = .ok (.lload 4, 2) := by decide +kernel
theorem d_Pl_keep_95 : decode b_Pl_keep 95 = .ok (.lsub, 1) := by decide +kernel
theorem d_Pl_keep_96 : decode b_Pl_keep 96 = .ok (.l2i, 1) := by decide +kernel
theorem d_Pl_keep_97 : decode b_Pl_keep 97 = .ok (.putfield 103, 3) := by decide +kernel
theorem d_Pl_keep_100 : decode b_Pl_keep 100 = .ok (.return_, 1) := by decide +kernel
theorem d_JM_floorDiv_0 : decode b_JM_floorDiv 0 = .ok (.lload_n 0, 1) := by decide +kernel
theorem d_JM_floorDiv_1 : decode b_JM_floorDiv 1 = .ok (.lload_n 2, 1) := by decide +kernel
theorem d_JM_floorDiv_2 : decode b_JM_floorDiv 2 = .ok (.ldiv, 1) := by decide +kernel
theorem d_JM_floorDiv_3 : decode b_JM_floorDiv 3 = .ok (.lstore 4, 2) := by decide +kernel
theorem d_JM_floorDiv_5 : decode b_JM_floorDiv 5 = .ok (.lload_n 0, 1) := by decide +kernel
theorem d_JM_floorDiv_6 : decode b_JM_floorDiv 6 = .ok (.lload_n 2, 1) := by decide +kernel
theorem d_JM_floorDiv_7 : decode b_JM_floorDiv 7 = .ok (.lxor, 1) := by decide +kernel
theorem d_JM_floorDiv_8 : decode b_JM_floorDiv 8 = .ok (.lconst 0, 1) := by decide +kernel
theorem d_JM_floorDiv_9 : decode b_JM_floorDiv 9 = .ok (.lcmp, 1) := by decide +kernel
theorem d_JM_floorDiv_10 : decode b_JM_floorDiv 10 = .ok (.ifCond .ge 17, 3) := by decide +kernel
theorem d_JM_floorDiv_13 : decode b_JM_floorDiv 13 = .ok (.lload 4, 2) := by decide +kernel
theorem d_JM_floorDiv_15 : decode b_JM_floorDiv 15 = .ok (.lload_n 2, 1) := by decide +kernel
theorem d_JM_floorDiv_16 : decode b_JM_floorDiv 16 = .ok (.lmul, 1) := by decide +kernel
theorem d_JM_floorDiv_17 : decode b_JM_floorDiv 17 = .ok (.lload_n 0, 1) := by decide +kernel
theorem d_JM_floorDiv_18 : decode b_JM_floorDiv 18 = .ok (.lcmp, 1) := by decide +kernel
theorem d_JM_floorDiv_19 : decode b_JM_floorDiv 19 = .ok (.ifCond .eq 8, 3) := by decide +kernel
theorem d_JM_floorDiv_22 : decode b_JM_floorDiv 22 = .ok (.lload 4, 2) := by decide +kernel
theorem d_JM_floorDiv_24 : decode b_JM_floorDiv 24 = .ok (.lconst 1, 1) := by decide +kernel
theorem d_JM_floorDiv_25 : decode b_JM_floorDiv 25 = .ok (.lsub, 1) := by decide +kernel
theorem d_JM_floorDiv_26 : decode b_JM_floorDiv 26 = .ok (.lreturn, 1) := by decide +kernel
theorem d_JM_floorDiv_27 : decode b_JM_floorDiv 27 = .ok (.lload 4, 2) := by decide +kernel
theorem d_JM_floorDiv_29 : decode b_JM_floorDiv 29 = .ok (.lreturn, 1) := by decide +kernel
theorem d_Ld_allHours_0 : decode b_Ld_allHours 0 = .ok (.iconst 1, 1) := by decide +kernel
theorem d_Ld_allHours_1 : decode b_Ld_allHours 1 = .ok (.aload_n 0, 1) := by decide +kernel
theorem d_Ld_allHours_2 : decode b_Ld_allHours 2 = .ok (.getfield 9, 3) := by decide +kernel
theorem d_Ld_allHours_5 : decode b_Ld_allHours 5 = .ok (.ishl, 1) := by decide +kernel
theorem d_Ld_allHours_6 : decode b_Ld_allHours 6 = .ok (.iconst 1, 1) := by decide +kernel
theorem d_Ld_allHours_7 : decode b_Ld_allHours 7 = .ok (.isub, 1) := by decide +kernel
theorem d_Ld_allHours_8 : decode b_Ld_allHours 8 = .ok (.ireturn, 1) := by decide +kernel
theorem d_JM_abs_0 : decode b_JM_abs 0 = .ok (.iload_n 0, 1) := by decide +kernel
theorem d_JM_abs_1 : decode b_JM_abs 1 = .ok (.ifCond .ge 8, 3) := by decide +kernel
theorem d_JM_abs_4 : decode b_JM_abs 4 = .ok (.iload_n 0, 1) := by decide +kernel
theorem d_JM_abs_5 : decode b_JM_abs 5 = .ok (.ineg, 1) := by decide +kernel
theorem d_JM_abs_6 : decode b_JM_abs 6 = .ok (.goto 4, 3) := by decide +kernel
theorem d_JM_abs_9 : decode b_JM_abs 9 = .ok (.iload_n 0, 1) := by decide +kernel
theorem d_JM_abs_10 : decode b_JM_abs 10 = .ok (.ireturn, 1) := by decide +kernel
theorem d_Ld_livingAsTold_0 : decode b_Ld_livingAsTold 0 = .ok (.iconst 0, 1) := by decide +kernel
theorem d_Ld_livingAsTold_1 : decode b_Ld_livingAsTold 1 = .ok (.istore_n 1, 1) := by decide +kernel
theorem d_Ld_livingAsTold_2 : decode b_Ld_livingAsTold 2 = .ok (.iconst 0, 1) := by decide +kernel
theorem d_Ld_livingAsTold_3 : decode b_Ld_livingAsTold 3 = .ok (.istore_n 2, 1) := by decide +kernel
theorem d_Ld_livingAsTold_4 : decode b_Ld_livingAsTold 4 = .ok (.iload_n 2, 1) := by decide +kernel
theorem d_Ld_livingAsTold_5 : decode b_Ld_livingAsTold 5 = .ok (.aload_n 0, 1) := by decide +kernel
theorem d_Ld_livingAsTold_6 : decode b_Ld_livingAsTold 6 = .ok (.getfield 49, 3) := by decide +kernel
theorem d_Ld_livingAsTold_9 : decode b_Ld_livingAsTold 9 = .ok (.if_icmp .ge 20, 3) := by decide +kernel
theorem d_Ld_livingAsTold_12 : decode b_Ld_livingAsTold 12 = .ok (.iload_n 1, 1) := by decide +kernel
theorem d_Ld_livingAsTold_13 : decode b_Ld_livingAsTold 13 = .ok (.aload_n 0, 1) := by decide +kernel
theorem d_Ld_livingAsTold_14 : decode b_Ld_livingAsTold 14 = .ok (.getfield 21, 3) := by decide +kernel
theorem d_Ld_livingAsTold_17 : decode b_Ld_livingAsTold 17 = .ok (.iload_n 2, 1) := by decide +kernel
theorem d_Ld_livingAsTold_18 : decode b_Ld_livingAsTold 18 = .ok (.iaload, 1) := by decide +kernel
theorem d_Ld_livingAsTold_19 : decode b_Ld_livingAsTold 19 = .ok (.iload_n 2, 1) := by decide +kernel
theorem d_Ld_livingAsTold_20 : decode b_Ld_livingAsTold 20 = .ok (.ishl, 1) := by decide +kernel
theorem d_Ld_livingAsTold_21 : decode b_Ld_livingAsTold 21 = .ok (.ior, 1) := by decide +kernel
theorem d_Ld_livingAsTold_22 : decode b_Ld_livingAsTold 22 = .ok (.istore_n 1, 1) := by decide +kernel
theorem d_Ld_livingAsTold_23 : decode b_Ld_livingAsTold 23 = .ok (.iinc 2 1, 3) := by decide +kernel
theorem d_Ld_livingAsTold_26 : decode b_Ld_livingAsTold 26 = .ok (.goto (-22), 3) := by decide +kernel
theorem d_Ld_livingAsTold_29 : decode b_Ld_livingAsTold 29 = .ok (.iload_n 1, 1) := by decide +kernel
theorem d_Ld_livingAsTold_30 : decode b_Ld_livingAsTold 30 = .ok (.ireturn, 1) := by decide +kernel
theorem d_JI_bitCount_0 : decode b_JI_bitCount 0 = .ok (.iload_n 0, 1) := by decide +kernel
theorem d_JI_bitCount_1 : decode b_JI_bitCount 1 = .ok (.iload_n 0, 1) := by decide +kernel
theorem d_JI_bitCount_2 : decode b_JI_bitCount 2 = .ok (.iconst 1, 1) := by decide +kernel
theorem d_JI_bitCount_3 : decode b_JI_bitCount 3 = .ok (.iushr, 1) := by decide +kernel
theorem d_JI_bitCount_4 : decode b_JI_bitCount 4 = .ok (.ldc_w 265, 3) := by decide +kernel
theorem d_JI_bitCount_7 : decode b_JI_bitCount 7 = .ok (.iand, 1) := by decide +kernel
theorem d_JI_bitCount_8 : decode b_JI_bitCount 8 = .ok (.isub, 1) := by decide +kernel
theorem d_JI_bitCount_9 : decode b_JI_bitCount 9 = .ok (.istore_n 0, 1) := by decide +kernel
theorem d_JI_bitCount_10 : decode b_JI_bitCount 10 = .ok (.iload_n 0, 1) := by decide +kernel
theorem d_JI_bitCount_11 : decode b_JI_bitCount 11 = .ok (.ldc_w 266, 3) := by decide +kernel
theorem d_JI_bitCount_14 : decode b_JI_bitCount 14 = .ok (.iand, 1) := by decide +kernel
theorem d_JI_bitCount_15 : decode b_JI_bitCount 15 = .ok (.iload_n 0, 1) := by decide +kernel
theorem d_JI_bitCount_16 : decode b_JI_bitCount 16 = .ok (.iconst 2, 1) := by decide +kernel
theorem d_JI_bitCount_17 : decode b_JI_bitCount 17 = .ok (.iushr, 1) := by decide +kernel
theorem d_JI_bitCount_18 : decode b_JI_bitCount 18 = .ok (.ldc_w 266, 3) := by decide +kernel
theorem d_JI_bitCount_21 : decode b_JI_bitCount 21 = .ok (.iand, 1) := by decide +kernel
theorem d_JI_bitCount_22 : decode b_JI_bitCount 22 = .ok (.iadd, 1) := by decide +kernel
theorem d_JI_bitCount_23 : decode b_JI_bitCount 23 = .ok (.istore_n 0, 1) := by decide +kernel
theorem d_JI_bitCount_24 : decode b_JI_bitCount 24 = .ok (.iload_n 0, 1) := by decide +kernel
theorem d_JI_bitCount_25 : decode b_JI_bitCount 25 = .ok (.iload_n 0, 1) := by decide +kernel
theorem d_JI_bitCount_26 : decode b_JI_bitCount 26 = .ok (.iconst 4, 1) := by decide +kernel
theorem d_JI_bitCount_27 : decode b_JI_bitCount 27 = .ok (.iushr, 1) := by decide +kernel
theorem d_JI_bitCount_28 : decode b_JI_bitCount 28 = .ok (.iadd, 1) := by decide +kernel
theorem d_JI_bitCount_29 : decode b_JI_bitCount 29 = .ok (.ldc_w 267, 3) := by decide +kernel
theorem d_JI_bitCount_32 : decode b_JI_bitCount 32 = .ok (.iand, 1) := by decide +kernel
theorem d_JI_bitCount_33 : decode b_JI_bitCount 33 = .ok (.istore_n 0, 1) := by decide +kernel
theorem d_JI_bitCount_34 : decode b_JI_bitCount 34 = .ok (.iload_n 0, 1) := by decide +kernel
theorem d_JI_bitCount_35 : decode b_JI_bitCount 35 = .ok (.iload_n 0, 1) := by decide +kernel
theorem d_JI_bitCount_36 : decode b_JI_bitCount 36 = .ok (.bipush 8, 2) := by decide +kernel
theorem d_JI_bitCount_38 : decode b_JI_bitCount 38 = .ok (.iushr, 1) := by decide +kernel
theorem d_JI_bitCount_39 : decode b_JI_bitCount 39 = .ok (.iadd, 1) := by decide +kernel
theorem d_JI_bitCount_40 : decode b_JI_bitCount 40 = .ok (.istore_n 0, 1) := by decide +kernel
theorem d_JI_bitCount_41 : decode b_JI_bitCount 41 = .ok (.iload_n 0, 1) := by decide +kernel
theorem d_JI_bitCount_42 : decode b_JI_bitCount 42 = .ok (.iload_n 0, 1) := by decide +kernel
theorem d_JI_bitCount_43 : decode b_JI_bitCount 43 = .ok (.bipush 16, 2) := by decide +kernel
theorem d_JI_bitCount_45 : decode b_JI_bitCount 45 = .ok (.iushr, 1) := by decide +kernel
theorem d_JI_bitCount_46 : decode b_JI_bitCount 46 = .ok (.iadd, 1) := by decide +kernel
theorem d_JI_bitCount_47 : decode b_JI_bitCount 47 = .ok (.istore_n 0, 1) := by decide +kernel
theorem d_JI_bitCount_48 : decode b_JI_bitCount 48 = .ok (.iload_n 0, 1) := by decide +kernel
theorem d_JI_bitCount_49 : decode b_JI_bitCount 49 = .ok (.bipush 63, 2) := by decide +kernel
theorem d_JI_bitCount_51 : decode b_JI_bitCount 51 = .ok (.iand, 1) := by decide +kernel
theorem d_JI_bitCount_52 : decode b_JI_bitCount 52 = .ok (.ireturn, 1) := by decide +kernel
theorem d_Ld_costOf_0 : decode b_Ld_costOf 0 = .ok (.iconst 0, 1) := by decide +kernel
theorem d_Ld_costOf_1 : decode b_Ld_costOf 1 = .ok (.istore_n 2, 1) := by decide +kernel
theorem d_Ld_costOf_2 : decode b_Ld_costOf 2 = .ok (.iconst 0, 1) := by decide +kernel
theorem d_Ld_costOf_3 : decode b_Ld_costOf 3 = .ok (.istore_n 3, 1) := by decide +kernel
theorem d_Ld_costOf_4 : decode b_Ld_costOf 4 = .ok (.iload_n 3, 1) := by decide +kernel
theorem d_Ld_costOf_5 : decode b_Ld_costOf 5 = .ok (.aload_n 0, 1) := by decide +kernel
theorem d_Ld_costOf_6 : decode b_Ld_costOf 6 = .ok (.getfield 52, 3) := by decide +kernel
theorem d_Ld_costOf_9 : decode b_Ld_costOf 9 = .ok (.if_icmp .ge 24, 3) := by decide +kernel
theorem d_Ld_costOf_12 : decode b_Ld_costOf 12 = .ok (.iload_n 2, 1) := by decide +kernel
theorem d_Ld_costOf_13 : decode b_Ld_costOf 13 = .ok (.iload_n 1, 1) := by decide +kernel
theorem d_Ld_costOf_14 : decode b_Ld_costOf 14 = .ok (.iload_n 3, 1) := by decide +kernel
theorem d_Ld_costOf_15 : decode b_Ld_costOf 15 = .ok (.ishr, 1) := by decide +kernel
theorem d_Ld_costOf_16 : decode b_Ld_costOf 16 = .ok (.iconst 1, 1) := by decide +kernel
theorem d_Ld_costOf_17 : decode b_Ld_costOf 17 = .ok (.iand, 1) := by decide +kernel
theorem d_Ld_costOf_18 : decode b_Ld_costOf 18 = .ok (.aload_n 0, 1) := by decide +kernel
theorem d_Ld_costOf_19 : decode b_Ld_costOf 19 = .ok (.getfield 34, 3) := by decide +kernel
theorem d_Ld_costOf_22 : decode b_Ld_costOf 22 = .ok (.iload_n 3, 1) := by decide +kernel
theorem d_Ld_costOf_23 : decode b_Ld_costOf 23 = .ok (.iaload, 1) := by decide +kernel
theorem d_Ld_costOf_24 : decode b_Ld_costOf 24 = .ok (.imul, 1) := by decide +kernel
theorem d_Ld_costOf_25 : decode b_Ld_costOf 25 = .ok (.iadd, 1) := by decide +kernel
theorem d_Ld_costOf_26 : decode b_Ld_costOf 26 = .ok (.istore_n 2, 1) := by decide +kernel
theorem d_Ld_costOf_27 : decode b_Ld_costOf 27 = .ok (.iinc 3 1, 3) := by decide +kernel
theorem d_Ld_costOf_30 : decode b_Ld_costOf 30 = .ok (.goto (-26), 3) := by decide +kernel
theorem d_Ld_costOf_33 : decode b_Ld_costOf 33 = .ok (.iload_n 2, 1) := by decide +kernel
theorem d_Ld_costOf_34 : decode b_Ld_costOf 34 = .ok (.ireturn, 1) := by decide +kernel
theorem d_Ld_putsDownWithin_0 : decode b_Ld_putsDownWithin 0 = .ok (.iconst 1, 1) := by decide +kernel
theorem d_Ld_putsDownWithin_1 : decode b_Ld_putsDownWithin 1 = .ok (.istore_n 3, 1) := by decide +kernel
theorem d_Ld_putsDownWithin_2 : decode b_Ld_putsDownWithin 2 = .ok (.iconst 1, 1) := by decide +kernel
theorem d_Ld_putsDownWithin_3 : decode b_Ld_putsDownWithin 3 = .ok (.istore 4, 2) := by decide +kernel
theorem d_Ld_putsDownWithin_5 : decode b_Ld_putsDownWithin 5 = .ok (.iconst 0, 1) := by decide +kernel
theorem d_Ld_putsDownWithin_6 : decode b_Ld_putsDownWithin 6 = .ok (.istore 5, 2) := by decide +kernel
theorem d_Ld_putsDownWithin_8 : decode b_Ld_putsDownWithin 8 = .ok (.iload 5, 2) := by decide +kernel
theorem d_Ld_putsDownWithin_10 : decode b_Ld_putsDownWithin 10 = .ok (.aload_n 0, 1) := by decide +kernel
theorem d_Ld_putsDownWithin_11 : decode b_Ld_putsDownWithin 11 = .ok (.getfield 52, 3) := by decide +kernel
theorem d_Ld_putsDownWithin_14 : decode b_Ld_putsDownWithin 14 = .ok (.if_icmp .ge 36, 3) := by decide +kernel
theorem d_Ld_putsDownWithin_17 : decode b_Ld_putsDownWithin 17 = .ok (.iload_n 1, 1) := by decide +kernel
theorem d_Ld_putsDownWithin_18 : decode b_Ld_putsDownWithin 18 = .ok (.iload 5, 2) := by decide +kernel
theorem d_Ld_putsDownWithin_20 : decode b_Ld_putsDownWithin 20 = .ok (.ishr, 1) := by decide +kernel
theorem d_Ld_putsDownWithin_21 : decode b_Ld_putsDownWithin 21 = .ok (.iconst 1, 1) := by decide +kernel
theorem d_Ld_putsDownWithin_22 : decode b_Ld_putsDownWithin 22 = .ok (.iand, 1) := by decide +kernel
theorem d_Ld_putsDownWithin_23 : decode b_Ld_putsDownWithin 23 = .ok (.iconst 1, 1) := by decide +kernel
theorem d_Ld_putsDownWithin_24 : decode b_Ld_putsDownWithin 24 = .ok (.if_icmp .ne 20, 3) := by decide +kernel
theorem d_Ld_putsDownWithin_27 : decode b_Ld_putsDownWithin 27 = .ok (.iload_n 3, 1) := by decide +kernel
theorem d_Ld_putsDownWithin_28 : decode b_Ld_putsDownWithin 28 = .ok (.aload_n 0, 1) := by decide +kernel
theorem d_Ld_putsDownWithin_29 : decode b_Ld_putsDownWithin 29 = .ok (.getfield 37, 3) := by decide +kernel
theorem d_Ld_putsDownWithin_32 : decode b_Ld_putsDownWithin 32 = .ok (.iload 5, 2) := by decide +kernel
theorem d_Ld_putsDownWithin_34 : decode b_Ld_putsDownWithin 34 = .ok (.iaload, 1) := by decide +kernel
theorem d_Ld_putsDownWithin_35 : decode b_Ld_putsDownWithin 35 = .ok (.imul, 1) := by decide +kernel
theorem d_Ld_putsDownWithin_36 : decode b_Ld_putsDownWithin 36 = .ok (.istore_n 3, 1) := by decide +kernel
theorem d_Ld_putsDownWithin_37 : decode b_Ld_putsDownWithin 37 = .ok (.iload 4, 2) := by decide +kernel
theorem d_Ld_putsDownWithin_39 : decode b_Ld_putsDownWithin 39 = .ok (.bipush 10, 2) := by decide +kernel
theorem d_Ld_putsDownWithin_41 : decode b_Ld_putsDownWithin 41 = .ok (.imul, 1) := by decide +kernel
theorem d_Ld_putsDownWithin_42 : decode b_Ld_putsDownWithin 42 = .ok (.istore 4, 2) := by decide +kernel
theorem d_Ld_putsDownWithin_44 : decode b_Ld_putsDownWithin 44 = .ok (.iinc 5 1, 3) := by decide +kernel
theorem d_Ld_putsDownWithin_47 : decode b_Ld_putsDownWithin 47 = .ok (.goto (-39), 3) := by decide +kernel
theorem d_Ld_putsDownWithin_50 : decode b_Ld_putsDownWithin 50 = .ok (.iload_n 3, 1) := by decide +kernel
theorem d_Ld_putsDownWithin_51 : decode b_Ld_putsDownWithin 51 = .ok (.bipush 100, 2) := by decide +kernel
theorem d_Ld_putsDownWithin_53 : decode b_Ld_putsDownWithin 53 = .ok (.imul, 1) := by decide +kernel
theorem d_Ld_putsDownWithin_54 : decode b_Ld_putsDownWithin 54 = .ok (.iload_n 2, 1) := by decide +kernel
theorem d_Ld_putsDownWithin_55 : decode b_Ld_putsDownWithin 55 = .ok (.iload 4, 2) := by decide +kernel
theorem d_Ld_putsDownWithin_57 : decode b_Ld_putsDownWithin 57 = .ok (.imul, 1) := by decide +kernel
theorem d_Ld_putsDownWithin_58 : decode b_Ld_putsDownWithin 58 = .ok (.if_icmp .gt 7, 3) := by decide +kernel
theorem d_Ld_putsDownWithin_61 : decode b_Ld_putsDownWithin 61 = .ok (.iconst 1, 1) := by decide +kernel
theorem d_Ld_putsDownWithin_62 : decode b_Ld_putsDownWithin 62 = .ok (.goto 4, 3) := by decide +kernel
theorem d_Ld_putsDownWithin_65 : decode b_Ld_putsDownWithin 65 = .ok (.iconst 0, 1) := by decide +kernel
theorem d_Ld_putsDownWithin_66 : decode b_Ld_putsDownWithin 66 = .ok (.ireturn, 1) := by decide +kernel
theorem d_Si_isOf_0 : decode b_Si_isOf 0 = .ok (.iconst 0, 1) := by decide +kernel
theorem d_Si_isOf_1 : decode b_Si_isOf 1 = .ok (.istore_n 2, 1) := by decide +kernel
theorem d_Si_isOf_2 : decode b_Si_isOf 2 = .ok (.iload_n 2, 1) := by decide +kernel
theorem d_Si_isOf_3 : decode b_Si_isOf 3 = .ok (.aload_n 0, 1) := by decide +kernel
theorem d_Si_isOf_4 : decode b_Si_isOf 4 = .ok (.getfield 21, 3) := by decide +kernel
theorem d_Si_isOf_7 : decode b_Si_isOf 7 = .ok (.if_icmp .ge 37, 3) := by decide +kernel
theorem d_Si_isOf_10 : decode b_Si_isOf 10 = .ok (.aload_n 1, 1) := by decide +kernel
theorem d_Si_isOf_11 : decode b_Si_isOf 11 = .ok (.aload_n 0, 1) := by decide +kernel
theorem d_Si_isOf_12 : decode b_Si_isOf 12 = .ok (.getfield 9, 3) := by decide +kernel
theorem d_Si_isOf_15 : decode b_Si_isOf 15 = .ok (.iload_n 2, 1) := by decide +kernel
theorem d_Si_isOf_16 : decode b_Si_isOf 16 = .ok (.iaload, 1) := by decide +kernel
theorem d_Si_isOf_17 : decode b_Si_isOf 17 = .ok (.invokevirtual 35, 3) := by decide +kernel
theorem d_Si_isOf_20 : decode b_Si_isOf 20 = .ok (.ifCond .eq 16, 3) := by decide +kernel
theorem d_Si_isOf_23 : decode b_Si_isOf 23 = .ok (.aload_n 0, 1) := by decide +kernel
theorem d_Si_isOf_24 : decode b_Si_isOf 24 = .ok (.getfield 15, 3) := by decide +kernel
theorem d_Si_isOf_27 : decode b_Si_isOf 27 = .ok (.iload_n 2, 1) := by decide +kernel
theorem d_Si_isOf_28 : decode b_Si_isOf 28 = .ok (.iaload, 1) := by decide +kernel
theorem d_Si_isOf_29 : decode b_Si_isOf 29 = .ok (.aload_n 1, 1) := by decide +kernel
theorem d_Si_isOf_30 : decode b_Si_isOf 30 = .ok (.getfield 41, 3) := by decide +kernel
theorem d_Si_isOf_33 : decode b_Si_isOf 33 = .ok (.if_icmp .lt 5, 3) := by decide +kernel
theorem d_Si_isOf_36 : decode b_Si_isOf 36 = .ok (.iconst 0, 1) := by decide +kernel
theorem d_Si_isOf_37 : decode b_Si_isOf 37 = .ok (.ireturn, 1) := by decide +kernel
theorem d_Si_isOf_38 : decode b_Si_isOf 38 = .ok (.iinc 2 1, 3) := by decide +kernel
theorem d_Si_isOf_41 : decode b_Si_isOf 41 = .ok (.goto (-39), 3) := by decide +kernel
theorem d_Si_isOf_44 : decode b_Si_isOf 44 = .ok (.iconst 1, 1) := by decide +kernel
theorem d_Si_isOf_45 : decode b_Si_isOf 45 = .ok (.ireturn, 1) := by decide +kernel
theorem d_Ld_hoursFrom_0 : decode b_Ld_hoursFrom 0 = .ok (.iconst 0, 1) := by decide +kernel
theorem d_Ld_hoursFrom_1 : decode b_Ld_hoursFrom 1 = .ok (.istore_n 3, 1) := by decide +kernel
theorem d_Ld_hoursFrom_2 : decode b_Ld_hoursFrom 2 = .ok (.iconst 0, 1) := by decide +kernel
theorem d_Ld_hoursFrom_3 : decode b_Ld_hoursFrom 3 = .ok (.istore 4, 2) := by decide +kernel
theorem d_Ld_hoursFrom_5 : decode b_Ld_hoursFrom 5 = .ok (.iload 4, 2) := by decide +kernel
theorem d_Ld_hoursFrom_7 : decode b_Ld_hoursFrom 7 = .ok (.iload_n 2, 1) := by decide +kernel
theorem d_Ld_hoursFrom_8 : decode b_Ld_hoursFrom 8 = .ok (.if_icmp .ge 30, 3) := by decide +kernel
theorem d_Ld_hoursFrom_11 : decode b_Ld_hoursFrom 11 = .ok (.aload_n 0, 1) := by decide +kernel
theorem d_Ld_hoursFrom_12 : decode b_Ld_hoursFrom 12 = .ok (.getfield 9, 3) := by decide +kernel
theorem d_Ld_hoursFrom_15 : decode b_Ld_hoursFrom 15 = .ok (.ifCond .le 23, 3) := by decide +kernel
theorem d_Ld_hoursFrom_18 : decode b_Ld_hoursFrom 18 = .ok (.iload_n 3, 1) := by decide +kernel
theorem d_Ld_hoursFrom_19 : decode b_Ld_hoursFrom 19 = .ok (.iconst 1, 1) := by decide +kernel
theorem d_Ld_hoursFrom_20 : decode b_Ld_hoursFrom 20 = .ok (.iload_n 1, 1) := by decide +kernel
theorem d_Ld_hoursFrom_21 : decode b_Ld_hoursFrom 21 = .ok (.iload 4, 2) := by decide +kernel
theorem d_Ld_hoursFrom_23 : decode b_Ld_hoursFrom 23 = .ok (.iadd, 1) := by decide +kernel
theorem d_Ld_hoursFrom_24 : decode b_Ld_hoursFrom 24 = .ok (.aload_n 0, 1) := by decide +kernel
theorem d_Ld_hoursFrom_25 : decode b_Ld_hoursFrom 25 = .ok (.getfield 9, 3) := by decide +kernel
theorem d_Ld_hoursFrom_28 : decode b_Ld_hoursFrom 28 = .ok (.irem, 1) := by decide +kernel
theorem d_Ld_hoursFrom_29 : decode b_Ld_hoursFrom 29 = .ok (.ishl, 1) := by decide +kernel
theorem d_Ld_hoursFrom_30 : decode b_Ld_hoursFrom 30 = .ok (.ior, 1) := by decide +kernel
theorem d_Ld_hoursFrom_31 : decode b_Ld_hoursFrom 31 = .ok (.istore_n 3, 1) := by decide +kernel
theorem d_Ld_hoursFrom_32 : decode b_Ld_hoursFrom 32 = .ok (.iinc 4 1, 3) := by decide +kernel
theorem d_Ld_hoursFrom_35 : decode b_Ld_hoursFrom 35 = .ok (.goto (-30), 3) := by decide +kernel
theorem d_Ld_hoursFrom_38 : decode b_Ld_hoursFrom 38 = .ok (.iload_n 3, 1) := by decide +kernel
theorem d_Ld_hoursFrom_39 : decode b_Ld_hoursFrom 39 = .ok (.ireturn, 1) := by decide +kernel
theorem d_Si_fits_0 : decode b_Si_fits 0 = .ok (.iconst 0, 1) := by decide +kernel
theorem d_Si_fits_1 : decode b_Si_fits 1 = .ok (.istore 4, 2) := by decide +kernel
theorem d_Si_fits_3 : decode b_Si_fits 3 = .ok (.iload 4, 2) := by decide +kernel
theorem d_Si_fits_5 : decode b_Si_fits 5 = .ok (.aload_n 0, 1) := by decide +kernel
theorem d_Si_fits_6 : decode b_Si_fits 6 = .ok (.getfield 21, 3) := by decide +kernel
theorem d_Si_fits_9 : decode b_Si_fits 9 = .ok (.if_icmp .ge 71, 3) := by decide +kernel
theorem d_Si_fits_12 : decode b_Si_fits 12 = .ok (.aload_n 2, 1) := by decide +kernel
theorem d_Si_fits_13 : decode b_Si_fits 13 = .ok (.aload_n 0, 1) := by decide +kernel
theorem d_Si_fits_14 : decode b_Si_fits 14 = .ok (.getfield 15, 3) := by decide +kernel
theorem d_Si_fits_17 : decode b_Si_fits 17 = .ok (.iload 4, 2) := by decide +kernel
theorem d_Si_fits_19 : decode b_Si_fits 19 = .ok (.iaload, 1) := by decide +kernel
theorem d_Si_fits_20 : decode b_Si_fits 20 = .ok (.iaload, 1) := by decide +kernel
theorem d_Si_fits_21 : decode b_Si_fits 21 = .ok (.aload_n 1, 1) := by decide +kernel
theorem d_Si_fits_22 : decode b_Si_fits 22 = .ok (.getfield 44, 3) := by decide +kernel
theorem d_Si_fits_25 : decode b_Si_fits 25 = .ok (.aload_n 0, 1) := by decide +kernel
theorem d_Si_fits_26 : decode b_Si_fits 26 = .ok (.getfield 9, 3) := by decide +kernel
theorem d_Si_fits_29 : decode b_Si_fits 29 = .ok (.iload 4, 2) := by decide +kernel
theorem d_Si_fits_31 : decode b_Si_fits 31 = .ok (.iaload, 1) := by decide +kernel
theorem d_Si_fits_32 : decode b_Si_fits 32 = .ok (.iaload, 1) := by decide +kernel
theorem d_Si_fits_33 : decode b_Si_fits 33 = .ok (.if_icmp .ne 21, 3) := by decide +kernel
theorem d_Si_fits_36 : decode b_Si_fits 36 = .ok (.iload_n 3, 1) := by decide +kernel
theorem d_Si_fits_37 : decode b_Si_fits 37 = .ok (.aload_n 0, 1) := by decide +kernel
theorem d_Si_fits_38 : decode b_Si_fits 38 = .ok (.getfield 15, 3) := by decide +kernel
theorem d_Si_fits_41 : decode b_Si_fits 41 = .ok (.iload 4, 2) := by decide +kernel
theorem d_Si_fits_43 : decode b_Si_fits 43 = .ok (.iaload, 1) := by decide +kernel
theorem d_Si_fits_44 : decode b_Si_fits 44 = .ok (.ishr, 1) := by decide +kernel
theorem d_Si_fits_45 : decode b_Si_fits 45 = .ok (.iconst 1, 1) := by decide +kernel
theorem d_Si_fits_46 : decode b_Si_fits 46 = .ok (.iand, 1) := by decide +kernel
theorem d_Si_fits_47 : decode b_Si_fits 47 = .ok (.ifCond .ne 7, 3) := by decide +kernel
theorem d_Si_fits_50 : decode b_Si_fits 50 = .ok (.iconst 1, 1) := by decide +kernel
theorem d_Si_fits_51 : decode b_Si_fits 51 = .ok (.goto 4, 3) := by decide +kernel
theorem d_Si_fits_54 : decode b_Si_fits 54 = .ok (.iconst 0, 1) := by decide +kernel
theorem d_Si_fits_55 : decode b_Si_fits 55 = .ok (.istore 5, 2) := by decide +kernel
theorem d_Si_fits_57 : decode b_Si_fits 57 = .ok (.iload 5, 2) := by decide +kernel
theorem d_Si_fits_59 : decode b_Si_fits 59 = .ok (.invokestatic 31, 3) := by decide +kernel
theorem d_Si_fits_62 : decode b_Si_fits 62 = .ok (.aload_n 0, 1) := by decide +kernel
theorem d_Si_fits_63 : decode b_Si_fits 63 = .ok (.getfield 18, 3) := by decide +kernel
theorem d_Si_fits_66 : decode b_Si_fits 66 = .ok (.iload 4, 2) := by decide +kernel
theorem d_Si_fits_68 : decode b_Si_fits 68 = .ok (.iaload, 1) := by decide +kernel
theorem d_Si_fits_69 : decode b_Si_fits 69 = .ok (.if_icmp .eq 5, 3) := by decide +kernel
theorem d_Si_fits_72 : decode b_Si_fits 72 = .ok (.iconst 0, 1) := by decide +kernel
theorem d_Si_fits_73 : decode b_Si_fits 73 = .ok (.ireturn, 1) := by decide +kernel
theorem d_Si_fits_74 : decode b_Si_fits 74 = .ok (.iinc 4 1, 3) := by decide +kernel
theorem d_Si_fits_77 : decode b_Si_fits 77 = .ok (.goto (-74), 3) := by decide +kernel
theorem d_Si_fits_80 : decode b_Si_fits 80 = .ok (.iconst 1, 1) := by decide +kernel
theorem d_Si_fits_81 : decode b_Si_fits 81 = .ok (.ireturn, 1) := by decide +kernel

theorem d_N_init_0 : decode b_N_init 0 = .ok (.aload_n 0, 1) := by decide +kernel
theorem d_N_init_1 : decode b_N_init 1 = .ok (.invokespecial 1, 3) := by decide +kernel
theorem d_N_init_4 : decode b_N_init 4 = .ok (.aload_n 0, 1) := by decide +kernel
theorem d_N_init_5 : decode b_N_init 5 = .ok (.new 7, 3) := by decide +kernel
theorem d_N_init_8 : decode b_N_init 8 = .ok (.dup, 1) := by decide +kernel
theorem d_N_init_9 : decode b_N_init 9 = .ok (.invokespecial 9, 3) := by decide +kernel
theorem d_N_init_12 : decode b_N_init 12 = .ok (.putfield 10, 3) := by decide +kernel
theorem d_N_init_15 : decode b_N_init 15 = .ok (.aload_n 0, 1) := by decide +kernel
theorem d_N_init_16 : decode b_N_init 16 = .ok (.iconst 3, 1) := by decide +kernel
theorem d_N_init_17 : decode b_N_init 17 = .ok (.anewarray 7, 3) := by decide +kernel
theorem d_N_init_20 : decode b_N_init 20 = .ok (.putfield 16, 3) := by decide +kernel
theorem d_N_init_23 : decode b_N_init 23 = .ok (.aload_n 0, 1) := by decide +kernel
theorem d_N_init_24 : decode b_N_init 24 = .ok (.new 20, 3) := by decide +kernel
theorem d_N_init_27 : decode b_N_init 27 = .ok (.dup, 1) := by decide +kernel
theorem d_N_init_28 : decode b_N_init 28 = .ok (.invokespecial 22, 3) := by decide +kernel
theorem d_N_init_31 : decode b_N_init 31 = .ok (.putfield 23, 3) := by decide +kernel
theorem d_N_init_34 : decode b_N_init 34 = .ok (.aload_n 0, 1) := by decide +kernel
theorem d_N_init_35 : decode b_N_init 35 = .ok (.new 27, 3) := by decide +kernel
theorem d_N_init_38 : decode b_N_init 38 = .ok (.dup, 1) := by decide +kernel
theorem d_N_init_39 : decode b_N_init 39 = .ok (.invokespecial 29, 3) := by decide +kernel
theorem d_N_init_42 : decode b_N_init 42 = .ok (.putfield 30, 3) := by decide +kernel
theorem d_N_init_45 : decode b_N_init 45 = .ok (.aload_n 0, 1) := by decide +kernel
theorem d_N_init_46 : decode b_N_init 46 = .ok (.bipush 20, 2) := by decide +kernel
theorem d_N_init_48 : decode b_N_init 48 = .ok (.newarray .int, 2) := by decide +kernel
theorem d_N_init_50 : decode b_N_init 50 = .ok (.putfield 34, 3) := by decide +kernel
theorem d_N_init_53 : decode b_N_init 53 = .ok (.aload_n 0, 1) := by decide +kernel
theorem d_N_init_54 : decode b_N_init 54 = .ok (.bipush 48, 2) := by decide +kernel
theorem d_N_init_56 : decode b_N_init 56 = .ok (.newarray .int, 2) := by decide +kernel
theorem d_N_init_58 : decode b_N_init 58 = .ok (.putfield 38, 3) := by decide +kernel
theorem d_N_init_61 : decode b_N_init 61 = .ok (.aload_n 0, 1) := by decide +kernel
theorem d_N_init_62 : decode b_N_init 62 = .ok (.bipush 6, 2) := by decide +kernel
theorem d_N_init_64 : decode b_N_init 64 = .ok (.newarray .int, 2) := by decide +kernel
theorem d_N_init_66 : decode b_N_init 66 = .ok (.putfield 41, 3) := by decide +kernel
theorem d_N_init_69 : decode b_N_init 69 = .ok (.aload_n 0, 1) := by decide +kernel
theorem d_N_init_70 : decode b_N_init 70 = .ok (.bipush 6, 2) := by decide +kernel
theorem d_N_init_72 : decode b_N_init 72 = .ok (.newarray .int, 2) := by decide +kernel
theorem d_N_init_74 : decode b_N_init 74 = .ok (.putfield 44, 3) := by decide +kernel
theorem d_N_init_77 : decode b_N_init 77 = .ok (.return_, 1) := by decide +kernel
theorem d_N_feed_0 : decode b_N_feed 0 = .ok (.aload_n 0, 1) := by decide +kernel
theorem d_N_feed_1 : decode b_N_feed 1 = .ok (.getfield 10, 3) := by decide +kernel
theorem d_N_feed_4 : decode b_N_feed 4 = .ok (.getfield 47, 3) := by decide +kernel
theorem d_N_feed_7 : decode b_N_feed 7 = .ok (.sipush 580, 3) := by decide +kernel
theorem d_N_feed_10 : decode b_N_feed 10 = .ok (.if_icmp .le 5, 3) := by decide +kernel
theorem d_N_feed_13 : decode b_N_feed 13 = .ok (.iconst (-1), 1) := by decide +kernel
theorem d_N_feed_14 : decode b_N_feed 14 = .ok (.ireturn, 1) := by decide +kernel
theorem d_N_feed_15 : decode b_N_feed 15 = .ok (.aload_n 0, 1) := by decide +kernel
theorem d_N_feed_16 : decode b_N_feed 16 = .ok (.getfield 10, 3) := by decide +kernel
theorem d_N_feed_19 : decode b_N_feed 19 = .ok (.iload_n 1, 1) := by decide +kernel
theorem d_N_feed_20 : decode b_N_feed 20 = .ok (.invokevirtual 51, 3) := by decide +kernel
theorem d_N_feed_23 : decode b_N_feed 23 = .ok (.aload_n 0, 1) := by decide +kernel
theorem d_N_feed_24 : decode b_N_feed 24 = .ok (.getfield 10, 3) := by decide +kernel
theorem d_N_feed_27 : decode b_N_feed 27 = .ok (.iload_n 2, 1) := by decide +kernel
theorem d_N_feed_28 : decode b_N_feed 28 = .ok (.invokevirtual 51, 3) := by decide +kernel
theorem d_N_feed_31 : decode b_N_feed 31 = .ok (.aload_n 0, 1) := by decide +kernel
theorem d_N_feed_32 : decode b_N_feed 32 = .ok (.getfield 10, 3) := by decide +kernel
theorem d_N_feed_35 : decode b_N_feed 35 = .ok (.iload_n 3, 1) := by decide +kernel
theorem d_N_feed_36 : decode b_N_feed 36 = .ok (.invokevirtual 51, 3) := by decide +kernel
theorem d_N_feed_39 : decode b_N_feed 39 = .ok (.aload_n 0, 1) := by decide +kernel
theorem d_N_feed_40 : decode b_N_feed 40 = .ok (.getfield 10, 3) := by decide +kernel
theorem d_N_feed_43 : decode b_N_feed 43 = .ok (.iload 4, 2) := by decide +kernel
theorem d_N_feed_45 : decode b_N_feed 45 = .ok (.invokevirtual 51, 3) := by decide +kernel
theorem d_N_feed_48 : decode b_N_feed 48 = .ok (.aload_n 0, 1) := by decide +kernel
theorem d_N_feed_49 : decode b_N_feed 49 = .ok (.getfield 10, 3) := by decide +kernel
theorem d_N_feed_52 : decode b_N_feed 52 = .ok (.iload 5, 2) := by decide +kernel
theorem d_N_feed_54 : decode b_N_feed 54 = .ok (.invokevirtual 51, 3) := by decide +kernel
theorem d_N_feed_57 : decode b_N_feed 57 = .ok (.aload_n 0, 1) := by decide +kernel
theorem d_N_feed_58 : decode b_N_feed 58 = .ok (.getfield 10, 3) := by decide +kernel
theorem d_N_feed_61 : decode b_N_feed 61 = .ok (.getfield 47, 3) := by decide +kernel
theorem d_N_feed_64 : decode b_N_feed 64 = .ok (.ireturn, 1) := by decide +kernel
theorem d_N_end_0 : decode b_N_end 0 = .ok (.iload_n 1, 1) := by decide +kernel
theorem d_N_end_1 : decode b_N_end 1 = .ok (.ifCond .lt 14, 3) := by decide +kernel
theorem d_N_end_4 : decode b_N_end 4 = .ok (.iload_n 1, 1) := by decide +kernel
theorem d_N_end_5 : decode b_N_end 5 = .ok (.aload_n 0, 1) := by decide +kernel
theorem d_N_end_6 : decode b_N_end 6 = .ok (.getfield 10, 3) := by decide +kernel
theorem d_N_end_9 : decode b_N_end 9 = .ok (.getfield 47, 3) := by decide +kernel
theorem d_N_end_12 : decode b_N_end 12 = .ok (.if_icmp .le 5, 3) := by decide +kernel
theorem d_N_end_15 : decode b_N_end 15 = .ok (.iconst (-1), 1) := by decide +kernel
theorem d_N_end_16 : decode b_N_end 16 = .ok (.ireturn, 1) := by decide +kernel
theorem d_N_end_17 : decode b_N_end 17 = .ok (.aload_n 0, 1) := by decide +kernel
theorem d_N_end_18 : decode b_N_end 18 = .ok (.getfield 10, 3) := by decide +kernel
theorem d_N_end_21 : decode b_N_end 21 = .ok (.iload_n 1, 1) := by decide +kernel
theorem d_N_end_22 : decode b_N_end 22 = .ok (.putfield 47, 3) := by decide +kernel
theorem d_N_end_25 : decode b_N_end 25 = .ok (.iload_n 1, 1) := by decide +kernel
theorem d_N_end_26 : decode b_N_end 26 = .ok (.ireturn, 1) := by decide +kernel
theorem d_N_text_0 : decode b_N_text 0 = .ok (.aload_n 0, 1) := by decide +kernel
theorem d_N_text_1 : decode b_N_text 1 = .ok (.getfield 10, 3) := by decide +kernel
theorem d_N_text_4 : decode b_N_text 4 = .ok (.getfield 47, 3) := by decide +kernel
theorem d_N_text_7 : decode b_N_text 7 = .ok (.istore_n 3, 1) := by decide +kernel
theorem d_N_text_8 : decode b_N_text 8 = .ok (.aload_n 0, 1) := by decide +kernel
theorem d_N_text_9 : decode b_N_text 9 = .ok (.iload_n 1, 1) := by decide +kernel
theorem d_N_text_10 : decode b_N_text 10 = .ok (.iload_n 2, 1) := by decide +kernel
theorem d_N_text_11 : decode b_N_text 11 = .ok (.invokevirtual 55, 3) := by decide +kernel
theorem d_N_text_14 : decode b_N_text 14 = .ok (.istore 4, 2) := by decide +kernel
theorem d_N_text_16 : decode b_N_text 16 = .ok (.aload_n 0, 1) := by decide +kernel
theorem d_N_text_17 : decode b_N_text 17 = .ok (.getfield 10, 3) := by decide +kernel
theorem d_N_text_20 : decode b_N_text 20 = .ok (.iconst 0, 1) := by decide +kernel
theorem d_N_text_21 : decode b_N_text 21 = .ok (.putfield 47, 3) := by decide +kernel
theorem d_N_text_24 : decode b_N_text 24 = .ok (.aload_n 0, 1) := by decide +kernel
theorem d_N_text_25 : decode b_N_text 25 = .ok (.getfield 10, 3) := by decide +kernel
theorem d_N_text_28 : decode b_N_text 28 = .ok (.iconst 0, 1) := by decide +kernel
theorem d_N_text_29 : decode b_N_text 29 = .ok (.putfield 59, 3) := by decide +kernel
theorem d_N_text_32 : decode b_N_text 32 = .ok (.aload_n 0, 1) := by decide +kernel
theorem d_N_text_33 : decode b_N_text 33 = .ok (.getfield 10, 3) := by decide +kernel
theorem d_N_text_36 : decode b_N_text 36 = .ok (.iconst (-1), 1) := by decide +kernel
theorem d_N_text_37 : decode b_N_text 37 = .ok (.putfield 62, 3) := by decide +kernel
theorem d_N_text_40 : decode b_N_text 40 = .ok (.iload 4, 2) := by decide +kernel
theorem d_N_text_42 : decode b_N_text 42 = .ok (.iconst (-1), 1) := by decide +kernel
theorem d_N_text_43 : decode b_N_text 43 = .ok (.if_icmp .ne 6, 3) := by decide +kernel
theorem d_N_text_46 : decode b_N_text 46 = .ok (.bipush (-2), 2) := by decide +kernel
theorem d_N_text_48 : decode b_N_text 48 = .ok (.ireturn, 1) := by decide +kernel
theorem d_N_text_49 : decode b_N_text 49 = .ok (.aload_n 0, 1) := by decide +kernel
theorem d_N_text_50 : decode b_N_text 50 = .ok (.getfield 23, 3) := by decide +kernel
theorem d_N_text_53 : decode b_N_text 53 = .ok (.iload_n 1, 1) := by decide +kernel
theorem d_N_text_54 : decode b_N_text 54 = .ok (.aload_n 0, 1) := by decide +kernel
theorem d_N_text_55 : decode b_N_text 55 = .ok (.getfield 10, 3) := by decide +kernel
theorem d_N_text_58 : decode b_N_text 58 = .ok (.getfield 65, 3) := by decide +kernel
theorem d_N_text_61 : decode b_N_text 61 = .ok (.iload_n 3, 1) := by decide +kernel
theorem d_N_text_62 : decode b_N_text 62 = .ok (.invokevirtual 68, 3) := by decide +kernel
theorem d_N_text_65 : decode b_N_text 65 = .ok (.aload_n 0, 1) := by decide +kernel
theorem d_N_text_66 : decode b_N_text 66 = .ok (.getfield 23, 3) := by decide +kernel
theorem d_N_text_69 : decode b_N_text 69 = .ok (.getfield 72, 3) := by decide +kernel
theorem d_N_text_72 : decode b_N_text 72 = .ok (.ifCond .eq 33, 3) := by decide +kernel
theorem d_N_text_75 : decode b_N_text 75 = .ok (.aload_n 0, 1) := by decide +kernel
theorem d_N_text_76 : decode b_N_text 76 = .ok (.getfield 10, 3) := by decide +kernel
theorem d_N_text_79 : decode b_N_text 79 = .ok (.aload_n 0, 1) := by decide +kernel
theorem d_N_text_80 : decode b_N_text 80 = .ok (.getfield 23, 3) := by decide +kernel
theorem d_N_text_83 : decode b_N_text 83 = .ok (.getfield 72, 3) := by decide +kernel
theorem d_N_text_86 : decode b_N_text 86 = .ok (.putfield 59, 3) := by decide +kernel
theorem d_N_text_89 : decode b_N_text 89 = .ok (.aload_n 0, 1) := by decide +kernel
theorem d_N_text_90 : decode b_N_text 90 = .ok (.getfield 10, 3) := by decide +kernel
theorem d_N_text_93 : decode b_N_text 93 = .ok (.aload_n 0, 1) := by decide +kernel
theorem d_N_text_94 : decode b_N_text 94 = .ok (.getfield 23, 3) := by decide +kernel
theorem d_N_text_97 : decode b_N_text 97 = .ok (.getfield 73, 3) := by decide +kernel
theorem d_N_text_100 : decode b_N_text 100 = .ok (.putfield 62, 3) := by decide +kernel
theorem d_N_text_103 : decode b_N_text 103 = .ok (.iconst (-1), 1) := by decide +kernel
theorem d_N_text_104 : decode b_N_text 104 = .ok (.ireturn, 1) := by decide +kernel
theorem d_N_text_105 : decode b_N_text 105 = .ok (.aload_n 0, 1) := by decide +kernel
theorem d_N_text_106 : decode b_N_text 106 = .ok (.iload_n 1, 1) := by decide +kernel
theorem d_N_text_107 : decode b_N_text 107 = .ok (.iload 4, 2) := by decide +kernel
theorem d_N_text_109 : decode b_N_text 109 = .ok (.invokevirtual 74, 3) := by decide +kernel
theorem d_N_text_112 : decode b_N_text 112 = .ok (.iload 4, 2) := by decide +kernel
theorem d_N_text_114 : decode b_N_text 114 = .ok (.ireturn, 1) := by decide +kernel
theorem d_N_slotFor_0 : decode b_N_slotFor 0 = .ok (.iload_n 1, 1) := by decide +kernel
theorem d_N_slotFor_1 : decode b_N_slotFor 1 = .ok (.ifCond .lt 8, 3) := by decide +kernel
theorem d_N_slotFor_4 : decode b_N_slotFor 4 = .ok (.iload_n 1, 1) := by decide +kernel
theorem d_N_slotFor_5 : decode b_N_slotFor 5 = .ok (.iconst 5, 1) := by decide +kernel
theorem d_N_slotFor_6 : decode b_N_slotFor 6 = .ok (.if_icmp .lt 5, 3) := by decide +kernel
theorem d_N_slotFor_9 : decode b_N_slotFor 9 = .ok (.iconst (-1), 1) := by decide +kernel
theorem d_N_slotFor_10 : decode b_N_slotFor 10 = .ok (.ireturn, 1) := by decide +kernel
theorem d_N_slotFor_11 : decode b_N_slotFor 11 = .ok (.aload_n 0, 1) := by decide +kernel
theorem d_N_slotFor_12 : decode b_N_slotFor 12 = .ok (.getfield 10, 3) := by decide +kernel
theorem d_N_slotFor_15 : decode b_N_slotFor 15 = .ok (.getfield 78, 3) := by decide +kernel
theorem d_N_slotFor_18 : decode b_N_slotFor 18 = .ok (.iload_n 1, 1) := by decide +kernel
theorem d_N_slotFor_19 : decode b_N_slotFor 19 = .ok (.iaload, 1) := by decide +kernel
theorem d_N_slotFor_20 : decode b_N_slotFor 20 = .ok (.istore_n 3, 1) := by decide +kernel
theorem d_N_slotFor_21 : decode b_N_slotFor 21 = .ok (.iload_n 2, 1) := by decide +kernel
theorem d_N_slotFor_22 : decode b_N_slotFor 22 = .ok (.iconst (-1), 1) := by decide +kernel
theorem d_N_slotFor_23 : decode b_N_slotFor 23 = .ok (.if_icmp .ne 14, 3) := by decide +kernel
theorem d_N_slotFor_26 : decode b_N_slotFor 26 = .ok (.iload_n 3, 1) := by decide +kernel
theorem d_N_slotFor_27 : decode b_N_slotFor 27 = .ok (.iconst 2, 1) := by decide +kernel
theorem d_N_slotFor_28 : decode b_N_slotFor 28 = .ok (.if_icmp .ge 7, 3) := by decide +kernel
theorem d_N_slotFor_31 : decode b_N_slotFor 31 = .ok (.iload_n 3, 1) := by decide +kernel
theorem d_N_slotFor_32 : decode b_N_slotFor 32 = .ok (.goto 4, 3) := by decide +kernel
theorem d_N_slotFor_35 : decode b_N_slotFor 35 = .ok (.iconst (-1), 1) := by decide +kernel
theorem d_N_slotFor_36 : decode b_N_slotFor 36 = .ok (.ireturn, 1) := by decide +kernel
theorem d_N_slotFor_37 : decode b_N_slotFor 37 = .ok (.iload_n 2, 1) := by decide +kernel
theorem d_N_slotFor_38 : decode b_N_slotFor 38 = .ok (.ifCond .lt 12, 3) := by decide +kernel
theorem d_N_slotFor_41 : decode b_N_slotFor 41 = .ok (.iload_n 2, 1) := by decide +kernel
theorem d_N_slotFor_42 : decode b_N_slotFor 42 = .ok (.iload_n 3, 1) := by decide +kernel
theorem d_N_slotFor_43 : decode b_N_slotFor 43 = .ok (.if_icmp .ge 7, 3) := by decide +kernel
theorem d_N_slotFor_46 : decode b_N_slotFor 46 = .ok (.iload_n 2, 1) := by decide +kernel
theorem d_N_slotFor_47 : decode b_N_slotFor 47 = .ok (.goto 4, 3) := by decide +kernel
theorem d_N_slotFor_50 : decode b_N_slotFor 50 = .ok (.iconst (-1), 1) := by decide +kernel
theorem d_N_slotFor_51 : decode b_N_slotFor 51 = .ok (.ireturn, 1) := by decide +kernel
theorem d_N_oneIf_0 : decode b_N_oneIf 0 = .ok (.iload_n 0, 1) := by decide +kernel
theorem d_N_oneIf_1 : decode b_N_oneIf 1 = .ok (.ifCond .eq 7, 3) := by decide +kernel
theorem d_N_oneIf_4 : decode b_N_oneIf 4 = .ok (.iconst 1, 1) := by decide +kernel
theorem d_N_oneIf_5 : decode b_N_oneIf 5 = .ok (.goto 4, 3) := by decide +kernel
theorem d_N_oneIf_8 : decode b_N_oneIf 8 = .ok (.iconst 0, 1) := by decide +kernel
theorem d_N_oneIf_9 : decode b_N_oneIf 9 = .ok (.ireturn, 1) := by decide +kernel
theorem d_N_keep_0 : decode b_N_keep 0 = .ok (.iload_n 1, 1) := by decide +kernel
theorem d_N_keep_1 : decode b_N_keep 1 = .ok (.tableswitch 123 0 3 #[31, 53, 79, 101], 31) := by decide +kernel
theorem d_N_keep_32 : decode b_N_keep 32 = .ok (.aload_n 0, 1) := by decide +kernel
theorem d_N_keep_33 : decode b_N_keep 33 = .ok (.getfield 10, 3) := by decide +kernel
theorem d_N_keep_36 : decode b_N_keep 36 = .ok (.getfield 81, 3) := by decide +kernel
theorem d_N_keep_39 : decode b_N_keep 39 = .ok (.iload_n 2, 1) := by decide +kernel
theorem d_N_keep_40 : decode b_N_keep 40 = .ok (.aaload, 1) := by decide +kernel
theorem d_N_keep_41 : decode b_N_keep 41 = .ok (.aload_n 0, 1) := by decide +kernel
theorem d_N_keep_42 : decode b_N_keep 42 = .ok (.getfield 23, 3) := by decide +kernel
theorem d_N_keep_45 : decode b_N_keep 45 = .ok (.getfield 85, 3) := by decide +kernel
theorem d_N_keep_48 : decode b_N_keep 48 = .ok (.invokevirtual 89, 3) := by decide +kernel
theorem d_N_keep_51 : decode b_N_keep 51 = .ok (.goto 96, 3) := by decide +kernel
theorem d_N_keep_54 : decode b_N_keep 54 = .ok (.aload_n 0, 1) := by decide +kernel
theorem d_N_keep_55 : decode b_N_keep 55 = .ok (.getfield 23, 3) := by decide +kernel
theorem d_N_keep_58 : decode b_N_keep 58 = .ok (.getfield 95, 3) := by decide +kernel
theorem d_N_keep_61 : decode b_N_keep 61 = .ok (.iconst 0, 1) := by decide +kernel
theorem d_N_keep_62 : decode b_N_keep 62 = .ok (.aload_n 0, 1) := by decide +kernel
theorem d_N_keep_63 : decode b_N_keep 63 = .ok (.getfield 10, 3) := by decide +kernel
theorem d_N_keep_66 : decode b_N_keep 66 = .ok (.getfield 98, 3) := by decide +kernel
theorem d_N_keep_69 : decode b_N_keep 69 = .ok (.iload_n 2, 1) := by decide +kernel
theorem d_N_keep_70 : decode b_N_keep 70 = .ok (.aaload, 1) := by decide +kernel
theorem d_N_keep_71 : decode b_N_keep 71 = .ok (.iconst 0, 1) := by decide +kernel
theorem d_N_keep_72 : decode b_N_keep 72 = .ok (.bipush 24, 2) := by decide +kernel
theorem d_N_keep_74 : decode b_N_keep 74 = .ok (.invokestatic 102, 3) := by decide +kernel
theorem d_N_keep_77 : decode b_N_keep 77 = .ok (.goto 70, 3) := by decide +kernel
theorem d_N_keep_80 : decode b_N_keep 80 = .ok (.aload_n 0, 1) := by decide +kernel
theorem d_N_keep_81 : decode b_N_keep 81 = .ok (.getfield 10, 3) := by decide +kernel
theorem d_N_keep_84 : decode b_N_keep 84 = .ok (.getfield 108, 3) := by decide +kernel
theorem d_N_keep_87 : decode b_N_keep 87 = .ok (.iload_n 2, 1) := by decide +kernel
theorem d_N_keep_88 : decode b_N_keep 88 = .ok (.aaload, 1) := by decide +kernel
theorem d_N_keep_89 : decode b_N_keep 89 = .ok (.aload_n 0, 1) := by decide +kernel
theorem d_N_keep_90 : decode b_N_keep 90 = .ok (.getfield 23, 3) := by decide +kernel
theorem d_N_keep_93 : decode b_N_keep 93 = .ok (.getfield 112, 3) := by decide +kernel
theorem d_N_keep_96 : decode b_N_keep 96 = .ok (.invokevirtual 116, 3) := by decide +kernel
theorem d_N_keep_99 : decode b_N_keep 99 = .ok (.goto 48, 3) := by decide +kernel
theorem d_N_keep_102 : decode b_N_keep 102 = .ok (.aload_n 0, 1) := by decide +kernel
theorem d_N_keep_103 : decode b_N_keep 103 = .ok (.getfield 10, 3) := by decide +kernel
theorem d_N_keep_106 : decode b_N_keep 106 = .ok (.getfield 121, 3) := by decide +kernel
theorem d_N_keep_109 : decode b_N_keep 109 = .ok (.iload_n 2, 1) := by decide +kernel
theorem d_N_keep_110 : decode b_N_keep 110 = .ok (.aaload, 1) := by decide +kernel
theorem d_N_keep_111 : decode b_N_keep 111 = .ok (.aload_n 0, 1) := by decide +kernel
theorem d_N_keep_112 : decode b_N_keep 112 = .ok (.getfield 23, 3) := by decide +kernel
theorem d_N_keep_115 : decode b_N_keep 115 = .ok (.getfield 125, 3) := by decide +kernel
theorem d_N_keep_118 : decode b_N_keep 118 = .ok (.invokevirtual 129, 3) := by decide +kernel
theorem d_N_keep_121 : decode b_N_keep 121 = .ok (.goto 26, 3) := by decide +kernel
theorem d_N_keep_124 : decode b_N_keep 124 = .ok (.aload_n 0, 1) := by decide +kernel
theorem d_N_keep_125 : decode b_N_keep 125 = .ok (.getfield 23, 3) := by decide +kernel
theorem d_N_keep_128 : decode b_N_keep 128 = .ok (.getfield 134, 3) := by decide +kernel
theorem d_N_keep_131 : decode b_N_keep 131 = .ok (.iconst 0, 1) := by decide +kernel
theorem d_N_keep_132 : decode b_N_keep 132 = .ok (.aload_n 0, 1) := by decide +kernel
theorem d_N_keep_133 : decode b_N_keep 133 = .ok (.getfield 10, 3) := by decide +kernel
theorem d_N_keep_136 : decode b_N_keep 136 = .ok (.getfield 137, 3) := by decide +kernel
theorem d_N_keep_139 : decode b_N_keep 139 = .ok (.iload_n 2, 1) := by decide +kernel
theorem d_N_keep_140 : decode b_N_keep 140 = .ok (.aaload, 1) := by decide +kernel
theorem d_N_keep_141 : decode b_N_keep 141 = .ok (.iconst 0, 1) := by decide +kernel
theorem d_N_keep_142 : decode b_N_keep 142 = .ok (.bipush 8, 2) := by decide +kernel
theorem d_N_keep_144 : decode b_N_keep 144 = .ok (.invokestatic 102, 3) := by decide +kernel
theorem d_N_keep_147 : decode b_N_keep 147 = .ok (.iload_n 2, 1) := by decide +kernel
theorem d_N_keep_148 : decode b_N_keep 148 = .ok (.aload_n 0, 1) := by decide +kernel
theorem d_N_keep_149 : decode b_N_keep 149 = .ok (.getfield 10, 3) := by decide +kernel
theorem d_N_keep_152 : decode b_N_keep 152 = .ok (.getfield 78, 3) := by decide +kernel
theorem d_N_keep_155 : decode b_N_keep 155 = .ok (.iload_n 1, 1) := by decide +kernel
theorem d_N_keep_156 : decode b_N_keep 156 = .ok (.iaload, 1) := by decide +kernel
theorem d_N_keep_157 : decode b_N_keep 157 = .ok (.if_icmp .ne 16, 3) := by decide +kernel
theorem d_N_keep_160 : decode b_N_keep 160 = .ok (.aload_n 0, 1) := by decide +kernel
theorem d_N_keep_161 : decode b_N_keep 161 = .ok (.getfield 10, 3) := by decide +kernel
theorem d_N_keep_164 : decode b_N_keep 164 = .ok (.getfield 78, 3) := by decide +kernel
theorem d_N_keep_167 : decode b_N_keep 167 = .ok (.iload_n 1, 1) := by decide +kernel
theorem d_N_keep_168 : decode b_N_keep 168 = .ok (.dup2, 1) := by decide +kernel
theorem d_N_keep_169 : decode b_N_keep 169 = .ok (.iaload, 1) := by decide +kernel
theorem d_N_keep_170 : decode b_N_keep 170 = .ok (.iconst 1, 1) := by decide +kernel
theorem d_N_keep_171 : decode b_N_keep 171 = .ok (.iadd, 1) := by decide +kernel
theorem d_N_keep_172 : decode b_N_keep 172 = .ok (.iastore, 1) := by decide +kernel
theorem d_N_keep_173 : decode b_N_keep 173 = .ok (.return_, 1) := by decide +kernel
theorem d_N_fault_0 : decode b_N_fault 0 = .ok (.iload_n 1, 1) := by decide +kernel
theorem d_N_fault_1 : decode b_N_fault 1 = .ok (.lookupswitch 43 #[(0, 27), (1, 35)], 27) := by decide +kernel
theorem d_N_fault_28 : decode b_N_fault 28 = .ok (.aload_n 0, 1) := by decide +kernel
theorem d_N_fault_29 : decode b_N_fault 29 = .ok (.getfield 10, 3) := by decide +kernel
theorem d_N_fault_32 : decode b_N_fault 32 = .ok (.getfield 59, 3) := by decide +kernel
theorem d_N_fault_35 : decode b_N_fault 35 = .ok (.ireturn, 1) := by decide +kernel
theorem d_N_fault_36 : decode b_N_fault 36 = .ok (.aload_n 0, 1) := by decide +kernel
theorem d_N_fault_37 : decode b_N_fault 37 = .ok (.getfield 10, 3) := by decide +kernel
theorem d_N_fault_40 : decode b_N_fault 40 = .ok (.getfield 62, 3) := by decide +kernel
theorem d_N_fault_43 : decode b_N_fault 43 = .ok (.ireturn, 1) := by decide +kernel
theorem d_N_fault_44 : decode b_N_fault 44 = .ok (.iconst (-1), 1) := by decide +kernel
theorem d_N_fault_45 : decode b_N_fault 45 = .ok (.ireturn, 1) := by decide +kernel
theorem d_N_count_0 : decode b_N_count 0 = .ok (.iload_n 1, 1) := by decide +kernel
theorem d_N_count_1 : decode b_N_count 1 = .ok (.ifCond .lt 8, 3) := by decide +kernel
theorem d_N_count_4 : decode b_N_count 4 = .ok (.iload_n 1, 1) := by decide +kernel
theorem d_N_count_5 : decode b_N_count 5 = .ok (.iconst 5, 1) := by decide +kernel
theorem d_N_count_6 : decode b_N_count 6 = .ok (.if_icmp .lt 8, 3) := by decide +kernel
theorem d_N_count_9 : decode b_N_count 9 = .ok (.bipush (-2), 2) := by decide +kernel
theorem d_N_count_11 : decode b_N_count 11 = .ok (.goto 12, 3) := by decide +kernel
theorem d_N_count_14 : decode b_N_count 14 = .ok (.aload_n 0, 1) := by decide +kernel
theorem d_N_count_15 : decode b_N_count 15 = .ok (.getfield 10, 3) := by decide +kernel
theorem d_N_count_18 : decode b_N_count 18 = .ok (.getfield 78, 3) := by decide +kernel
theorem d_N_count_21 : decode b_N_count 21 = .ok (.iload_n 1, 1) := by decide +kernel
theorem d_N_count_22 : decode b_N_count 22 = .ok (.iaload, 1) := by decide +kernel
theorem d_N_count_23 : decode b_N_count 23 = .ok (.ireturn, 1) := by decide +kernel
theorem d_N_image_0 : decode b_N_image 0 = .ok (.iload_n 1, 1) := by decide +kernel
theorem d_N_image_1 : decode b_N_image 1 = .ok (.ifCond .lt 8, 3) := by decide +kernel
theorem d_N_image_4 : decode b_N_image 4 = .ok (.iload_n 1, 1) := by decide +kernel
theorem d_N_image_5 : decode b_N_image 5 = .ok (.iconst 3, 1) := by decide +kernel
theorem d_N_image_6 : decode b_N_image 6 = .ok (.if_icmp .lt 5, 3) := by decide +kernel
theorem d_N_image_9 : decode b_N_image 9 = .ok (.iconst 0, 1) := by decide +kernel
theorem d_N_image_10 : decode b_N_image 10 = .ok (.ireturn, 1) := by decide +kernel
theorem d_N_image_11 : decode b_N_image 11 = .ok (.aload_n 0, 1) := by decide +kernel
theorem d_N_image_12 : decode b_N_image 12 = .ok (.getfield 16, 3) := by decide +kernel
theorem d_N_image_15 : decode b_N_image 15 = .ok (.iload_n 1, 1) := by decide +kernel
theorem d_N_image_16 : decode b_N_image 16 = .ok (.aaload, 1) := by decide +kernel
theorem d_N_image_17 : decode b_N_image 17 = .ok (.ifnonnull 16, 3) := by decide +kernel
theorem d_N_image_20 : decode b_N_image 20 = .ok (.aload_n 0, 1) := by decide +kernel
theorem d_N_image_21 : decode b_N_image 21 = .ok (.getfield 16, 3) := by decide +kernel
theorem d_N_image_24 : decode b_N_image 24 = .ok (.iload_n 1, 1) := by decide +kernel
theorem d_N_image_25 : decode b_N_image 25 = .ok (.new 7, 3) := by decide +kernel
theorem d_N_image_28 : decode b_N_image 28 = .ok (.dup, 1) := by decide +kernel
theorem d_N_image_29 : decode b_N_image 29 = .ok (.invokespecial 9, 3) := by decide +kernel
theorem d_N_image_32 : decode b_N_image 32 = .ok (.aastore, 1) := by decide +kernel
theorem d_N_image_33 : decode b_N_image 33 = .ok (.aload_n 0, 1) := by decide +kernel
theorem d_N_image_34 : decode b_N_image 34 = .ok (.getfield 16, 3) := by decide +kernel
theorem d_N_image_37 : decode b_N_image 37 = .ok (.iload_n 1, 1) := by decide +kernel
theorem d_N_image_38 : decode b_N_image 38 = .ok (.aaload, 1) := by decide +kernel
theorem d_N_image_39 : decode b_N_image 39 = .ok (.aload_n 0, 1) := by decide +kernel
theorem d_N_image_40 : decode b_N_image 40 = .ok (.getfield 10, 3) := by decide +kernel
theorem d_N_image_43 : decode b_N_image 43 = .ok (.invokevirtual 140, 3) := by decide +kernel
theorem d_N_image_46 : decode b_N_image 46 = .ok (.iconst 1, 1) := by decide +kernel
theorem d_N_image_47 : decode b_N_image 47 = .ok (.ireturn, 1) := by decide +kernel
theorem d_N_again_0 : decode b_N_again 0 = .ok (.iload_n 1, 1) := by decide +kernel
theorem d_N_again_1 : decode b_N_again 1 = .ok (.ifCond .lt 17, 3) := by decide +kernel
theorem d_N_again_4 : decode b_N_again 4 = .ok (.iload_n 1, 1) := by decide +kernel
theorem d_N_again_5 : decode b_N_again 5 = .ok (.iconst 3, 1) := by decide +kernel
theorem d_N_again_6 : decode b_N_again 6 = .ok (.if_icmp .ge 12, 3) := by decide +kernel
theorem d_N_again_9 : decode b_N_again 9 = .ok (.aload_n 0, 1) := by decide +kernel
theorem d_N_again_10 : decode b_N_again 10 = .ok (.getfield 16, 3) := by decide +kernel
theorem d_N_again_13 : decode b_N_again 13 = .ok (.iload_n 1, 1) := by decide +kernel
theorem d_N_again_14 : decode b_N_again 14 = .ok (.aaload, 1) := by decide +kernel
theorem d_N_again_15 : decode b_N_again 15 = .ok (.ifnonnull 5, 3) := by decide +kernel
theorem d_N_again_18 : decode b_N_again 18 = .ok (.iconst 0, 1) := by decide +kernel
theorem d_N_again_19 : decode b_N_again 19 = .ok (.ireturn, 1) := by decide +kernel
theorem d_N_again_20 : decode b_N_again 20 = .ok (.aload_n 0, 1) := by decide +kernel
theorem d_N_again_21 : decode b_N_again 21 = .ok (.getfield 10, 3) := by decide +kernel
theorem d_N_again_24 : decode b_N_again 24 = .ok (.aload_n 0, 1) := by decide +kernel
theorem d_N_again_25 : decode b_N_again 25 = .ok (.getfield 16, 3) := by decide +kernel
theorem d_N_again_28 : decode b_N_again 28 = .ok (.iload_n 1, 1) := by decide +kernel
theorem d_N_again_29 : decode b_N_again 29 = .ok (.aaload, 1) := by decide +kernel
theorem d_N_again_30 : decode b_N_again 30 = .ok (.invokevirtual 140, 3) := by decide +kernel
theorem d_N_again_33 : decode b_N_again 33 = .ok (.iconst 1, 1) := by decide +kernel
theorem d_N_again_34 : decode b_N_again 34 = .ok (.ireturn, 1) := by decide +kernel
theorem d_N_land_0 : decode b_N_land 0 = .ok (.aload_n 0, 1) := by decide +kernel
theorem d_N_land_1 : decode b_N_land 1 = .ok (.iconst 0, 1) := by decide +kernel
theorem d_N_land_2 : decode b_N_land 2 = .ok (.iload_n 1, 1) := by decide +kernel
theorem d_N_land_3 : decode b_N_land 3 = .ok (.invokevirtual 143, 3) := by decide +kernel
theorem d_N_land_6 : decode b_N_land 6 = .ok (.ifCond .ne 5, 3) := by decide +kernel
theorem d_N_land_9 : decode b_N_land 9 = .ok (.iconst (-1), 1) := by decide +kernel
theorem d_N_land_10 : decode b_N_land 10 = .ok (.ireturn, 1) := by decide +kernel
theorem d_N_land_11 : decode b_N_land 11 = .ok (.aload_n 0, 1) := by decide +kernel
theorem d_N_land_12 : decode b_N_land 12 = .ok (.getfield 10, 3) := by decide +kernel
theorem d_N_land_15 : decode b_N_land 15 = .ok (.getfield 81, 3) := by decide +kernel
theorem d_N_land_18 : decode b_N_land 18 = .ok (.iload_n 1, 1) := by decide +kernel
theorem d_N_land_19 : decode b_N_land 19 = .ok (.aaload, 1) := by decide +kernel
theorem d_N_land_20 : decode b_N_land 20 = .ok (.astore_n 3, 1) := by decide +kernel
theorem d_N_land_21 : decode b_N_land 21 = .ok (.iload_n 2, 1) := by decide +kernel
theorem d_N_land_22 : decode b_N_land 22 = .ok (.bipush 10, 2) := by decide +kernel
theorem d_N_land_24 : decode b_N_land 24 = .ok (.if_icmp .lt 24, 3) := by decide +kernel
theorem d_N_land_27 : decode b_N_land 27 = .ok (.iload_n 2, 1) := by decide +kernel
theorem d_N_land_28 : decode b_N_land 28 = .ok (.bipush 10, 2) := by decide +kernel
theorem d_N_land_30 : decode b_N_land 30 = .ok (.aload_n 3, 1) := by decide +kernel
theorem d_N_land_31 : decode b_N_land 31 = .ok (.getfield 147, 3) := by decide +kernel
theorem d_N_land_34 : decode b_N_land 34 = .ok (.iadd, 1) := by decide +kernel
theorem d_N_land_35 : decode b_N_land 35 = .ok (.if_icmp .ge 13, 3) := by decide +kernel
theorem d_N_land_38 : decode b_N_land 38 = .ok (.aload_n 3, 1) := by decide +kernel
theorem d_N_land_39 : decode b_N_land 39 = .ok (.getfield 150, 3) := by decide +kernel
theorem d_N_land_42 : decode b_N_land 42 = .ok (.iload_n 2, 1) := by decide +kernel
theorem d_N_land_43 : decode b_N_land 43 = .ok (.bipush 10, 2) := by decide +kernel
theorem d_N_land_45 : decode b_N_land 45 = .ok (.isub, 1) := by decide +kernel
theorem d_N_land_46 : decode b_N_land 46 = .ok (.iaload, 1) := by decide +kernel
theorem d_N_land_47 : decode b_N_land 47 = .ok (.ireturn, 1) := by decide +kernel
theorem d_N_land_48 : decode b_N_land 48 = .ok (.iload_n 2, 1) := by decide +kernel
theorem d_N_land_49 : decode b_N_land 49 = .ok (.bipush 50, 2) := by decide +kernel
theorem d_N_land_51 : decode b_N_land 51 = .ok (.if_icmp .lt 24, 3) := by decide +kernel
theorem d_N_land_54 : decode b_N_land 54 = .ok (.iload_n 2, 1) := by decide +kernel
theorem d_N_land_55 : decode b_N_land 55 = .ok (.bipush 50, 2) := by decide +kernel
theorem d_N_land_57 : decode b_N_land 57 = .ok (.aload_n 3, 1) := by decide +kernel
theorem d_N_land_58 : decode b_N_land 58 = .ok (.getfield 153, 3) := by decide +kernel
theorem d_N_land_61 : decode b_N_land 61 = .ok (.iadd, 1) := by decide +kernel
theorem d_N_land_62 : decode b_N_land 62 = .ok (.if_icmp .ge 13, 3) := by decide +kernel
theorem d_N_land_65 : decode b_N_land 65 = .ok (.aload_n 3, 1) := by decide +kernel
theorem d_N_land_66 : decode b_N_land 66 = .ok (.getfield 156, 3) := by decide +kernel
theorem d_N_land_69 : decode b_N_land 69 = .ok (.iload_n 2, 1) := by decide +kernel
theorem d_N_land_70 : decode b_N_land 70 = .ok (.bipush 50, 2) := by decide +kernel
theorem d_N_land_72 : decode b_N_land 72 = .ok (.isub, 1) := by decide +kernel
theorem d_N_land_73 : decode b_N_land 73 = .ok (.iaload, 1) := by decide +kernel
theorem d_N_land_74 : decode b_N_land 74 = .ok (.ireturn, 1) := by decide +kernel
theorem d_N_land_75 : decode b_N_land 75 = .ok (.iload_n 2, 1) := by decide +kernel
theorem d_N_land_76 : decode b_N_land 76 = .ok (.bipush 60, 2) := by decide +kernel
theorem d_N_land_78 : decode b_N_land 78 = .ok (.if_icmp .lt 24, 3) := by decide +kernel
theorem d_N_land_81 : decode b_N_land 81 = .ok (.iload_n 2, 1) := by decide +kernel
theorem d_N_land_82 : decode b_N_land 82 = .ok (.bipush 60, 2) := by decide +kernel
theorem d_N_land_84 : decode b_N_land 84 = .ok (.aload_n 3, 1) := by decide +kernel
theorem d_N_land_85 : decode b_N_land 85 = .ok (.getfield 153, 3) := by decide +kernel
theorem d_N_land_88 : decode b_N_land 88 = .ok (.iadd, 1) := by decide +kernel
theorem d_N_land_89 : decode b_N_land 89 = .ok (.if_icmp .ge 13, 3) := by decide +kernel
theorem d_N_land_92 : decode b_N_land 92 = .ok (.aload_n 3, 1) := by decide +kernel
theorem d_N_land_93 : decode b_N_land 93 = .ok (.getfield 159, 3) := by decide +kernel
theorem d_N_land_96 : decode b_N_land 96 = .ok (.iload_n 2, 1) := by decide +kernel
theorem d_N_land_97 : decode b_N_land 97 = .ok (.bipush 60, 2) := by decide +kernel
theorem d_N_land_99 : decode b_N_land 99 = .ok (.isub, 1) := by decide +kernel
theorem d_N_land_100 : decode b_N_land 100 = .ok (.iaload, 1) := by decide +kernel
theorem d_N_land_101 : decode b_N_land 101 = .ok (.ireturn, 1) := by decide +kernel
theorem d_N_land_102 : decode b_N_land 102 = .ok (.iload_n 2, 1) := by decide +kernel
theorem d_N_land_103 : decode b_N_land 103 = .ok (.tableswitch 67 0 5 #[37, 42, 47, 52, 57, 62], 37) := by decide +kernel
theorem d_N_land_140 : decode b_N_land 140 = .ok (.aload_n 3, 1) := by decide +kernel
theorem d_N_land_141 : decode b_N_land 141 = .ok (.getfield 147, 3) := by decide +kernel
theorem d_N_land_144 : decode b_N_land 144 = .ok (.ireturn, 1) := by decide +kernel
theorem d_N_land_145 : decode b_N_land 145 = .ok (.aload_n 3, 1) := by decide +kernel
theorem d_N_land_146 : decode b_N_land 146 = .ok (.getfield 162, 3) := by decide +kernel
theorem d_N_land_149 : decode b_N_land 149 = .ok (.ireturn, 1) := by decide +kernel
theorem d_N_land_150 : decode b_N_land 150 = .ok (.aload_n 3, 1) := by decide +kernel
theorem d_N_land_151 : decode b_N_land 151 = .ok (.getfield 165, 3) := by decide +kernel
theorem d_N_land_154 : decode b_N_land 154 = .ok (.ireturn, 1) := by decide +kernel
theorem d_N_land_155 : decode b_N_land 155 = .ok (.aload_n 3, 1) := by decide +kernel
theorem d_N_land_156 : decode b_N_land 156 = .ok (.getfield 168, 3) := by decide +kernel
theorem d_N_land_159 : decode b_N_land 159 = .ok (.ireturn, 1) := by decide +kernel
theorem d_N_land_160 : decode b_N_land 160 = .ok (.aload_n 3, 1) := by decide +kernel
theorem d_N_land_161 : decode b_N_land 161 = .ok (.getfield 171, 3) := by decide +kernel
theorem d_N_land_164 : decode b_N_land 164 = .ok (.ireturn, 1) := by decide +kernel
theorem d_N_land_165 : decode b_N_land 165 = .ok (.aload_n 3, 1) := by decide +kernel
theorem d_N_land_166 : decode b_N_land 166 = .ok (.getfield 153, 3) := by decide +kernel
theorem d_N_land_169 : decode b_N_land 169 = .ok (.ireturn, 1) := by decide +kernel
theorem d_N_land_170 : decode b_N_land 170 = .ok (.iconst (-1), 1) := by decide +kernel
theorem d_N_land_171 : decode b_N_land 171 = .ok (.ireturn, 1) := by decide +kernel
theorem d_N_isTold_0 : decode b_N_isTold 0 = .ok (.iload_n 2, 1) := by decide +kernel
theorem d_N_isTold_1 : decode b_N_isTold 1 = .ok (.ifCond .lt 20, 3) := by decide +kernel
theorem d_N_isTold_4 : decode b_N_isTold 4 = .ok (.iload_n 2, 1) := by decide +kernel
theorem d_N_isTold_5 : decode b_N_isTold 5 = .ok (.aload_n 0, 1) := by decide +kernel
theorem d_N_isTold_6 : decode b_N_isTold 6 = .ok (.getfield 10, 3) := by decide +kernel
theorem d_N_isTold_9 : decode b_N_isTold 9 = .ok (.getfield 78, 3) := by decide +kernel
theorem d_N_isTold_12 : decode b_N_isTold 12 = .ok (.iload_n 1, 1) := by decide +kernel
theorem d_N_isTold_13 : decode b_N_isTold 13 = .ok (.iaload, 1) := by decide +kernel
theorem d_N_isTold_14 : decode b_N_isTold 14 = .ok (.if_icmp .ge 7, 3) := by decide +kernel
theorem d_N_isTold_17 : decode b_N_isTold 17 = .ok (.iconst 1, 1) := by decide +kernel
theorem d_N_isTold_18 : decode b_N_isTold 18 = .ok (.goto 4, 3) := by decide +kernel
theorem d_N_isTold_21 : decode b_N_isTold 21 = .ok (.iconst 0, 1) := by decide +kernel
theorem d_N_isTold_22 : decode b_N_isTold 22 = .ok (.ireturn, 1) := by decide +kernel
theorem d_N_person_0 : decode b_N_person 0 = .ok (.aload_n 0, 1) := by decide +kernel
theorem d_N_person_1 : decode b_N_person 1 = .ok (.iconst 0, 1) := by decide +kernel
theorem d_N_person_2 : decode b_N_person 2 = .ok (.iload_n 1, 1) := by decide +kernel
theorem d_N_person_3 : decode b_N_person 3 = .ok (.invokevirtual 143, 3) := by decide +kernel
theorem d_N_person_6 : decode b_N_person 6 = .ok (.ifCond .eq 19, 3) := by decide +kernel
theorem d_N_person_9 : decode b_N_person 9 = .ok (.aload_n 0, 1) := by decide +kernel
theorem d_N_person_10 : decode b_N_person 10 = .ok (.getfield 10, 3) := by decide +kernel
theorem d_N_person_13 : decode b_N_person 13 = .ok (.getfield 81, 3) := by decide +kernel
theorem d_N_person_16 : decode b_N_person 16 = .ok (.iload_n 1, 1) := by decide +kernel
theorem d_N_person_17 : decode b_N_person 17 = .ok (.aaload, 1) := by decide +kernel
theorem d_N_person_18 : decode b_N_person 18 = .ok (.iload_n 2, 1) := by decide +kernel
theorem d_N_person_19 : decode b_N_person 19 = .ok (.invokevirtual 174, 3) := by decide +kernel
theorem d_N_person_22 : decode b_N_person 22 = .ok (.ifCond .ne 5, 3) := by decide +kernel
theorem d_N_person_25 : decode b_N_person 25 = .ok (.iconst (-1), 1) := by decide +kernel
theorem d_N_person_26 : decode b_N_person 26 = .ok (.ireturn, 1) := by decide +kernel
theorem d_N_person_27 : decode b_N_person 27 = .ok (.aload_n 0, 1) := by decide +kernel
theorem d_N_person_28 : decode b_N_person 28 = .ok (.getfield 10, 3) := by decide +kernel
theorem d_N_person_31 : decode b_N_person 31 = .ok (.getfield 81, 3) := by decide +kernel
theorem d_N_person_34 : decode b_N_person 34 = .ok (.iload_n 1, 1) := by decide +kernel
theorem d_N_person_35 : decode b_N_person 35 = .ok (.aaload, 1) := by decide +kernel
theorem d_N_person_36 : decode b_N_person 36 = .ok (.astore 4, 2) := by decide +kernel
theorem d_N_person_38 : decode b_N_person 38 = .ok (.iload_n 3, 1) := by decide +kernel
theorem d_N_person_39 : decode b_N_person 39 = .ok (.bipush 10, 2) := by decide +kernel
theorem d_N_person_41 : decode b_N_person 41 = .ok (.if_icmp .lt 31, 3) := by decide +kernel
theorem d_N_person_44 : decode b_N_person 44 = .ok (.iload_n 3, 1) := by decide +kernel
theorem d_N_person_45 : decode b_N_person 45 = .ok (.bipush 10, 2) := by decide +kernel
theorem d_N_person_47 : decode b_N_person 47 = .ok (.aload 4, 2) := by decide +kernel
theorem d_N_person_49 : decode b_N_person 49 = .ok (.getfield 147, 3) := by decide +kernel
theorem d_N_person_52 : decode b_N_person 52 = .ok (.iadd, 1) := by decide +kernel
theorem d_N_person_53 : decode b_N_person 53 = .ok (.if_icmp .ge 19, 3) := by decide +kernel
theorem d_N_person_56 : decode b_N_person 56 = .ok (.aload 4, 2) := by decide +kernel
theorem d_N_person_58 : decode b_N_person 58 = .ok (.getfield 178, 3) := by decide +kernel
theorem d_N_person_61 : decode b_N_person 61 = .ok (.iload_n 2, 1) := by decide +kernel
theorem d_N_person_62 : decode b_N_person 62 = .ok (.bipush 24, 2) := by decide +kernel
theorem d_N_person_64 : decode b_N_person 64 = .ok (.imul, 1) := by decide +kernel
theorem d_N_person_65 : decode b_N_person 65 = .ok (.iload_n 3, 1) := by decide +kernel
theorem d_N_person_66 : decode b_N_person 66 = .ok (.iadd, 1) := by decide +kernel
theorem d_N_person_67 : decode b_N_person 67 = .ok (.bipush 10, 2) := by decide +kernel
theorem d_N_person_69 : decode b_N_person 69 = .ok (.isub, 1) := by decide +kernel
theorem d_N_person_70 : decode b_N_person 70 = .ok (.iaload, 1) := by decide +kernel
theorem d_N_person_71 : decode b_N_person 71 = .ok (.ireturn, 1) := by decide +kernel
theorem d_N_person_72 : decode b_N_person 72 = .ok (.iload_n 3, 1) := by decide +kernel
theorem d_N_person_73 : decode b_N_person 73 = .ok (.tableswitch 51 0 2 #[27, 35, 43], 27) := by decide +kernel
theorem d_N_person_100 : decode b_N_person 100 = .ok (.aload 4, 2) := by decide +kernel
theorem d_N_person_102 : decode b_N_person 102 = .ok (.getfield 181, 3) := by decide +kernel
theorem d_N_person_105 : decode b_N_person 105 = .ok (.iload_n 2, 1) := by decide +kernel
theorem d_N_person_106 : decode b_N_person 106 = .ok (.iaload, 1) := by decide +kernel
theorem d_N_person_107 : decode b_N_person 107 = .ok (.ireturn, 1) := by decide +kernel
theorem d_N_person_108 : decode b_N_person 108 = .ok (.aload 4, 2) := by decide +kernel
theorem d_N_person_110 : decode b_N_person 110 = .ok (.getfield 184, 3) := by decide +kernel
theorem d_N_person_113 : decode b_N_person 113 = .ok (.iload_n 2, 1) := by decide +kernel
theorem d_N_person_114 : decode b_N_person 114 = .ok (.iaload, 1) := by decide +kernel
theorem d_N_person_115 : decode b_N_person 115 = .ok (.ireturn, 1) := by decide +kernel
theorem d_N_person_116 : decode b_N_person 116 = .ok (.aload 4, 2) := by decide +kernel
theorem d_N_person_118 : decode b_N_person 118 = .ok (.getfield 187, 3) := by decide +kernel
theorem d_N_person_121 : decode b_N_person 121 = .ok (.iload_n 2, 1) := by decide +kernel
theorem d_N_person_122 : decode b_N_person 122 = .ok (.iaload, 1) := by decide +kernel
theorem d_N_person_123 : decode b_N_person 123 = .ok (.ireturn, 1) := by decide +kernel
theorem d_N_person_124 : decode b_N_person 124 = .ok (.iconst (-1), 1) := by decide +kernel
theorem d_N_person_125 : decode b_N_person 125 = .ok (.ireturn, 1) := by decide +kernel
theorem d_N_night_0 : decode b_N_night 0 = .ok (.aload_n 0, 1) := by decide +kernel
theorem d_N_night_1 : decode b_N_night 1 = .ok (.iconst 1, 1) := by decide +kernel
theorem d_N_night_2 : decode b_N_night 2 = .ok (.iload_n 1, 1) := by decide +kernel
theorem d_N_night_3 : decode b_N_night 3 = .ok (.invokevirtual 143, 3) := by decide +kernel
theorem d_N_night_6 : decode b_N_night 6 = .ok (.ifCond .eq 13, 3) := by decide +kernel
theorem d_N_night_9 : decode b_N_night 9 = .ok (.iload_n 2, 1) := by decide +kernel
theorem d_N_night_10 : decode b_N_night 10 = .ok (.ifCond .lt 9, 3) := by decide +kernel
theorem d_N_night_13 : decode b_N_night 13 = .ok (.iload_n 2, 1) := by decide +kernel
theorem d_N_night_14 : decode b_N_night 14 = .ok (.bipush 24, 2) := by decide +kernel
theorem d_N_night_16 : decode b_N_night 16 = .ok (.if_icmp .lt 5, 3) := by decide +kernel
theorem d_N_night_19 : decode b_N_night 19 = .ok (.iconst (-1), 1) := by decide +kernel
theorem d_N_night_20 : decode b_N_night 20 = .ok (.ireturn, 1) := by decide +kernel
theorem d_N_night_21 : decode b_N_night 21 = .ok (.aload_n 0, 1) := by decide +kernel
theorem d_N_night_22 : decode b_N_night 22 = .ok (.getfield 10, 3) := by decide +kernel
theorem d_N_night_25 : decode b_N_night 25 = .ok (.getfield 98, 3) := by decide +kernel
theorem d_N_night_28 : decode b_N_night 28 = .ok (.iload_n 1, 1) := by decide +kernel
theorem d_N_night_29 : decode b_N_night 29 = .ok (.aaload, 1) := by decide +kernel
theorem d_N_night_30 : decode b_N_night 30 = .ok (.iload_n 2, 1) := by decide +kernel
theorem d_N_night_31 : decode b_N_night 31 = .ok (.iaload, 1) := by decide +kernel
theorem d_N_night_32 : decode b_N_night 32 = .ok (.ireturn, 1) := by decide +kernel
theorem d_N_spell_0 : decode b_N_spell 0 = .ok (.aload_n 0, 1) := by decide +kernel
theorem d_N_spell_1 : decode b_N_spell 1 = .ok (.iconst 2, 1) := by decide +kernel
theorem d_N_spell_2 : decode b_N_spell 2 = .ok (.iload_n 1, 1) := by decide +kernel
theorem d_N_spell_3 : decode b_N_spell 3 = .ok (.invokevirtual 143, 3) := by decide +kernel
theorem d_N_spell_6 : decode b_N_spell 6 = .ok (.ifCond .eq 12, 3) := by decide +kernel
theorem d_N_spell_9 : decode b_N_spell 9 = .ok (.iload_n 3, 1) := by decide +kernel
theorem d_N_spell_10 : decode b_N_spell 10 = .ok (.ifCond .lt 8, 3) := by decide +kernel
theorem d_N_spell_13 : decode b_N_spell 13 = .ok (.iload_n 3, 1) := by decide +kernel
theorem d_N_spell_14 : decode b_N_spell 14 = .ok (.iconst 1, 1) := by decide +kernel
theorem d_N_spell_15 : decode b_N_spell 15 = .ok (.if_icmp .le 6, 3) := by decide +kernel
theorem d_N_spell_18 : decode b_N_spell 18 = .ok (.bipush (-2), 2) := by decide +kernel
theorem d_N_spell_20 : decode b_N_spell 20 = .ok (.ireturn, 1) := by decide +kernel
theorem d_N_spell_21 : decode b_N_spell 21 = .ok (.aload_n 0, 1) := by decide +kernel
theorem d_N_spell_22 : decode b_N_spell 22 = .ok (.getfield 10, 3) := by decide +kernel
theorem d_N_spell_25 : decode b_N_spell 25 = .ok (.getfield 108, 3) := by decide +kernel
theorem d_N_spell_28 : decode b_N_spell 28 = .ok (.iload_n 1, 1) := by decide +kernel
theorem d_N_spell_29 : decode b_N_spell 29 = .ok (.aaload, 1) := by decide +kernel
theorem d_N_spell_30 : decode b_N_spell 30 = .ok (.astore 4, 2) := by decide +kernel
theorem d_N_spell_32 : decode b_N_spell 32 = .ok (.iload_n 2, 1) := by decide +kernel
theorem d_N_spell_33 : decode b_N_spell 33 = .ok (.iconst (-1), 1) := by decide +kernel
theorem d_N_spell_34 : decode b_N_spell 34 = .ok (.if_icmp .ne 21, 3) := by decide +kernel
theorem d_N_spell_37 : decode b_N_spell 37 = .ok (.iload_n 3, 1) := by decide +kernel
theorem d_N_spell_38 : decode b_N_spell 38 = .ok (.ifCond .ne 11, 3) := by decide +kernel
theorem d_N_spell_41 : decode b_N_spell 41 = .ok (.aload 4, 2) := by decide +kernel
theorem d_N_spell_43 : decode b_N_spell 43 = .ok (.getfield 190, 3) := by decide +kernel
theorem d_N_spell_46 : decode b_N_spell 46 = .ok (.goto 8, 3) := by decide +kernel
theorem d_N_spell_49 : decode b_N_spell 49 = .ok (.aload 4, 2) := by decide +kernel
theorem d_N_spell_51 : decode b_N_spell 51 = .ok (.getfield 193, 3) := by decide +kernel
theorem d_N_spell_54 : decode b_N_spell 54 = .ok (.ireturn, 1) := by decide +kernel
theorem d_N_spell_55 : decode b_N_spell 55 = .ok (.iload_n 2, 1) := by decide +kernel
theorem d_N_spell_56 : decode b_N_spell 56 = .ok (.ifCond .lt 12, 3) := by decide +kernel
theorem d_N_spell_59 : decode b_N_spell 59 = .ok (.iload_n 2, 1) := by decide +kernel
theorem d_N_spell_60 : decode b_N_spell 60 = .ok (.aload 4, 2) := by decide +kernel
theorem d_N_spell_62 : decode b_N_spell 62 = .ok (.getfield 190, 3) := by decide +kernel
theorem d_N_spell_65 : decode b_N_spell 65 = .ok (.if_icmp .lt 6, 3) := by decide +kernel
theorem d_N_spell_68 : decode b_N_spell 68 = .ok (.bipush (-2), 2) := by decide +kernel
theorem d_N_spell_70 : decode b_N_spell 70 = .ok (.ireturn, 1) := by decide +kernel
theorem d_N_spell_71 : decode b_N_spell 71 = .ok (.iload_n 3, 1) := by decide +kernel
theorem d_N_spell_72 : decode b_N_spell 72 = .ok (.ifCond .ne 13, 3) := by decide +kernel
theorem d_N_spell_75 : decode b_N_spell 75 = .ok (.aload 4, 2) := by decide +kernel
theorem d_N_spell_77 : decode b_N_spell 77 = .ok (.getfield 194, 3) := by decide +kernel
theorem d_N_spell_80 : decode b_N_spell 80 = .ok (.iload_n 2, 1) := by decide +kernel
theorem d_N_spell_81 : decode b_N_spell 81 = .ok (.iaload, 1) := by decide +kernel
theorem d_N_spell_82 : decode b_N_spell 82 = .ok (.goto 10, 3) := by decide +kernel
theorem d_N_spell_85 : decode b_N_spell 85 = .ok (.aload 4, 2) := by decide +kernel
theorem d_N_spell_87 : decode b_N_spell 87 = .ok (.getfield 197, 3) := by decide +kernel
theorem d_N_spell_90 : decode b_N_spell 90 = .ok (.iload_n 2, 1) := by decide +kernel
theorem d_N_spell_91 : decode b_N_spell 91 = .ok (.iaload, 1) := by decide +kernel
theorem d_N_spell_92 : decode b_N_spell 92 = .ok (.ireturn, 1) := by decide +kernel
theorem d_N_seen_0 : decode b_N_seen 0 = .ok (.aload_n 0, 1) := by decide +kernel
theorem d_N_seen_1 : decode b_N_seen 1 = .ok (.iconst 3, 1) := by decide +kernel
theorem d_N_seen_2 : decode b_N_seen 2 = .ok (.iload_n 1, 1) := by decide +kernel
theorem d_N_seen_3 : decode b_N_seen 3 = .ok (.invokevirtual 143, 3) := by decide +kernel
theorem d_N_seen_6 : decode b_N_seen 6 = .ok (.ifCond .ne 6, 3) := by decide +kernel
theorem d_N_seen_9 : decode b_N_seen 9 = .ok (.bipush (-2), 2) := by decide +kernel
theorem d_N_seen_11 : decode b_N_seen 11 = .ok (.ireturn, 1) := by decide +kernel
theorem d_N_seen_12 : decode b_N_seen 12 = .ok (.aload_n 0, 1) := by decide +kernel
theorem d_N_seen_13 : decode b_N_seen 13 = .ok (.getfield 10, 3) := by decide +kernel
theorem d_N_seen_16 : decode b_N_seen 16 = .ok (.getfield 121, 3) := by decide +kernel
theorem d_N_seen_19 : decode b_N_seen 19 = .ok (.iload_n 1, 1) := by decide +kernel
theorem d_N_seen_20 : decode b_N_seen 20 = .ok (.aaload, 1) := by decide +kernel
theorem d_N_seen_21 : decode b_N_seen 21 = .ok (.astore 4, 2) := by decide +kernel
theorem d_N_seen_23 : decode b_N_seen 23 = .ok (.iload_n 2, 1) := by decide +kernel
theorem d_N_seen_24 : decode b_N_seen 24 = .ok (.iconst (-1), 1) := by decide +kernel
theorem d_N_seen_25 : decode b_N_seen 25 = .ok (.if_icmp .ne 13, 3) := by decide +kernel
theorem d_N_seen_28 : decode b_N_seen 28 = .ok (.iload_n 3, 1) := by decide +kernel
theorem d_N_seen_29 : decode b_N_seen 29 = .ok (.ifCond .ne 9, 3) := by decide +kernel
theorem d_N_seen_32 : decode b_N_seen 32 = .ok (.aload 4, 2) := by decide +kernel
theorem d_N_seen_34 : decode b_N_seen 34 = .ok (.getfield 200, 3) := by decide +kernel
theorem d_N_seen_37 : decode b_N_seen 37 = .ok (.ireturn, 1) := by decide +kernel
theorem d_N_seen_38 : decode b_N_seen 38 = .ok (.iload_n 2, 1) := by decide +kernel
theorem d_N_seen_39 : decode b_N_seen 39 = .ok (.ifCond .lt 12, 3) := by decide +kernel
theorem d_N_seen_42 : decode b_N_seen 42 = .ok (.iload_n 2, 1) := by decide +kernel
theorem d_N_seen_43 : decode b_N_seen 43 = .ok (.aload 4, 2) := by decide +kernel
theorem d_N_seen_45 : decode b_N_seen 45 = .ok (.getfield 200, 3) := by decide +kernel
theorem d_N_seen_48 : decode b_N_seen 48 = .ok (.if_icmp .lt 6, 3) := by decide +kernel
theorem d_N_seen_51 : decode b_N_seen 51 = .ok (.bipush (-2), 2) := by decide +kernel
theorem d_N_seen_53 : decode b_N_seen 53 = .ok (.ireturn, 1) := by decide +kernel
theorem d_N_seen_54 : decode b_N_seen 54 = .ok (.iload_n 3, 1) := by decide +kernel
theorem d_N_seen_55 : decode b_N_seen 55 = .ok (.tableswitch 49 0 2 #[25, 33, 41], 25) := by decide +kernel
theorem d_N_seen_80 : decode b_N_seen 80 = .ok (.aload 4, 2) := by decide +kernel
theorem d_N_seen_82 : decode b_N_seen 82 = .ok (.getfield 203, 3) := by decide +kernel
theorem d_N_seen_85 : decode b_N_seen 85 = .ok (.iload_n 2, 1) := by decide +kernel
theorem d_N_seen_86 : decode b_N_seen 86 = .ok (.iaload, 1) := by decide +kernel
theorem d_N_seen_87 : decode b_N_seen 87 = .ok (.ireturn, 1) := by decide +kernel
theorem d_N_seen_88 : decode b_N_seen 88 = .ok (.aload 4, 2) := by decide +kernel
theorem d_N_seen_90 : decode b_N_seen 90 = .ok (.getfield 206, 3) := by decide +kernel
theorem d_N_seen_93 : decode b_N_seen 93 = .ok (.iload_n 2, 1) := by decide +kernel
theorem d_N_seen_94 : decode b_N_seen 94 = .ok (.iaload, 1) := by decide +kernel
theorem d_N_seen_95 : decode b_N_seen 95 = .ok (.ireturn, 1) := by decide +kernel
theorem d_N_seen_96 : decode b_N_seen 96 = .ok (.aload 4, 2) := by decide +kernel
theorem d_N_seen_98 : decode b_N_seen 98 = .ok (.getfield 209, 3) := by decide +kernel
theorem d_N_seen_101 : decode b_N_seen 101 = .ok (.iload_n 2, 1) := by decide +kernel
theorem d_N_seen_102 : decode b_N_seen 102 = .ok (.iaload, 1) := by decide +kernel
theorem d_N_seen_103 : decode b_N_seen 103 = .ok (.ireturn, 1) := by decide +kernel
theorem d_N_seen_104 : decode b_N_seen 104 = .ok (.bipush (-2), 2) := by decide +kernel
theorem d_N_seen_106 : decode b_N_seen 106 = .ok (.ireturn, 1) := by decide +kernel
theorem d_N_row_0 : decode b_N_row 0 = .ok (.aload_n 0, 1) := by decide +kernel
theorem d_N_row_1 : decode b_N_row 1 = .ok (.iload_n 1, 1) := by decide +kernel
theorem d_N_row_2 : decode b_N_row 2 = .ok (.iload_n 2, 1) := by decide +kernel
theorem d_N_row_3 : decode b_N_row 3 = .ok (.invokevirtual 212, 3) := by decide +kernel
theorem d_N_row_6 : decode b_N_row 6 = .ok (.ifCond .ne 5, 3) := by decide +kernel
theorem d_N_row_9 : decode b_N_row 9 = .ok (.iconst (-1), 1) := by decide +kernel
theorem d_N_row_10 : decode b_N_row 10 = .ok (.ireturn, 1) := by decide +kernel
theorem d_N_row_11 : decode b_N_row 11 = .ok (.aload_n 0, 1) := by decide +kernel
theorem d_N_row_12 : decode b_N_row 12 = .ok (.getfield 10, 3) := by decide +kernel
theorem d_N_row_15 : decode b_N_row 15 = .ok (.getfield 81, 3) := by decide +kernel
theorem d_N_row_18 : decode b_N_row 18 = .ok (.iload_n 1, 1) := by decide +kernel
theorem d_N_row_19 : decode b_N_row 19 = .ok (.aaload, 1) := by decide +kernel
theorem d_N_row_20 : decode b_N_row 20 = .ok (.astore 4, 2) := by decide +kernel
theorem d_N_row_22 : decode b_N_row 22 = .ok (.aload_n 0, 1) := by decide +kernel
theorem d_N_row_23 : decode b_N_row 23 = .ok (.getfield 10, 3) := by decide +kernel
theorem d_N_row_26 : decode b_N_row 26 = .ok (.getfield 98, 3) := by decide +kernel
theorem d_N_row_29 : decode b_N_row 29 = .ok (.iload_n 2, 1) := by decide +kernel
theorem d_N_row_30 : decode b_N_row 30 = .ok (.aaload, 1) := by decide +kernel
theorem d_N_row_31 : decode b_N_row 31 = .ok (.astore 5, 2) := by decide +kernel
theorem d_N_row_33 : decode b_N_row 33 = .ok (.iload_n 3, 1) := by decide +kernel
theorem d_N_row_34 : decode b_N_row 34 = .ok (.tableswitch 154 0 7 #[46, 57, 65, 74, 83, 116, 124, 132], 46) := by decide +kernel
theorem d_N_row_80 : decode b_N_row 80 = .ok (.aload 4, 2) := by decide +kernel
theorem d_N_row_82 : decode b_N_row 82 = .ok (.aload 5, 2) := by decide +kernel
theorem d_N_row_84 : decode b_N_row 84 = .ok (.invokevirtual 215, 3) := by decide +kernel
theorem d_N_row_87 : decode b_N_row 87 = .ok (.invokestatic 219, 3) := by decide +kernel
theorem d_N_row_90 : decode b_N_row 90 = .ok (.ireturn, 1) := by decide +kernel
theorem d_N_row_91 : decode b_N_row 91 = .ok (.aload 4, 2) := by decide +kernel
theorem d_N_row_93 : decode b_N_row 93 = .ok (.aload 5, 2) := by decide +kernel
theorem d_N_row_95 : decode b_N_row 95 = .ok (.invokevirtual 223, 3) := by decide +kernel
theorem d_N_row_98 : decode b_N_row 98 = .ok (.ireturn, 1) := by decide +kernel
theorem d_N_row_99 : decode b_N_row 99 = .ok (.aload 4, 2) := by decide +kernel
theorem d_N_row_101 : decode b_N_row 101 = .ok (.aload 5, 2) := by decide +kernel
theorem d_N_row_103 : decode b_N_row 103 = .ok (.iconst 0, 1) := by decide +kernel
theorem d_N_row_104 : decode b_N_row 104 = .ok (.invokevirtual 227, 3) := by decide +kernel
theorem d_N_row_107 : decode b_N_row 107 = .ok (.ireturn, 1) := by decide +kernel
theorem d_N_row_108 : decode b_N_row 108 = .ok (.aload 4, 2) := by decide +kernel
theorem d_N_row_110 : decode b_N_row 110 = .ok (.aload 5, 2) := by decide +kernel
theorem d_N_row_112 : decode b_N_row 112 = .ok (.iconst 1, 1) := by decide +kernel
theorem d_N_row_113 : decode b_N_row 113 = .ok (.invokevirtual 227, 3) := by decide +kernel
theorem d_N_row_116 : decode b_N_row 116 = .ok (.ireturn, 1) := by decide +kernel
theorem d_N_row_117 : decode b_N_row 117 = .ok (.aload 4, 2) := by decide +kernel
theorem d_N_row_119 : decode b_N_row 119 = .ok (.aload 4, 2) := by decide +kernel
theorem d_N_row_121 : decode b_N_row 121 = .ok (.aload 5, 2) := by decide +kernel
theorem d_N_row_123 : decode b_N_row 123 = .ok (.iconst 0, 1) := by decide +kernel
theorem d_N_row_124 : decode b_N_row 124 = .ok (.invokevirtual 227, 3) := by decide +kernel
theorem d_N_row_127 : decode b_N_row 127 = .ok (.aload 4, 2) := by decide +kernel
theorem d_N_row_129 : decode b_N_row 129 = .ok (.aload 5, 2) := by decide +kernel
theorem d_N_row_131 : decode b_N_row 131 = .ok (.iconst 1, 1) := by decide +kernel
theorem d_N_row_132 : decode b_N_row 132 = .ok (.invokevirtual 227, 3) := by decide +kernel
theorem d_N_row_135 : decode b_N_row 135 = .ok (.invokevirtual 230, 3) := by decide +kernel
theorem d_N_row_138 : decode b_N_row 138 = .ok (.ifCond .ne 7, 3) := by decide +kernel
theorem d_N_row_141 : decode b_N_row 141 = .ok (.iconst 1, 1) := by decide +kernel
theorem d_N_row_142 : decode b_N_row 142 = .ok (.goto 4, 3) := by decide +kernel
theorem d_N_row_145 : decode b_N_row 145 = .ok (.iconst 0, 1) := by decide +kernel
theorem d_N_row_146 : decode b_N_row 146 = .ok (.invokestatic 219, 3) := by decide +kernel
theorem d_N_row_149 : decode b_N_row 149 = .ok (.ireturn, 1) := by decide +kernel
theorem d_N_row_150 : decode b_N_row 150 = .ok (.aload 4, 2) := by decide +kernel
theorem d_N_row_152 : decode b_N_row 152 = .ok (.aload 5, 2) := by decide +kernel
theorem d_N_row_154 : decode b_N_row 154 = .ok (.invokevirtual 233, 3) := by decide +kernel
theorem d_N_row_157 : decode b_N_row 157 = .ok (.ireturn, 1) := by decide +kernel
theorem d_N_row_158 : decode b_N_row 158 = .ok (.aload 4, 2) := by decide +kernel
theorem d_N_row_160 : decode b_N_row 160 = .ok (.aload 5, 2) := by decide +kernel
theorem d_N_row_162 : decode b_N_row 162 = .ok (.invokevirtual 236, 3) := by decide +kernel
theorem d_N_row_165 : decode b_N_row 165 = .ok (.ireturn, 1) := by decide +kernel
theorem d_N_row_166 : decode b_N_row 166 = .ok (.aload 4, 2) := by decide +kernel
theorem d_N_row_168 : decode b_N_row 168 = .ok (.aload 4, 2) := by decide +kernel
theorem d_N_row_170 : decode b_N_row 170 = .ok (.aload 5, 2) := by decide +kernel
theorem d_N_row_172 : decode b_N_row 172 = .ok (.iconst 0, 1) := by decide +kernel
theorem d_N_row_173 : decode b_N_row 173 = .ok (.invokevirtual 227, 3) := by decide +kernel
theorem d_N_row_176 : decode b_N_row 176 = .ok (.aload 4, 2) := by decide +kernel
theorem d_N_row_178 : decode b_N_row 178 = .ok (.aload 5, 2) := by decide +kernel
theorem d_N_row_180 : decode b_N_row 180 = .ok (.iconst 1, 1) := by decide +kernel
theorem d_N_row_181 : decode b_N_row 181 = .ok (.invokevirtual 227, 3) := by decide +kernel
theorem d_N_row_184 : decode b_N_row 184 = .ok (.invokevirtual 230, 3) := by decide +kernel
theorem d_N_row_187 : decode b_N_row 187 = .ok (.ireturn, 1) := by decide +kernel
theorem d_N_row_188 : decode b_N_row 188 = .ok (.iconst (-1), 1) := by decide +kernel
theorem d_N_row_189 : decode b_N_row 189 = .ok (.ireturn, 1) := by decide +kernel
theorem d_N_hasRow_0 : decode b_N_hasRow 0 = .ok (.aload_n 0, 1) := by decide +kernel
theorem d_N_hasRow_1 : decode b_N_hasRow 1 = .ok (.iconst 0, 1) := by decide +kernel
theorem d_N_hasRow_2 : decode b_N_hasRow 2 = .ok (.iload_n 1, 1) := by decide +kernel
theorem d_N_hasRow_3 : decode b_N_hasRow 3 = .ok (.invokevirtual 143, 3) := by decide +kernel
theorem d_N_hasRow_6 : decode b_N_hasRow 6 = .ok (.ifCond .eq 16, 3) := by decide +kernel
theorem d_N_hasRow_9 : decode b_N_hasRow 9 = .ok (.aload_n 0, 1) := by decide +kernel
theorem d_N_hasRow_10 : decode b_N_hasRow 10 = .ok (.iconst 1, 1) := by decide +kernel
theorem d_N_hasRow_11 : decode b_N_hasRow 11 = .ok (.iload_n 2, 1) := by decide +kernel
theorem d_N_hasRow_12 : decode b_N_hasRow 12 = .ok (.invokevirtual 143, 3) := by decide +kernel
theorem d_N_hasRow_15 : decode b_N_hasRow 15 = .ok (.ifCond .eq 7, 3) := by decide +kernel
theorem d_N_hasRow_18 : decode b_N_hasRow 18 = .ok (.iconst 1, 1) := by decide +kernel
theorem d_N_hasRow_19 : decode b_N_hasRow 19 = .ok (.goto 4, 3) := by decide +kernel
theorem d_N_hasRow_22 : decode b_N_hasRow 22 = .ok (.iconst 0, 1) := by decide +kernel
theorem d_N_hasRow_23 : decode b_N_hasRow 23 = .ok (.ireturn, 1) := by decide +kernel
theorem d_N_days_0 : decode b_N_days 0 = .ok (.aload_n 0, 1) := by decide +kernel
theorem d_N_days_1 : decode b_N_days 1 = .ok (.iconst 0, 1) := by decide +kernel
theorem d_N_days_2 : decode b_N_days 2 = .ok (.iload_n 1, 1) := by decide +kernel
theorem d_N_days_3 : decode b_N_days 3 = .ok (.invokevirtual 143, 3) := by decide +kernel
theorem d_N_days_6 : decode b_N_days 6 = .ok (.ifCond .eq 12, 3) := by decide +kernel
theorem d_N_days_9 : decode b_N_days 9 = .ok (.aload_n 0, 1) := by decide +kernel
theorem d_N_days_10 : decode b_N_days 10 = .ok (.iconst 2, 1) := by decide +kernel
theorem d_N_days_11 : decode b_N_days 11 = .ok (.iload_n 2, 1) := by decide +kernel
theorem d_N_days_12 : decode b_N_days 12 = .ok (.invokevirtual 143, 3) := by decide +kernel
theorem d_N_days_15 : decode b_N_days 15 = .ok (.ifCond .ne 6, 3) := by decide +kernel
theorem d_N_days_18 : decode b_N_days 18 = .ok (.bipush (-2), 2) := by decide +kernel
theorem d_N_days_20 : decode b_N_days 20 = .ok (.ireturn, 1) := by decide +kernel
theorem d_N_days_21 : decode b_N_days 21 = .ok (.aload_n 0, 1) := by decide +kernel
theorem d_N_days_22 : decode b_N_days 22 = .ok (.getfield 10, 3) := by decide +kernel
theorem d_N_days_25 : decode b_N_days 25 = .ok (.getfield 81, 3) := by decide +kernel
theorem d_N_days_28 : decode b_N_days 28 = .ok (.iload_n 1, 1) := by decide +kernel
theorem d_N_days_29 : decode b_N_days 29 = .ok (.aaload, 1) := by decide +kernel
theorem d_N_days_30 : decode b_N_days 30 = .ok (.astore 4, 2) := by decide +kernel
theorem d_N_days_32 : decode b_N_days 32 = .ok (.aload_n 0, 1) := by decide +kernel
theorem d_N_days_33 : decode b_N_days 33 = .ok (.getfield 10, 3) := by decide +kernel
theorem d_N_days_36 : decode b_N_days 36 = .ok (.getfield 108, 3) := by decide +kernel
theorem d_N_days_39 : decode b_N_days 39 = .ok (.iload_n 2, 1) := by decide +kernel
theorem d_N_days_40 : decode b_N_days 40 = .ok (.aaload, 1) := by decide +kernel
theorem d_N_days_41 : decode b_N_days 41 = .ok (.astore 5, 2) := by decide +kernel
theorem d_N_days_43 : decode b_N_days 43 = .ok (.aload 4, 2) := by decide +kernel
theorem d_N_days_45 : decode b_N_days 45 = .ok (.getfield 147, 3) := by decide +kernel
theorem d_N_days_48 : decode b_N_days 48 = .ok (.ifCond .le 17, 3) := by decide +kernel
theorem d_N_days_51 : decode b_N_days 51 = .ok (.aload 5, 2) := by decide +kernel
theorem d_N_days_53 : decode b_N_days 53 = .ok (.getfield 193, 3) := by decide +kernel
theorem d_N_days_56 : decode b_N_days 56 = .ok (.aload 4, 2) := by decide +kernel
theorem d_N_days_58 : decode b_N_days 58 = .ok (.getfield 147, 3) := by decide +kernel
theorem d_N_days_61 : decode b_N_days 61 = .ok (.idiv, 1) := by decide +kernel
theorem d_N_days_62 : decode b_N_days 62 = .ok (.goto 4, 3) := by decide +kernel
theorem d_N_days_65 : decode b_N_days 65 = .ok (.iconst 0, 1) := by decide +kernel
theorem d_N_days_66 : decode b_N_days 66 = .ok (.istore 6, 2) := by decide +kernel
theorem d_N_days_68 : decode b_N_days 68 = .ok (.iload_n 3, 1) := by decide +kernel
theorem d_N_days_69 : decode b_N_days 69 = .ok (.bipush 100, 2) := by decide +kernel
theorem d_N_days_71 : decode b_N_days 71 = .ok (.if_icmp .lt 24, 3) := by decide +kernel
theorem d_N_days_74 : decode b_N_days 74 = .ok (.iload_n 3, 1) := by decide +kernel
theorem d_N_days_75 : decode b_N_days 75 = .ok (.bipush 100, 2) := by decide +kernel
theorem d_N_days_77 : decode b_N_days 77 = .ok (.isub, 1) := by decide +kernel
theorem d_N_days_78 : decode b_N_days 78 = .ok (.iload 6, 2) := by decide +kernel
theorem d_N_days_80 : decode b_N_days 80 = .ok (.if_icmp .ge 15, 3) := by decide +kernel
theorem d_N_days_83 : decode b_N_days 83 = .ok (.aload 4, 2) := by decide +kernel
theorem d_N_days_85 : decode b_N_days 85 = .ok (.aload 5, 2) := by decide +kernel
theorem d_N_days_87 : decode b_N_days 87 = .ok (.iload_n 3, 1) := by decide +kernel
theorem d_N_days_88 : decode b_N_days 88 = .ok (.bipush 100, 2) := by decide +kernel
theorem d_N_days_90 : decode b_N_days 90 = .ok (.isub, 1) := by decide +kernel
theorem d_N_days_91 : decode b_N_days 91 = .ok (.invokestatic 239, 3) := by decide +kernel
theorem d_N_days_94 : decode b_N_days 94 = .ok (.ireturn, 1) := by decide +kernel
theorem d_N_days_95 : decode b_N_days 95 = .ok (.iload_n 3, 1) := by decide +kernel
theorem d_N_days_96 : decode b_N_days 96 = .ok (.tableswitch 72 0 3 #[32, 35, 46, 59], 32) := by decide +kernel
theorem d_N_days_128 : decode b_N_days 128 = .ok (.iload 6, 2) := by decide +kernel
theorem d_N_days_130 : decode b_N_days 130 = .ok (.ireturn, 1) := by decide +kernel
theorem d_N_days_131 : decode b_N_days 131 = .ok (.aload 5, 2) := by decide +kernel
theorem d_N_days_133 : decode b_N_days 133 = .ok (.aload 4, 2) := by decide +kernel
theorem d_N_days_135 : decode b_N_days 135 = .ok (.getfield 162, 3) := by decide +kernel
theorem d_N_days_138 : decode b_N_days 138 = .ok (.invokevirtual 243, 3) := by decide +kernel
theorem d_N_days_141 : decode b_N_days 141 = .ok (.ireturn, 1) := by decide +kernel
theorem d_N_days_142 : decode b_N_days 142 = .ok (.aload 5, 2) := by decide +kernel
theorem d_N_days_144 : decode b_N_days 144 = .ok (.iconst 0, 1) := by decide +kernel
theorem d_N_days_145 : decode b_N_days 145 = .ok (.iconst 0, 1) := by decide +kernel
theorem d_N_days_146 : decode b_N_days 146 = .ok (.aload 5, 2) := by decide +kernel
theorem d_N_days_148 : decode b_N_days 148 = .ok (.getfield 193, 3) := by decide +kernel
theorem d_N_days_151 : decode b_N_days 151 = .ok (.invokevirtual 247, 3) := by decide +kernel
theorem d_N_days_154 : decode b_N_days 154 = .ok (.ireturn, 1) := by decide +kernel
theorem d_N_days_155 : decode b_N_days 155 = .ok (.aload 5, 2) := by decide +kernel
theorem d_N_days_157 : decode b_N_days 157 = .ok (.iconst 1, 1) := by decide +kernel
theorem d_N_days_158 : decode b_N_days 158 = .ok (.iconst 0, 1) := by decide +kernel
theorem d_N_days_159 : decode b_N_days 159 = .ok (.aload 5, 2) := by decide +kernel
theorem d_N_days_161 : decode b_N_days 161 = .ok (.getfield 193, 3) := by decide +kernel
theorem d_N_days_164 : decode b_N_days 164 = .ok (.invokevirtual 247, 3) := by decide +kernel
theorem d_N_days_167 : decode b_N_days 167 = .ok (.ireturn, 1) := by decide +kernel
theorem d_N_days_168 : decode b_N_days 168 = .ok (.bipush (-2), 2) := by decide +kernel
theorem d_N_days_170 : decode b_N_days 170 = .ok (.ireturn, 1) := by decide +kernel
theorem d_N_sleptOn_0 : decode b_N_sleptOn 0 = .ok (.iload_n 2, 1) := by decide +kernel
theorem d_N_sleptOn_1 : decode b_N_sleptOn 1 = .ok (.aload_n 0, 1) := by decide +kernel
theorem d_N_sleptOn_2 : decode b_N_sleptOn 2 = .ok (.getfield 147, 3) := by decide +kernel
theorem d_N_sleptOn_5 : decode b_N_sleptOn 5 = .ok (.imul, 1) := by decide +kernel
theorem d_N_sleptOn_6 : decode b_N_sleptOn 6 = .ok (.istore_n 3, 1) := by decide +kernel
theorem d_N_sleptOn_7 : decode b_N_sleptOn 7 = .ok (.aload_n 1, 1) := by decide +kernel
theorem d_N_sleptOn_8 : decode b_N_sleptOn 8 = .ok (.iconst 0, 1) := by decide +kernel
theorem d_N_sleptOn_9 : decode b_N_sleptOn 9 = .ok (.iload_n 3, 1) := by decide +kernel
theorem d_N_sleptOn_10 : decode b_N_sleptOn 10 = .ok (.iload_n 3, 1) := by decide +kernel
theorem d_N_sleptOn_11 : decode b_N_sleptOn 11 = .ok (.aload_n 0, 1) := by decide +kernel
theorem d_N_sleptOn_12 : decode b_N_sleptOn 12 = .ok (.getfield 147, 3) := by decide +kernel
theorem d_N_sleptOn_15 : decode b_N_sleptOn 15 = .ok (.iadd, 1) := by decide +kernel
theorem d_N_sleptOn_16 : decode b_N_sleptOn 16 = .ok (.invokevirtual 247, 3) := by decide +kernel
theorem d_N_sleptOn_19 : decode b_N_sleptOn 19 = .ok (.istore 4, 2) := by decide +kernel
theorem d_N_sleptOn_21 : decode b_N_sleptOn 21 = .ok (.aload_n 1, 1) := by decide +kernel
theorem d_N_sleptOn_22 : decode b_N_sleptOn 22 = .ok (.iconst 1, 1) := by decide +kernel
theorem d_N_sleptOn_23 : decode b_N_sleptOn 23 = .ok (.iload_n 3, 1) := by decide +kernel
theorem d_N_sleptOn_24 : decode b_N_sleptOn 24 = .ok (.iload_n 3, 1) := by decide +kernel
theorem d_N_sleptOn_25 : decode b_N_sleptOn 25 = .ok (.aload_n 0, 1) := by decide +kernel
theorem d_N_sleptOn_26 : decode b_N_sleptOn 26 = .ok (.getfield 147, 3) := by decide +kernel
theorem d_N_sleptOn_29 : decode b_N_sleptOn 29 = .ok (.iadd, 1) := by decide +kernel
theorem d_N_sleptOn_30 : decode b_N_sleptOn 30 = .ok (.invokevirtual 247, 3) := by decide +kernel
theorem d_N_sleptOn_33 : decode b_N_sleptOn 33 = .ok (.istore 5, 2) := by decide +kernel
theorem d_N_sleptOn_35 : decode b_N_sleptOn 35 = .ok (.aload_n 0, 1) := by decide +kernel
theorem d_N_sleptOn_36 : decode b_N_sleptOn 36 = .ok (.invokevirtual 251, 3) := by decide +kernel
theorem d_N_sleptOn_39 : decode b_N_sleptOn 39 = .ok (.aload_n 0, 1) := by decide +kernel
theorem d_N_sleptOn_40 : decode b_N_sleptOn 40 = .ok (.iload 4, 2) := by decide +kernel
theorem d_N_sleptOn_42 : decode b_N_sleptOn 42 = .ok (.iload 5, 2) := by decide +kernel
theorem d_N_sleptOn_44 : decode b_N_sleptOn 44 = .ok (.invokevirtual 230, 3) := by decide +kernel
theorem d_N_sleptOn_47 : decode b_N_sleptOn 47 = .ok (.iconst (-1), 1) := by decide +kernel
theorem d_N_sleptOn_48 : decode b_N_sleptOn 48 = .ok (.ixor, 1) := by decide +kernel
theorem d_N_sleptOn_49 : decode b_N_sleptOn 49 = .ok (.iand, 1) := by decide +kernel
theorem d_N_sleptOn_50 : decode b_N_sleptOn 50 = .ok (.ireturn, 1) := by decide +kernel
theorem d_N_breach_0 : decode b_N_breach 0 = .ok (.aload_n 0, 1) := by decide +kernel
theorem d_N_breach_1 : decode b_N_breach 1 = .ok (.iload_n 1, 1) := by decide +kernel
theorem d_N_breach_2 : decode b_N_breach 2 = .ok (.iload_n 3, 1) := by decide +kernel
theorem d_N_breach_3 : decode b_N_breach 3 = .ok (.invokevirtual 212, 3) := by decide +kernel
theorem d_N_breach_6 : decode b_N_breach 6 = .ok (.ifCond .eq 12, 3) := by decide +kernel
theorem d_N_breach_9 : decode b_N_breach 9 = .ok (.aload_n 0, 1) := by decide +kernel
theorem d_N_breach_10 : decode b_N_breach 10 = .ok (.iconst 2, 1) := by decide +kernel
theorem d_N_breach_11 : decode b_N_breach 11 = .ok (.iload_n 2, 1) := by decide +kernel
theorem d_N_breach_12 : decode b_N_breach 12 = .ok (.invokevirtual 143, 3) := by decide +kernel
theorem d_N_breach_15 : decode b_N_breach 15 = .ok (.ifCond .ne 7, 3) := by decide +kernel
theorem d_N_breach_18 : decode b_N_breach 18 = .ok (.sipush (-1000), 3) := by decide +kernel
theorem d_N_breach_21 : decode b_N_breach 21 = .ok (.ireturn, 1) := by decide +kernel
theorem d_N_breach_22 : decode b_N_breach 22 = .ok (.aload_n 0, 1) := by decide +kernel
theorem d_N_breach_23 : decode b_N_breach 23 = .ok (.getfield 10, 3) := by decide +kernel
theorem d_N_breach_26 : decode b_N_breach 26 = .ok (.getfield 81, 3) := by decide +kernel
theorem d_N_breach_29 : decode b_N_breach 29 = .ok (.iload_n 1, 1) := by decide +kernel
theorem d_N_breach_30 : decode b_N_breach 30 = .ok (.aaload, 1) := by decide +kernel
theorem d_N_breach_31 : decode b_N_breach 31 = .ok (.astore 5, 2) := by decide +kernel
theorem d_N_breach_33 : decode b_N_breach 33 = .ok (.aload_n 0, 1) := by decide +kernel
theorem d_N_breach_34 : decode b_N_breach 34 = .ok (.getfield 10, 3) := by decide +kernel
theorem d_N_breach_37 : decode b_N_breach 37 = .ok (.getfield 98, 3) := by decide +kernel
theorem d_N_breach_40 : decode b_N_breach 40 = .ok (.iload_n 3, 1) := by decide +kernel
theorem d_N_breach_41 : decode b_N_breach 41 = .ok (.aaload, 1) := by decide +kernel
theorem d_N_breach_42 : decode b_N_breach 42 = .ok (.astore 6, 2) := by decide +kernel
theorem d_N_breach_44 : decode b_N_breach 44 = .ok (.iload 4, 2) := by decide +kernel
theorem d_N_breach_46 : decode b_N_breach 46 = .ok (.tableswitch 79 0 2 #[26, 43, 61], 26) := by decide +kernel
theorem d_N_breach_72 : decode b_N_breach 72 = .ok (.aload 5, 2) := by decide +kernel
theorem d_N_breach_74 : decode b_N_breach 74 = .ok (.aload_n 0, 1) := by decide +kernel
theorem d_N_breach_75 : decode b_N_breach 75 = .ok (.getfield 10, 3) := by decide +kernel
theorem d_N_breach_78 : decode b_N_breach 78 = .ok (.getfield 108, 3) := by decide +kernel
theorem d_N_breach_81 : decode b_N_breach 81 = .ok (.iload_n 2, 1) := by decide +kernel
theorem d_N_breach_82 : decode b_N_breach 82 = .ok (.aaload, 1) := by decide +kernel
theorem d_N_breach_83 : decode b_N_breach 83 = .ok (.aload 6, 2) := by decide +kernel
theorem d_N_breach_85 : decode b_N_breach 85 = .ok (.invokestatic 255, 3) := by decide +kernel
theorem d_N_breach_88 : decode b_N_breach 88 = .ok (.ireturn, 1) := by decide +kernel
theorem d_N_breach_89 : decode b_N_breach 89 = .ok (.aload 5, 2) := by decide +kernel
theorem d_N_breach_91 : decode b_N_breach 91 = .ok (.aload_n 0, 1) := by decide +kernel
theorem d_N_breach_92 : decode b_N_breach 92 = .ok (.getfield 10, 3) := by decide +kernel
theorem d_N_breach_95 : decode b_N_breach 95 = .ok (.getfield 108, 3) := by decide +kernel
theorem d_N_breach_98 : decode b_N_breach 98 = .ok (.iload_n 2, 1) := by decide +kernel
theorem d_N_breach_99 : decode b_N_breach 99 = .ok (.aaload, 1) := by decide +kernel
theorem d_N_breach_100 : decode b_N_breach 100 = .ok (.aload 6, 2) := by decide +kernel
theorem d_N_breach_102 : decode b_N_breach 102 = .ok (.iconst 0, 1) := by decide +kernel
theorem d_N_breach_103 : decode b_N_breach 103 = .ok (.invokestatic 259, 3) := by decide +kernel
theorem d_N_breach_106 : decode b_N_breach 106 = .ok (.ireturn, 1) := by decide +kernel
theorem d_N_breach_107 : decode b_N_breach 107 = .ok (.aload 5, 2) := by decide +kernel
theorem d_N_breach_109 : decode b_N_breach 109 = .ok (.aload_n 0, 1) := by decide +kernel
theorem d_N_breach_110 : decode b_N_breach 110 = .ok (.getfield 10, 3) := by decide +kernel
theorem d_N_breach_113 : decode b_N_breach 113 = .ok (.getfield 108, 3) := by decide +kernel
theorem d_N_breach_116 : decode b_N_breach 116 = .ok (.iload_n 2, 1) := by decide +kernel
theorem d_N_breach_117 : decode b_N_breach 117 = .ok (.aaload, 1) := by decide +kernel
theorem d_N_breach_118 : decode b_N_breach 118 = .ok (.aload 6, 2) := by decide +kernel
theorem d_N_breach_120 : decode b_N_breach 120 = .ok (.iconst 1, 1) := by decide +kernel
theorem d_N_breach_121 : decode b_N_breach 121 = .ok (.invokestatic 259, 3) := by decide +kernel
theorem d_N_breach_124 : decode b_N_breach 124 = .ok (.ireturn, 1) := by decide +kernel
theorem d_N_breach_125 : decode b_N_breach 125 = .ok (.sipush (-1000), 3) := by decide +kernel
theorem d_N_breach_128 : decode b_N_breach 128 = .ok (.ireturn, 1) := by decide +kernel
theorem d_N_firstBreach_0 : decode b_N_firstBreach 0 = .ok (.iconst 0, 1) := by decide +kernel
theorem d_N_firstBreach_1 : decode b_N_firstBreach 1 = .ok (.istore_n 3, 1) := by decide +kernel
theorem d_N_firstBreach_2 : decode b_N_firstBreach 2 = .ok (.iload_n 3, 1) := by decide +kernel
theorem d_N_firstBreach_3 : decode b_N_firstBreach 3 = .ok (.aload_n 1, 1) := by decide +kernel
theorem d_N_firstBreach_4 : decode b_N_firstBreach 4 = .ok (.invokevirtual 263, 3) := by decide +kernel
theorem d_N_firstBreach_7 : decode b_N_firstBreach 7 = .ok (.if_icmp .ge 26, 3) := by decide +kernel
theorem d_N_firstBreach_10 : decode b_N_firstBreach 10 = .ok (.aload_n 1, 1) := by decide +kernel
theorem d_N_firstBreach_11 : decode b_N_firstBreach 11 = .ok (.getfield 266, 3) := by decide +kernel
theorem d_N_firstBreach_14 : decode b_N_firstBreach 14 = .ok (.iload_n 3, 1) := by decide +kernel
theorem d_N_firstBreach_15 : decode b_N_firstBreach 15 = .ok (.iaload, 1) := by decide +kernel
theorem d_N_firstBreach_16 : decode b_N_firstBreach 16 = .ok (.aload_n 0, 1) := by decide +kernel
theorem d_N_firstBreach_17 : decode b_N_firstBreach 17 = .ok (.aload_n 2, 1) := by decide +kernel
theorem d_N_firstBreach_18 : decode b_N_firstBreach 18 = .ok (.iload_n 3, 1) := by decide +kernel
theorem d_N_firstBreach_19 : decode b_N_firstBreach 19 = .ok (.invokevirtual 269, 3) := by decide +kernel
theorem d_N_firstBreach_22 : decode b_N_firstBreach 22 = .ok (.if_icmp .eq 5, 3) := by decide +kernel
theorem d_N_firstBreach_25 : decode b_N_firstBreach 25 = .ok (.iload_n 3, 1) := by decide +kernel
theorem d_N_firstBreach_26 : decode b_N_firstBreach 26 = .ok (.ireturn, 1) := by decide +kernel
theorem d_N_firstBreach_27 : decode b_N_firstBreach 27 = .ok (.iinc 3 1, 3) := by decide +kernel
theorem d_N_firstBreach_30 : decode b_N_firstBreach 30 = .ok (.goto (-28), 3) := by decide +kernel
theorem d_N_firstBreach_33 : decode b_N_firstBreach 33 = .ok (.iconst (-1), 1) := by decide +kernel
theorem d_N_firstBreach_34 : decode b_N_firstBreach 34 = .ok (.ireturn, 1) := by decide +kernel
theorem d_N_owed_0 : decode b_N_owed 0 = .ok (.iconst 0, 1) := by decide +kernel
theorem d_N_owed_1 : decode b_N_owed 1 = .ok (.istore 4, 2) := by decide +kernel
theorem d_N_owed_3 : decode b_N_owed 3 = .ok (.iconst 0, 1) := by decide +kernel
theorem d_N_owed_4 : decode b_N_owed 4 = .ok (.istore 5, 2) := by decide +kernel
theorem d_N_owed_6 : decode b_N_owed 6 = .ok (.iload 5, 2) := by decide +kernel
theorem d_N_owed_8 : decode b_N_owed 8 = .ok (.aload_n 1, 1) := by decide +kernel
theorem d_N_owed_9 : decode b_N_owed 9 = .ok (.invokevirtual 263, 3) := by decide +kernel
theorem d_N_owed_12 : decode b_N_owed 12 = .ok (.if_icmp .ge 53, 3) := by decide +kernel
theorem d_N_owed_15 : decode b_N_owed 15 = .ok (.iload 4, 2) := by decide +kernel
theorem d_N_owed_17 : decode b_N_owed 17 = .ok (.aload_n 0, 1) := by decide +kernel
theorem d_N_owed_18 : decode b_N_owed 18 = .ok (.aload_n 2, 1) := by decide +kernel
theorem d_N_owed_19 : decode b_N_owed 19 = .ok (.iload 5, 2) := by decide +kernel
theorem d_N_owed_21 : decode b_N_owed 21 = .ok (.invokevirtual 269, 3) := by decide +kernel
theorem d_N_owed_24 : decode b_N_owed 24 = .ok (.iload_n 3, 1) := by decide +kernel
theorem d_N_owed_25 : decode b_N_owed 25 = .ok (.if_icmp .ne 7, 3) := by decide +kernel
theorem d_N_owed_28 : decode b_N_owed 28 = .ok (.iconst 1, 1) := by decide +kernel
theorem d_N_owed_29 : decode b_N_owed 29 = .ok (.goto 4, 3) := by decide +kernel
theorem d_N_owed_32 : decode b_N_owed 32 = .ok (.iconst 0, 1) := by decide +kernel
theorem d_N_owed_33 : decode b_N_owed 33 = .ok (.invokestatic 219, 3) := by decide +kernel
theorem d_N_owed_36 : decode b_N_owed 36 = .ok (.aload_n 1, 1) := by decide +kernel
theorem d_N_owed_37 : decode b_N_owed 37 = .ok (.getfield 266, 3) := by decide +kernel
theorem d_N_owed_40 : decode b_N_owed 40 = .ok (.iload 5, 2) := by decide +kernel
theorem d_N_owed_42 : decode b_N_owed 42 = .ok (.iaload, 1) := by decide +kernel
theorem d_N_owed_43 : decode b_N_owed 43 = .ok (.iload_n 3, 1) := by decide +kernel
theorem d_N_owed_44 : decode b_N_owed 44 = .ok (.if_icmp .ne 7, 3) := by decide +kernel
theorem d_N_owed_47 : decode b_N_owed 47 = .ok (.iconst 1, 1) := by decide +kernel
theorem d_N_owed_48 : decode b_N_owed 48 = .ok (.goto 4, 3) := by decide +kernel
theorem d_N_owed_51 : decode b_N_owed 51 = .ok (.iconst 0, 1) := by decide +kernel
theorem d_N_owed_52 : decode b_N_owed 52 = .ok (.invokestatic 219, 3) := by decide +kernel
theorem d_N_owed_55 : decode b_N_owed 55 = .ok (.isub, 1) := by decide +kernel
theorem d_N_owed_56 : decode b_N_owed 56 = .ok (.iadd, 1) := by decide +kernel
theorem d_N_owed_57 : decode b_N_owed 57 = .ok (.istore 4, 2) := by decide +kernel
theorem d_N_owed_59 : decode b_N_owed 59 = .ok (.iinc 5 1, 3) := by decide +kernel
theorem d_N_owed_62 : decode b_N_owed 62 = .ok (.goto (-56), 3) := by decide +kernel
theorem d_N_owed_65 : decode b_N_owed 65 = .ok (.iload 4, 2) := by decide +kernel
theorem d_N_owed_67 : decode b_N_owed 67 = .ok (.ireturn, 1) := by decide +kernel
theorem d_N_ways_0 : decode b_N_ways 0 = .ok (.aload_n 0, 1) := by decide +kernel
theorem d_N_ways_1 : decode b_N_ways 1 = .ok (.iconst 0, 1) := by decide +kernel
theorem d_N_ways_2 : decode b_N_ways 2 = .ok (.iload_n 1, 1) := by decide +kernel
theorem d_N_ways_3 : decode b_N_ways 3 = .ok (.invokevirtual 143, 3) := by decide +kernel
theorem d_N_ways_6 : decode b_N_ways 6 = .ok (.ifCond .ne 7, 3) := by decide +kernel
theorem d_N_ways_9 : decode b_N_ways 9 = .ok (.ldc2_w 272, 3) := by decide +kernel
theorem d_N_ways_12 : decode b_N_ways 12 = .ok (.lreturn, 1) := by decide +kernel
theorem d_N_ways_13 : decode b_N_ways 13 = .ok (.aload_n 0, 1) := by decide +kernel
theorem d_N_ways_14 : decode b_N_ways 14 = .ok (.getfield 10, 3) := by decide +kernel
theorem d_N_ways_17 : decode b_N_ways 17 = .ok (.getfield 81, 3) := by decide +kernel
theorem d_N_ways_20 : decode b_N_ways 20 = .ok (.iload_n 1, 1) := by decide +kernel
theorem d_N_ways_21 : decode b_N_ways 21 = .ok (.aaload, 1) := by decide +kernel
theorem d_N_ways_22 : decode b_N_ways 22 = .ok (.astore_n 2, 1) := by decide +kernel
theorem d_N_ways_23 : decode b_N_ways 23 = .ok (.lconst 0, 1) := by decide +kernel
theorem d_N_ways_24 : decode b_N_ways 24 = .ok (.lstore_n 3, 1) := by decide +kernel
theorem d_N_ways_25 : decode b_N_ways 25 = .ok (.iconst 0, 1) := by decide +kernel
theorem d_N_ways_26 : decode b_N_ways 26 = .ok (.istore 5, 2) := by decide +kernel
theorem d_N_ways_28 : decode b_N_ways 28 = .ok (.iload 5, 2) := by decide +kernel
theorem d_N_ways_30 : decode b_N_ways 30 = .ok (.aload_n 2, 1) := by decide +kernel
theorem d_N_ways_31 : decode b_N_ways 31 = .ok (.getfield 147, 3) := by decide +kernel
theorem d_N_ways_34 : decode b_N_ways 34 = .ok (.iconst 2, 1) := by decide +kernel
theorem d_N_ways_35 : decode b_N_ways 35 = .ok (.idiv, 1) := by decide +kernel
theorem d_N_ways_36 : decode b_N_ways 36 = .ok (.if_icmp .gt 18, 3) := by decide +kernel
theorem d_N_ways_39 : decode b_N_ways 39 = .ok (.lload_n 3, 1) := by decide +kernel
theorem d_N_ways_40 : decode b_N_ways 40 = .ok (.aload_n 2, 1) := by decide +kernel
theorem d_N_ways_41 : decode b_N_ways 41 = .ok (.iload 5, 2) := by decide +kernel
theorem d_N_ways_43 : decode b_N_ways 43 = .ok (.invokestatic 274, 3) := by decide +kernel
theorem d_N_ways_46 : decode b_N_ways 46 = .ok (.ladd, 1) := by decide +kernel
theorem d_N_ways_47 : decode b_N_ways 47 = .ok (.lstore_n 3, 1) := by decide +kernel
theorem d_N_ways_48 : decode b_N_ways 48 = .ok (.iinc 5 1, 3) := by decide +kernel
theorem d_N_ways_51 : decode b_N_ways 51 = .ok (.goto (-23), 3) := by decide +kernel
theorem d_N_ways_54 : decode b_N_ways 54 = .ok (.lload_n 3, 1) := by decide +kernel
theorem d_N_ways_55 : decode b_N_ways 55 = .ok (.lreturn, 1) := by decide +kernel
theorem d_N_waysWith_0 : decode b_N_waysWith 0 = .ok (.lconst 0, 1) := by decide +kernel
theorem d_N_waysWith_1 : decode b_N_waysWith 1 = .ok (.lstore_n 2, 1) := by decide +kernel
theorem d_N_waysWith_2 : decode b_N_waysWith 2 = .ok (.aload_n 0, 1) := by decide +kernel
theorem d_N_waysWith_3 : decode b_N_waysWith 3 = .ok (.getfield 147, 3) := by decide +kernel
theorem d_N_waysWith_6 : decode b_N_waysWith 6 = .ok (.iconst 2, 1) := by decide +kernel
theorem d_N_waysWith_7 : decode b_N_waysWith 7 = .ok (.iload_n 1, 1) := by decide +kernel
theorem d_N_waysWith_8 : decode b_N_waysWith 8 = .ok (.imul, 1) := by decide +kernel
theorem d_N_waysWith_9 : decode b_N_waysWith 9 = .ok (.aload_n 0, 1) := by decide +kernel
theorem d_N_waysWith_10 : decode b_N_waysWith 10 = .ok (.getfield 162, 3) := by decide +kernel
theorem d_N_waysWith_13 : decode b_N_waysWith 13 = .ok (.imul, 1) := by decide +kernel
theorem d_N_waysWith_14 : decode b_N_waysWith 14 = .ok (.isub, 1) := by decide +kernel
theorem d_N_waysWith_15 : decode b_N_waysWith 15 = .ok (.istore 4, 2) := by decide +kernel
theorem d_N_waysWith_17 : decode b_N_waysWith 17 = .ok (.iconst 0, 1) := by decide +kernel
theorem d_N_waysWith_18 : decode b_N_waysWith 18 = .ok (.istore 5, 2) := by decide +kernel
theorem d_N_waysWith_20 : decode b_N_waysWith 20 = .ok (.iload 5, 2) := by decide +kernel
theorem d_N_waysWith_22 : decode b_N_waysWith 22 = .ok (.iload 4, 2) := by decide +kernel
theorem d_N_waysWith_24 : decode b_N_waysWith 24 = .ok (.if_icmp .gt 42, 3) := by decide +kernel
theorem d_N_waysWith_27 : decode b_N_waysWith 27 = .ok (.iload 4, 2) := by decide +kernel
theorem d_N_waysWith_29 : decode b_N_waysWith 29 = .ok (.iload 5, 2) := by decide +kernel
theorem d_N_waysWith_31 : decode b_N_waysWith 31 = .ok (.isub, 1) := by decide +kernel
theorem d_N_waysWith_32 : decode b_N_waysWith 32 = .ok (.istore 6, 2) := by decide +kernel
theorem d_N_waysWith_34 : decode b_N_waysWith 34 = .ok (.aload_n 0, 1) := by decide +kernel
theorem d_N_waysWith_35 : decode b_N_waysWith 35 = .ok (.iload 5, 2) := by decide +kernel
theorem d_N_waysWith_37 : decode b_N_waysWith 37 = .ok (.iload 6, 2) := by decide +kernel
theorem d_N_waysWith_39 : decode b_N_waysWith 39 = .ok (.invokevirtual 230, 3) := by decide +kernel
theorem d_N_waysWith_42 : decode b_N_waysWith 42 = .ok (.ifCond .ne 18, 3) := by decide +kernel
theorem d_N_waysWith_45 : decode b_N_waysWith 45 = .ok (.lload_n 2, 1) := by decide +kernel
theorem d_N_waysWith_46 : decode b_N_waysWith 46 = .ok (.aload_n 0, 1) := by decide +kernel
theorem d_N_waysWith_47 : decode b_N_waysWith 47 = .ok (.getfield 147, 3) := by decide +kernel
theorem d_N_waysWith_50 : decode b_N_waysWith 50 = .ok (.iload_n 1, 1) := by decide +kernel
theorem d_N_waysWith_51 : decode b_N_waysWith 51 = .ok (.iload 5, 2) := by decide +kernel
theorem d_N_waysWith_53 : decode b_N_waysWith 53 = .ok (.iload 6, 2) := by decide +kernel
theorem d_N_waysWith_55 : decode b_N_waysWith 55 = .ok (.invokestatic 278, 3) := by decide +kernel
theorem d_N_waysWith_58 : decode b_N_waysWith 58 = .ok (.ladd, 1) := by decide +kernel
theorem d_N_waysWith_59 : decode b_N_waysWith 59 = .ok (.lstore_n 2, 1) := by decide +kernel
theorem d_N_waysWith_60 : decode b_N_waysWith 60 = .ok (.iinc 5 1, 3) := by decide +kernel
theorem d_N_waysWith_63 : decode b_N_waysWith 63 = .ok (.goto (-43), 3) := by decide +kernel
theorem d_N_waysWith_66 : decode b_N_waysWith 66 = .ok (.lload_n 2, 1) := by decide +kernel
theorem d_N_waysWith_67 : decode b_N_waysWith 67 = .ok (.lreturn, 1) := by decide +kernel
theorem d_N_rowsWith_0 : decode b_N_rowsWith 0 = .ok (.iload_n 1, 1) := by decide +kernel
theorem d_N_rowsWith_1 : decode b_N_rowsWith 1 = .ok (.ifCond .gt 21, 3) := by decide +kernel
theorem d_N_rowsWith_4 : decode b_N_rowsWith 4 = .ok (.iload_n 2, 1) := by decide +kernel
theorem d_N_rowsWith_5 : decode b_N_rowsWith 5 = .ok (.ifCond .eq 7, 3) := by decide +kernel
theorem d_N_rowsWith_8 : decode b_N_rowsWith 8 = .ok (.iload_n 3, 1) := by decide +kernel
theorem d_N_rowsWith_9 : decode b_N_rowsWith 9 = .ok (.ifCond .ne 7, 3) := by decide +kernel
theorem d_N_rowsWith_12 : decode b_N_rowsWith 12 = .ok (.iconst 1, 1) := by decide +kernel
theorem d_N_rowsWith_13 : decode b_N_rowsWith 13 = .ok (.goto 4, 3) := by decide +kernel
theorem d_N_rowsWith_16 : decode b_N_rowsWith 16 = .ok (.iconst 0, 1) := by decide +kernel
theorem d_N_rowsWith_17 : decode b_N_rowsWith 17 = .ok (.invokestatic 219, 3) := by decide +kernel
theorem d_N_rowsWith_20 : decode b_N_rowsWith 20 = .ok (.i2l, 1) := by decide +kernel
theorem d_N_rowsWith_21 : decode b_N_rowsWith 21 = .ok (.lreturn, 1) := by decide +kernel
theorem d_N_rowsWith_22 : decode b_N_rowsWith 22 = .ok (.iload_n 2, 1) := by decide +kernel
theorem d_N_rowsWith_23 : decode b_N_rowsWith 23 = .ok (.iload_n 1, 1) := by decide +kernel
theorem d_N_rowsWith_24 : decode b_N_rowsWith 24 = .ok (.if_icmp .lt 8, 3) := by decide +kernel
theorem d_N_rowsWith_27 : decode b_N_rowsWith 27 = .ok (.iload_n 3, 1) := by decide +kernel
theorem d_N_rowsWith_28 : decode b_N_rowsWith 28 = .ok (.iload_n 1, 1) := by decide +kernel
theorem d_N_rowsWith_29 : decode b_N_rowsWith 29 = .ok (.if_icmp .ge 5, 3) := by decide +kernel
theorem d_N_rowsWith_32 : decode b_N_rowsWith 32 = .ok (.lconst 0, 1) := by decide +kernel
theorem d_N_rowsWith_33 : decode b_N_rowsWith 33 = .ok (.lreturn, 1) := by decide +kernel
theorem d_N_rowsWith_34 : decode b_N_rowsWith 34 = .ok (.iload_n 0, 1) := by decide +kernel
theorem d_N_rowsWith_35 : decode b_N_rowsWith 35 = .ok (.i2l, 1) := by decide +kernel
theorem d_N_rowsWith_36 : decode b_N_rowsWith 36 = .ok (.iload_n 2, 1) := by decide +kernel
theorem d_N_rowsWith_37 : decode b_N_rowsWith 37 = .ok (.iconst 1, 1) := by decide +kernel
theorem d_N_rowsWith_38 : decode b_N_rowsWith 38 = .ok (.isub, 1) := by decide +kernel
theorem d_N_rowsWith_39 : decode b_N_rowsWith 39 = .ok (.iload_n 1, 1) := by decide +kernel
theorem d_N_rowsWith_40 : decode b_N_rowsWith 40 = .ok (.iconst 1, 1) := by decide +kernel
theorem d_N_rowsWith_41 : decode b_N_rowsWith 41 = .ok (.isub, 1) := by decide +kernel
theorem d_N_rowsWith_42 : decode b_N_rowsWith 42 = .ok (.invokestatic 282, 3) := by decide +kernel
theorem d_N_rowsWith_45 : decode b_N_rowsWith 45 = .ok (.lmul, 1) := by decide +kernel
theorem d_N_rowsWith_46 : decode b_N_rowsWith 46 = .ok (.iload_n 3, 1) := by decide +kernel
theorem d_N_rowsWith_47 : decode b_N_rowsWith 47 = .ok (.iconst 1, 1) := by decide +kernel
theorem d_N_rowsWith_48 : decode b_N_rowsWith 48 = .ok (.isub, 1) := by decide +kernel
theorem d_N_rowsWith_49 : decode b_N_rowsWith 49 = .ok (.iload_n 1, 1) := by decide +kernel
theorem d_N_rowsWith_50 : decode b_N_rowsWith 50 = .ok (.iconst 1, 1) := by decide +kernel
theorem d_N_rowsWith_51 : decode b_N_rowsWith 51 = .ok (.isub, 1) := by decide +kernel
theorem d_N_rowsWith_52 : decode b_N_rowsWith 52 = .ok (.invokestatic 282, 3) := by decide +kernel
theorem d_N_rowsWith_55 : decode b_N_rowsWith 55 = .ok (.lmul, 1) := by decide +kernel
theorem d_N_rowsWith_56 : decode b_N_rowsWith 56 = .ok (.iload_n 1, 1) := by decide +kernel
theorem d_N_rowsWith_57 : decode b_N_rowsWith 57 = .ok (.i2l, 1) := by decide +kernel
theorem d_N_rowsWith_58 : decode b_N_rowsWith 58 = .ok (.ldiv, 1) := by decide +kernel
theorem d_N_rowsWith_59 : decode b_N_rowsWith 59 = .ok (.lreturn, 1) := by decide +kernel
theorem d_N_choose_0 : decode b_N_choose 0 = .ok (.lconst 1, 1) := by decide +kernel
theorem d_N_choose_1 : decode b_N_choose 1 = .ok (.lstore_n 2, 1) := by decide +kernel
theorem d_N_choose_2 : decode b_N_choose 2 = .ok (.iconst 1, 1) := by decide +kernel
theorem d_N_choose_3 : decode b_N_choose 3 = .ok (.istore 4, 2) := by decide +kernel
theorem d_N_choose_5 : decode b_N_choose 5 = .ok (.iload 4, 2) := by decide +kernel
theorem d_N_choose_7 : decode b_N_choose 7 = .ok (.iload_n 1, 1) := by decide +kernel
theorem d_N_choose_8 : decode b_N_choose 8 = .ok (.if_icmp .gt 23, 3) := by decide +kernel
theorem d_N_choose_11 : decode b_N_choose 11 = .ok (.lload_n 2, 1) := by decide +kernel
theorem d_N_choose_12 : decode b_N_choose 12 = .ok (.iload_n 0, 1) := by decide +kernel
theorem d_N_choose_13 : decode b_N_choose 13 = .ok (.iload_n 1, 1) := by decide +kernel
theorem d_N_choose_14 : decode b_N_choose 14 = .ok (.isub, 1) := by decide +kernel
theorem d_N_choose_15 : decode b_N_choose 15 = .ok (.iload 4, 2) := by decide +kernel
theorem d_N_choose_17 : decode b_N_choose 17 = .ok (.iadd, 1) := by decide +kernel
theorem d_N_choose_18 : decode b_N_choose 18 = .ok (.i2l, 1) := by decide +kernel
theorem d_N_choose_19 : decode b_N_choose 19 = .ok (.lmul, 1) := by decide +kernel
theorem d_N_choose_20 : decode b_N_choose 20 = .ok (.iload 4, 2) := by decide +kernel
theorem d_N_choose_22 : decode b_N_choose 22 = .ok (.i2l, 1) := by decide +kernel
theorem d_N_choose_23 : decode b_N_choose 23 = .ok (.ldiv, 1) := by decide +kernel
theorem d_N_choose_24 : decode b_N_choose 24 = .ok (.lstore_n 2, 1) := by decide +kernel
theorem d_N_choose_25 : decode b_N_choose 25 = .ok (.iinc 4 1, 3) := by decide +kernel
theorem d_N_choose_28 : decode b_N_choose 28 = .ok (.goto (-23), 3) := by decide +kernel
theorem d_N_choose_31 : decode b_N_choose 31 = .ok (.lload_n 2, 1) := by decide +kernel
theorem d_N_choose_32 : decode b_N_choose 32 = .ok (.lreturn, 1) := by decide +kernel
theorem d_N_best_0 : decode b_N_best 0 = .ok (.aload_n 0, 1) := by decide +kernel
theorem d_N_best_1 : decode b_N_best 1 = .ok (.iconst 0, 1) := by decide +kernel
theorem d_N_best_2 : decode b_N_best 2 = .ok (.iload_n 1, 1) := by decide +kernel
theorem d_N_best_3 : decode b_N_best 3 = .ok (.invokevirtual 143, 3) := by decide +kernel
theorem d_N_best_6 : decode b_N_best 6 = .ok (.ifCond .ne 5, 3) := by decide +kernel
theorem d_N_best_9 : decode b_N_best 9 = .ok (.iconst (-1), 1) := by decide +kernel
theorem d_N_best_10 : decode b_N_best 10 = .ok (.ireturn, 1) := by decide +kernel
theorem d_N_best_11 : decode b_N_best 11 = .ok (.aload_n 0, 1) := by decide +kernel
theorem d_N_best_12 : decode b_N_best 12 = .ok (.getfield 10, 3) := by decide +kernel
theorem d_N_best_15 : decode b_N_best 15 = .ok (.getfield 81, 3) := by decide +kernel
theorem d_N_best_18 : decode b_N_best 18 = .ok (.iload_n 1, 1) := by decide +kernel
theorem d_N_best_19 : decode b_N_best 19 = .ok (.aaload, 1) := by decide +kernel
theorem d_N_best_20 : decode b_N_best 20 = .ok (.astore_n 3, 1) := by decide +kernel
theorem d_N_best_21 : decode b_N_best 21 = .ok (.iload_n 2, 1) := by decide +kernel
theorem d_N_best_22 : decode b_N_best 22 = .ok (.ifCond .ne 8, 3) := by decide +kernel
theorem d_N_best_25 : decode b_N_best 25 = .ok (.aload_n 3, 1) := by decide +kernel
theorem d_N_best_26 : decode b_N_best 26 = .ok (.invokestatic 286, 3) := by decide +kernel
theorem d_N_best_29 : decode b_N_best 29 = .ok (.ireturn, 1) := by decide +kernel
theorem d_N_best_30 : decode b_N_best 30 = .ok (.iload_n 2, 1) := by decide +kernel
theorem d_N_best_31 : decode b_N_best 31 = .ok (.iconst 3, 1) := by decide +kernel
theorem d_N_best_32 : decode b_N_best 32 = .ok (.if_icmp .ne 24, 3) := by decide +kernel
theorem d_N_best_35 : decode b_N_best 35 = .ok (.iconst 0, 1) := by decide +kernel
theorem d_N_best_36 : decode b_N_best 36 = .ok (.aload_n 3, 1) := by decide +kernel
theorem d_N_best_37 : decode b_N_best 37 = .ok (.iconst 0, 1) := by decide +kernel
theorem d_N_best_38 : decode b_N_best 38 = .ok (.invokevirtual 290, 3) := by decide +kernel
theorem d_N_best_41 : decode b_N_best 41 = .ok (.aload_n 3, 1) := by decide +kernel
theorem d_N_best_42 : decode b_N_best 42 = .ok (.iconst 1, 1) := by decide +kernel
theorem d_N_best_43 : decode b_N_best 43 = .ok (.invokevirtual 290, 3) := by decide +kernel
theorem d_N_best_46 : decode b_N_best 46 = .ok (.iadd, 1) := by decide +kernel
theorem d_N_best_47 : decode b_N_best 47 = .ok (.aload_n 3, 1) := by decide +kernel
theorem d_N_best_48 : decode b_N_best 48 = .ok (.getfield 147, 3) := by decide +kernel
theorem d_N_best_51 : decode b_N_best 51 = .ok (.isub, 1) := by decide +kernel
theorem d_N_best_52 : decode b_N_best 52 = .ok (.invokestatic 293, 3) := by decide +kernel
theorem d_N_best_55 : decode b_N_best 55 = .ok (.ireturn, 1) := by decide +kernel
theorem d_N_best_56 : decode b_N_best 56 = .ok (.iload_n 2, 1) := by decide +kernel
theorem d_N_best_57 : decode b_N_best 57 = .ok (.bipush 10, 2) := by decide +kernel
theorem d_N_best_59 : decode b_N_best 59 = .ok (.if_icmp .lt 18, 3) := by decide +kernel
theorem d_N_best_62 : decode b_N_best 62 = .ok (.iload_n 2, 1) := by decide +kernel
theorem d_N_best_63 : decode b_N_best 63 = .ok (.bipush 10, 2) := by decide +kernel
theorem d_N_best_65 : decode b_N_best 65 = .ok (.aload_n 3, 1) := by decide +kernel
theorem d_N_best_66 : decode b_N_best 66 = .ok (.getfield 147, 3) := by decide +kernel
theorem d_N_best_69 : decode b_N_best 69 = .ok (.iadd, 1) := by decide +kernel
theorem d_N_best_70 : decode b_N_best 70 = .ok (.if_icmp .ge 7, 3) := by decide +kernel
theorem d_N_best_73 : decode b_N_best 73 = .ok (.iconst 1, 1) := by decide +kernel
theorem d_N_best_74 : decode b_N_best 74 = .ok (.goto 4, 3) := by decide +kernel
theorem d_N_best_77 : decode b_N_best 77 = .ok (.iconst 0, 1) := by decide +kernel
theorem d_N_best_78 : decode b_N_best 78 = .ok (.istore 4, 2) := by decide +kernel
theorem d_N_best_80 : decode b_N_best 80 = .ok (.iload_n 2, 1) := by decide +kernel
theorem d_N_best_81 : decode b_N_best 81 = .ok (.iconst 1, 1) := by decide +kernel
theorem d_N_best_82 : decode b_N_best 82 = .ok (.if_icmp .eq 15, 3) := by decide +kernel
theorem d_N_best_85 : decode b_N_best 85 = .ok (.iload_n 2, 1) := by decide +kernel
theorem d_N_best_86 : decode b_N_best 86 = .ok (.iconst 2, 1) := by decide +kernel
theorem d_N_best_87 : decode b_N_best 87 = .ok (.if_icmp .eq 10, 3) := by decide +kernel
theorem d_N_best_90 : decode b_N_best 90 = .ok (.iload 4, 2) := by decide +kernel
theorem d_N_best_92 : decode b_N_best 92 = .ok (.ifCond .ne 5, 3) := by decide +kernel
theorem d_N_best_95 : decode b_N_best 95 = .ok (.iconst (-1), 1) := by decide +kernel
theorem d_N_best_96 : decode b_N_best 96 = .ok (.ireturn, 1) := by decide +kernel
theorem d_N_best_97 : decode b_N_best 97 = .ok (.aload_n 3, 1) := by decide +kernel
theorem d_N_best_98 : decode b_N_best 98 = .ok (.getfield 298, 3) := by decide +kernel
theorem d_N_best_101 : decode b_N_best 101 = .ok (.ifCond .ne 11, 3) := by decide +kernel
theorem d_N_best_104 : decode b_N_best 104 = .ok (.aload_n 0, 1) := by decide +kernel
theorem d_N_best_105 : decode b_N_best 105 = .ok (.getfield 30, 3) := by decide +kernel
theorem d_N_best_108 : decode b_N_best 108 = .ok (.aload_n 3, 1) := by decide +kernel
theorem d_N_best_109 : decode b_N_best 109 = .ok (.invokevirtual 302, 3) := by decide +kernel
theorem d_N_best_112 : decode b_N_best 112 = .ok (.aload_n 3, 1) := by decide +kernel
theorem d_N_best_113 : decode b_N_best 113 = .ok (.getfield 305, 3) := by decide +kernel
theorem d_N_best_116 : decode b_N_best 116 = .ok (.ifCond .ne 5, 3) := by decide +kernel
theorem d_N_best_119 : decode b_N_best 119 = .ok (.iconst (-1), 1) := by decide +kernel
theorem d_N_best_120 : decode b_N_best 120 = .ok (.ireturn, 1) := by decide +kernel
theorem d_N_best_121 : decode b_N_best 121 = .ok (.iload 4, 2) := by decide +kernel
theorem d_N_best_123 : decode b_N_best 123 = .ok (.ifCond .eq 13, 3) := by decide +kernel
theorem d_N_best_126 : decode b_N_best 126 = .ok (.aload_n 3, 1) := by decide +kernel
theorem d_N_best_127 : decode b_N_best 127 = .ok (.getfield 308, 3) := by decide +kernel
theorem d_N_best_130 : decode b_N_best 130 = .ok (.iload_n 2, 1) := by decide +kernel
theorem d_N_best_131 : decode b_N_best 131 = .ok (.bipush 10, 2) := by decide +kernel
theorem d_N_best_133 : decode b_N_best 133 = .ok (.isub, 1) := by decide +kernel
theorem d_N_best_134 : decode b_N_best 134 = .ok (.iaload, 1) := by decide +kernel
theorem d_N_best_135 : decode b_N_best 135 = .ok (.ireturn, 1) := by decide +kernel
theorem d_N_best_136 : decode b_N_best 136 = .ok (.iload_n 2, 1) := by decide +kernel
theorem d_N_best_137 : decode b_N_best 137 = .ok (.iconst 1, 1) := by decide +kernel
theorem d_N_best_138 : decode b_N_best 138 = .ok (.if_icmp .ne 10, 3) := by decide +kernel
theorem d_N_best_141 : decode b_N_best 141 = .ok (.aload_n 3, 1) := by decide +kernel
theorem d_N_best_142 : decode b_N_best 142 = .ok (.getfield 311, 3) := by decide +kernel
theorem d_N_best_145 : decode b_N_best 145 = .ok (.goto 7, 3) := by decide +kernel
theorem d_N_best_148 : decode b_N_best 148 = .ok (.aload_n 3, 1) := by decide +kernel
theorem d_N_best_149 : decode b_N_best 149 = .ok (.getfield 314, 3) := by decide +kernel
theorem d_N_best_152 : decode b_N_best 152 = .ok (.ireturn, 1) := by decide +kernel
theorem d_N_fewest_0 : decode b_N_fewest 0 = .ok (.iconst 0, 1) := by decide +kernel
theorem d_N_fewest_1 : decode b_N_fewest 1 = .ok (.istore_n 1, 1) := by decide +kernel
theorem d_N_fewest_2 : decode b_N_fewest 2 = .ok (.iload_n 1, 1) := by decide +kernel
theorem d_N_fewest_3 : decode b_N_fewest 3 = .ok (.aload_n 0, 1) := by decide +kernel
theorem d_N_fewest_4 : decode b_N_fewest 4 = .ok (.getfield 147, 3) := by decide +kernel
theorem d_N_fewest_7 : decode b_N_fewest 7 = .ok (.iconst 2, 1) := by decide +kernel
theorem d_N_fewest_8 : decode b_N_fewest 8 = .ok (.idiv, 1) := by decide +kernel
theorem d_N_fewest_9 : decode b_N_fewest 9 = .ok (.if_icmp .gt 23, 3) := by decide +kernel
theorem d_N_fewest_12 : decode b_N_fewest 12 = .ok (.aload_n 0, 1) := by decide +kernel
theorem d_N_fewest_13 : decode b_N_fewest 13 = .ok (.iload_n 1, 1) := by decide +kernel
theorem d_N_fewest_14 : decode b_N_fewest 14 = .ok (.invokestatic 274, 3) := by decide +kernel
theorem d_N_fewest_17 : decode b_N_fewest 17 = .ok (.lconst 0, 1) := by decide +kernel
theorem d_N_fewest_18 : decode b_N_fewest 18 = .ok (.lcmp, 1) := by decide +kernel
theorem d_N_fewest_19 : decode b_N_fewest 19 = .ok (.ifCond .le 7, 3) := by decide +kernel
theorem d_N_fewest_22 : decode b_N_fewest 22 = .ok (.iconst 2, 1) := by decide +kernel
theorem d_N_fewest_23 : decode b_N_fewest 23 = .ok (.iload_n 1, 1) := by decide +kernel
theorem d_N_fewest_24 : decode b_N_fewest 24 = .ok (.imul, 1) := by decide +kernel
theorem d_N_fewest_25 : decode b_N_fewest 25 = .ok (.ireturn, 1) := by decide +kernel
theorem d_N_fewest_26 : decode b_N_fewest 26 = .ok (.iinc 1 1, 3) := by decide +kernel
theorem d_N_fewest_29 : decode b_N_fewest 29 = .ok (.goto (-27), 3) := by decide +kernel
theorem d_N_fewest_32 : decode b_N_fewest 32 = .ok (.iconst (-1), 1) := by decide +kernel
theorem d_N_fewest_33 : decode b_N_fewest 33 = .ok (.ireturn, 1) := by decide +kernel
theorem d_N_worth_0 : decode b_N_worth 0 = .ok (.aload_n 0, 1) := by decide +kernel
theorem d_N_worth_1 : decode b_N_worth 1 = .ok (.iconst 0, 1) := by decide +kernel
theorem d_N_worth_2 : decode b_N_worth 2 = .ok (.iload_n 1, 1) := by decide +kernel
theorem d_N_worth_3 : decode b_N_worth 3 = .ok (.invokevirtual 143, 3) := by decide +kernel
theorem d_N_worth_6 : decode b_N_worth 6 = .ok (.ifCond .eq 10, 3) := by decide +kernel
theorem d_N_worth_9 : decode b_N_worth 9 = .ok (.iload_n 2, 1) := by decide +kernel
theorem d_N_worth_10 : decode b_N_worth 10 = .ok (.invokestatic 317, 3) := by decide +kernel
theorem d_N_worth_13 : decode b_N_worth 13 = .ok (.ifCond .ne 5, 3) := by decide +kernel
theorem d_N_worth_16 : decode b_N_worth 16 = .ok (.iconst (-1), 1) := by decide +kernel
theorem d_N_worth_17 : decode b_N_worth 17 = .ok (.ireturn, 1) := by decide +kernel
theorem d_N_worth_18 : decode b_N_worth 18 = .ok (.aload_n 0, 1) := by decide +kernel
theorem d_N_worth_19 : decode b_N_worth 19 = .ok (.getfield 10, 3) := by decide +kernel
theorem d_N_worth_22 : decode b_N_worth 22 = .ok (.getfield 81, 3) := by decide +kernel
theorem d_N_worth_25 : decode b_N_worth 25 = .ok (.iload_n 1, 1) := by decide +kernel
theorem d_N_worth_26 : decode b_N_worth 26 = .ok (.aaload, 1) := by decide +kernel
theorem d_N_worth_27 : decode b_N_worth 27 = .ok (.iload_n 2, 1) := by decide +kernel
theorem d_N_worth_28 : decode b_N_worth 28 = .ok (.iload_n 3, 1) := by decide +kernel
theorem d_N_worth_29 : decode b_N_worth 29 = .ok (.invokevirtual 320, 3) := by decide +kernel
theorem d_N_worth_32 : decode b_N_worth 32 = .ok (.ireturn, 1) := by decide +kernel
theorem d_N_isCity_0 : decode b_N_isCity 0 = .ok (.iload_n 0, 1) := by decide +kernel
theorem d_N_isCity_1 : decode b_N_isCity 1 = .ok (.ifCond .eq 8, 3) := by decide +kernel
theorem d_N_isCity_4 : decode b_N_isCity 4 = .ok (.iload_n 0, 1) := by decide +kernel
theorem d_N_isCity_5 : decode b_N_isCity 5 = .ok (.iconst 1, 1) := by decide +kernel
theorem d_N_isCity_6 : decode b_N_isCity 6 = .ok (.if_icmp .ne 7, 3) := by decide +kernel
theorem d_N_isCity_9 : decode b_N_isCity 9 = .ok (.iconst 1, 1) := by decide +kernel
theorem d_N_isCity_10 : decode b_N_isCity 10 = .ok (.goto 4, 3) := by decide +kernel
theorem d_N_isCity_13 : decode b_N_isCity 13 = .ok (.iconst 0, 1) := by decide +kernel
theorem d_N_isCity_14 : decode b_N_isCity 14 = .ok (.ireturn, 1) := by decide +kernel
theorem d_N_envy_0 : decode b_N_envy 0 = .ok (.aload_n 0, 1) := by decide +kernel
theorem d_N_envy_1 : decode b_N_envy 1 = .ok (.iconst 0, 1) := by decide +kernel
theorem d_N_envy_2 : decode b_N_envy 2 = .ok (.iload_n 1, 1) := by decide +kernel
theorem d_N_envy_3 : decode b_N_envy 3 = .ok (.invokevirtual 143, 3) := by decide +kernel
theorem d_N_envy_6 : decode b_N_envy 6 = .ok (.ifCond .eq 10, 3) := by decide +kernel
theorem d_N_envy_9 : decode b_N_envy 9 = .ok (.iload_n 2, 1) := by decide +kernel
theorem d_N_envy_10 : decode b_N_envy 10 = .ok (.invokestatic 317, 3) := by decide +kernel
theorem d_N_envy_13 : decode b_N_envy 13 = .ok (.ifCond .ne 5, 3) := by decide +kernel
theorem d_N_envy_16 : decode b_N_envy 16 = .ok (.iconst (-1), 1) := by decide +kernel
theorem d_N_envy_17 : decode b_N_envy 17 = .ok (.ireturn, 1) := by decide +kernel
theorem d_N_envy_18 : decode b_N_envy 18 = .ok (.aload_n 0, 1) := by decide +kernel
theorem d_N_envy_19 : decode b_N_envy 19 = .ok (.getfield 10, 3) := by decide +kernel
theorem d_N_envy_22 : decode b_N_envy 22 = .ok (.getfield 81, 3) := by decide +kernel
theorem d_N_envy_25 : decode b_N_envy 25 = .ok (.iload_n 1, 1) := by decide +kernel
theorem d_N_envy_26 : decode b_N_envy 26 = .ok (.aaload, 1) := by decide +kernel
theorem d_N_envy_27 : decode b_N_envy 27 = .ok (.astore 4, 2) := by decide +kernel
theorem d_N_envy_29 : decode b_N_envy 29 = .ok (.iload_n 2, 1) := by decide +kernel
theorem d_N_envy_30 : decode b_N_envy 30 = .ok (.iconst 1, 1) := by decide +kernel
theorem d_N_envy_31 : decode b_N_envy 31 = .ok (.if_icmp .ne 7, 3) := by decide +kernel
theorem d_N_envy_34 : decode b_N_envy 34 = .ok (.iload_n 3, 1) := by decide +kernel
theorem d_N_envy_35 : decode b_N_envy 35 = .ok (.goto 6, 3) := by decide +kernel
theorem d_N_envy_38 : decode b_N_envy 38 = .ok (.iload_n 3, 1) := by decide +kernel
theorem d_N_envy_39 : decode b_N_envy 39 = .ok (.iconst (-1), 1) := by decide +kernel
theorem d_N_envy_40 : decode b_N_envy 40 = .ok (.ixor, 1) := by decide +kernel
theorem d_N_envy_41 : decode b_N_envy 41 = .ok (.istore 5, 2) := by decide +kernel
theorem d_N_envy_43 : decode b_N_envy 43 = .ok (.iconst 0, 1) := by decide +kernel
theorem d_N_envy_44 : decode b_N_envy 44 = .ok (.aload 4, 2) := by decide +kernel
theorem d_N_envy_46 : decode b_N_envy 46 = .ok (.iload_n 2, 1) := by decide +kernel
theorem d_N_envy_47 : decode b_N_envy 47 = .ok (.iload 5, 2) := by decide +kernel
theorem d_N_envy_49 : decode b_N_envy 49 = .ok (.iconst (-1), 1) := by decide +kernel
theorem d_N_envy_50 : decode b_N_envy 50 = .ok (.ixor, 1) := by decide +kernel
theorem d_N_envy_51 : decode b_N_envy 51 = .ok (.invokevirtual 320, 3) := by decide +kernel
theorem d_N_envy_54 : decode b_N_envy 54 = .ok (.aload 4, 2) := by decide +kernel
theorem d_N_envy_56 : decode b_N_envy 56 = .ok (.iload_n 2, 1) := by decide +kernel
theorem d_N_envy_57 : decode b_N_envy 57 = .ok (.iload 5, 2) := by decide +kernel
theorem d_N_envy_59 : decode b_N_envy 59 = .ok (.invokevirtual 320, 3) := by decide +kernel
theorem d_N_envy_62 : decode b_N_envy 62 = .ok (.isub, 1) := by decide +kernel
theorem d_N_envy_63 : decode b_N_envy 63 = .ok (.invokestatic 293, 3) := by decide +kernel
theorem d_N_envy_66 : decode b_N_envy 66 = .ok (.ireturn, 1) := by decide +kernel
theorem d_N_cut_0 : decode b_N_cut 0 = .ok (.aload_n 0, 1) := by decide +kernel
theorem d_N_cut_1 : decode b_N_cut 1 = .ok (.iconst 0, 1) := by decide +kernel
theorem d_N_cut_2 : decode b_N_cut 2 = .ok (.iload_n 1, 1) := by decide +kernel
theorem d_N_cut_3 : decode b_N_cut 3 = .ok (.invokevirtual 143, 3) := by decide +kernel
theorem d_N_cut_6 : decode b_N_cut 6 = .ok (.ifCond .ne 5, 3) := by decide +kernel
theorem d_N_cut_9 : decode b_N_cut 9 = .ok (.iconst (-1), 1) := by decide +kernel
theorem d_N_cut_10 : decode b_N_cut 10 = .ok (.ireturn, 1) := by decide +kernel
theorem d_N_cut_11 : decode b_N_cut 11 = .ok (.aload_n 0, 1) := by decide +kernel
theorem d_N_cut_12 : decode b_N_cut 12 = .ok (.getfield 10, 3) := by decide +kernel
theorem d_N_cut_15 : decode b_N_cut 15 = .ok (.getfield 81, 3) := by decide +kernel
theorem d_N_cut_18 : decode b_N_cut 18 = .ok (.iload_n 1, 1) := by decide +kernel
theorem d_N_cut_19 : decode b_N_cut 19 = .ok (.aaload, 1) := by decide +kernel
theorem d_N_cut_20 : decode b_N_cut 20 = .ok (.astore 4, 2) := by decide +kernel
theorem d_N_cut_22 : decode b_N_cut 22 = .ok (.iload_n 2, 1) := by decide +kernel
theorem d_N_cut_23 : decode b_N_cut 23 = .ok (.iconst 2, 1) := by decide +kernel
theorem d_N_cut_24 : decode b_N_cut 24 = .ok (.if_icmp .ne 24, 3) := by decide +kernel
theorem d_N_cut_27 : decode b_N_cut 27 = .ok (.aload 4, 2) := by decide +kernel
theorem d_N_cut_29 : decode b_N_cut 29 = .ok (.getfield 147, 3) := by decide +kernel
theorem d_N_cut_32 : decode b_N_cut 32 = .ok (.bipush 14, 2) := by decide +kernel
theorem d_N_cut_34 : decode b_N_cut 34 = .ok (.if_icmp .gt 12, 3) := by decide +kernel
theorem d_N_cut_37 : decode b_N_cut 37 = .ok (.aload_n 0, 1) := by decide +kernel
theorem d_N_cut_38 : decode b_N_cut 38 = .ok (.aload 4, 2) := by decide +kernel
theorem d_N_cut_40 : decode b_N_cut 40 = .ok (.invokevirtual 323, 3) := by decide +kernel
theorem d_N_cut_43 : decode b_N_cut 43 = .ok (.goto 4, 3) := by decide +kernel
theorem d_N_cut_46 : decode b_N_cut 46 = .ok (.iconst (-1), 1) := by decide +kernel
theorem d_N_cut_47 : decode b_N_cut 47 = .ok (.ireturn, 1) := by decide +kernel
theorem d_N_cut_48 : decode b_N_cut 48 = .ok (.iload_n 3, 1) := by decide +kernel
theorem d_N_cut_49 : decode b_N_cut 49 = .ok (.invokestatic 317, 3) := by decide +kernel
theorem d_N_cut_52 : decode b_N_cut 52 = .ok (.ifCond .ne 5, 3) := by decide +kernel
theorem d_N_cut_55 : decode b_N_cut 55 = .ok (.iconst (-1), 1) := by decide +kernel
theorem d_N_cut_56 : decode b_N_cut 56 = .ok (.ireturn, 1) := by decide +kernel
theorem d_N_cut_57 : decode b_N_cut 57 = .ok (.iload_n 2, 1) := by decide +kernel
theorem d_N_cut_58 : decode b_N_cut 58 = .ok (.ifCond .ne 10, 3) := by decide +kernel
theorem d_N_cut_61 : decode b_N_cut 61 = .ok (.aload 4, 2) := by decide +kernel
theorem d_N_cut_63 : decode b_N_cut 63 = .ok (.iload_n 3, 1) := by decide +kernel
theorem d_N_cut_64 : decode b_N_cut 64 = .ok (.invokestatic 326, 3) := by decide +kernel
theorem d_N_cut_67 : decode b_N_cut 67 = .ok (.ireturn, 1) := by decide +kernel
theorem d_N_cut_68 : decode b_N_cut 68 = .ok (.iload_n 2, 1) := by decide +kernel
theorem d_N_cut_69 : decode b_N_cut 69 = .ok (.iconst 1, 1) := by decide +kernel
theorem d_N_cut_70 : decode b_N_cut 70 = .ok (.if_icmp .ne 12, 3) := by decide +kernel
theorem d_N_cut_73 : decode b_N_cut 73 = .ok (.aload 4, 2) := by decide +kernel
theorem d_N_cut_75 : decode b_N_cut 75 = .ok (.iload_n 3, 1) := by decide +kernel
theorem d_N_cut_76 : decode b_N_cut 76 = .ok (.invokestatic 330, 3) := by decide +kernel
theorem d_N_cut_79 : decode b_N_cut 79 = .ok (.goto 4, 3) := by decide +kernel
theorem d_N_cut_82 : decode b_N_cut 82 = .ok (.iconst (-1), 1) := by decide +kernel
theorem d_N_cut_83 : decode b_N_cut 83 = .ok (.ireturn, 1) := by decide +kernel
theorem d_N_evenCut_0 : decode b_N_evenCut 0 = .ok (.aload_n 0, 1) := by decide +kernel
theorem d_N_evenCut_1 : decode b_N_evenCut 1 = .ok (.aload_n 1, 1) := by decide +kernel
theorem d_N_evenCut_2 : decode b_N_evenCut 2 = .ok (.invokevirtual 343, 3) := by decide +kernel
theorem d_N_evenCut_5 : decode b_N_evenCut 5 = .ok (.aload_n 1, 1) := by decide +kernel
theorem d_N_evenCut_6 : decode b_N_evenCut 6 = .ok (.iconst 0, 1) := by decide +kernel
theorem d_N_evenCut_7 : decode b_N_evenCut 7 = .ok (.aload_n 1, 1) := by decide +kernel
theorem d_N_evenCut_8 : decode b_N_evenCut 8 = .ok (.invokevirtual 333, 3) := by decide +kernel
theorem d_N_evenCut_11 : decode b_N_evenCut 11 = .ok (.invokevirtual 320, 3) := by decide +kernel
theorem d_N_evenCut_14 : decode b_N_evenCut 14 = .ok (.istore_n 2, 1) := by decide +kernel
theorem d_N_evenCut_15 : decode b_N_evenCut 15 = .ok (.iconst 0, 1) := by decide +kernel
theorem d_N_evenCut_16 : decode b_N_evenCut 16 = .ok (.istore_n 3, 1) := by decide +kernel
theorem d_N_evenCut_17 : decode b_N_evenCut 17 = .ok (.iconst 0, 1) := by decide +kernel
theorem d_N_evenCut_18 : decode b_N_evenCut 18 = .ok (.istore 4, 2) := by decide +kernel
theorem d_N_evenCut_20 : decode b_N_evenCut 20 = .ok (.iconst 0, 1) := by decide +kernel
theorem d_N_evenCut_21 : decode b_N_evenCut 21 = .ok (.istore 5, 2) := by decide +kernel
theorem d_N_evenCut_23 : decode b_N_evenCut 23 = .ok (.iconst 1, 1) := by decide +kernel
theorem d_N_evenCut_24 : decode b_N_evenCut 24 = .ok (.istore 6, 2) := by decide +kernel
theorem d_N_evenCut_26 : decode b_N_evenCut 26 = .ok (.iload 6, 2) := by decide +kernel
theorem d_N_evenCut_28 : decode b_N_evenCut 28 = .ok (.aload_n 1, 1) := by decide +kernel
theorem d_N_evenCut_29 : decode b_N_evenCut 29 = .ok (.invokevirtual 333, 3) := by decide +kernel
theorem d_N_evenCut_32 : decode b_N_evenCut 32 = .ok (.if_icmp .gt 112, 3) := by decide +kernel
theorem d_N_evenCut_35 : decode b_N_evenCut 35 = .ok (.iload 6, 2) := by decide +kernel
theorem d_N_evenCut_37 : decode b_N_evenCut 37 = .ok (.iload 6, 2) := by decide +kernel
theorem d_N_evenCut_39 : decode b_N_evenCut 39 = .ok (.iconst 1, 1) := by decide +kernel
theorem d_N_evenCut_40 : decode b_N_evenCut 40 = .ok (.isub, 1) := by decide +kernel
theorem d_N_evenCut_41 : decode b_N_evenCut 41 = .ok (.ixor, 1) := by decide +kernel
theorem d_N_evenCut_42 : decode b_N_evenCut 42 = .ok (.istore 7, 2) := by decide +kernel
theorem d_N_evenCut_44 : decode b_N_evenCut 44 = .ok (.iconst 0, 1) := by decide +kernel
theorem d_N_evenCut_45 : decode b_N_evenCut 45 = .ok (.istore 8, 2) := by decide +kernel
theorem d_N_evenCut_47 : decode b_N_evenCut 47 = .ok (.iload 8, 2) := by decide +kernel
theorem d_N_evenCut_49 : decode b_N_evenCut 49 = .ok (.aload_n 1, 1) := by decide +kernel
theorem d_N_evenCut_50 : decode b_N_evenCut 50 = .ok (.getfield 147, 3) := by decide +kernel
theorem d_N_evenCut_53 : decode b_N_evenCut 53 = .ok (.if_icmp .ge 64, 3) := by decide +kernel
theorem d_N_evenCut_56 : decode b_N_evenCut 56 = .ok (.iload 7, 2) := by decide +kernel
theorem d_N_evenCut_58 : decode b_N_evenCut 58 = .ok (.iload 8, 2) := by decide +kernel
theorem d_N_evenCut_60 : decode b_N_evenCut 60 = .ok (.ishr, 1) := by decide +kernel
theorem d_N_evenCut_61 : decode b_N_evenCut 61 = .ok (.ifCond .eq 56, 3) := by decide +kernel
theorem d_N_evenCut_64 : decode b_N_evenCut 64 = .ok (.iload 6, 2) := by decide +kernel
theorem d_N_evenCut_66 : decode b_N_evenCut 66 = .ok (.iload 8, 2) := by decide +kernel
theorem d_N_evenCut_68 : decode b_N_evenCut 68 = .ok (.ishr, 1) := by decide +kernel
theorem d_N_evenCut_69 : decode b_N_evenCut 69 = .ok (.iconst 1, 1) := by decide +kernel
theorem d_N_evenCut_70 : decode b_N_evenCut 70 = .ok (.iand, 1) := by decide +kernel
theorem d_N_evenCut_71 : decode b_N_evenCut 71 = .ok (.iconst 1, 1) := by decide +kernel
theorem d_N_evenCut_72 : decode b_N_evenCut 72 = .ok (.if_icmp .ne 7, 3) := by decide +kernel
theorem d_N_evenCut_75 : decode b_N_evenCut 75 = .ok (.iconst 1, 1) := by decide +kernel
theorem d_N_evenCut_76 : decode b_N_evenCut 76 = .ok (.goto 4, 3) := by decide +kernel
theorem d_N_evenCut_79 : decode b_N_evenCut 79 = .ok (.iconst (-1), 1) := by decide +kernel
theorem d_N_evenCut_80 : decode b_N_evenCut 80 = .ok (.istore 9, 2) := by decide +kernel
theorem d_N_evenCut_82 : decode b_N_evenCut 82 = .ok (.iload_n 3, 1) := by decide +kernel
theorem d_N_evenCut_83 : decode b_N_evenCut 83 = .ok (.iload 9, 2) := by decide +kernel
theorem d_N_evenCut_85 : decode b_N_evenCut 85 = .ok (.aload_n 0, 1) := by decide +kernel
theorem d_N_evenCut_86 : decode b_N_evenCut 86 = .ok (.getfield 38, 3) := by decide +kernel
theorem d_N_evenCut_89 : decode b_N_evenCut 89 = .ok (.bipush 24, 2) := by decide +kernel
theorem d_N_evenCut_91 : decode b_N_evenCut 91 = .ok (.iload 8, 2) := by decide +kernel
theorem d_N_evenCut_93 : decode b_N_evenCut 93 = .ok (.iadd, 1) := by decide +kernel
theorem d_N_evenCut_94 : decode b_N_evenCut 94 = .ok (.iaload, 1) := by decide +kernel
theorem d_N_evenCut_95 : decode b_N_evenCut 95 = .ok (.imul, 1) := by decide +kernel
theorem d_N_evenCut_96 : decode b_N_evenCut 96 = .ok (.iadd, 1) := by decide +kernel
theorem d_N_evenCut_97 : decode b_N_evenCut 97 = .ok (.istore_n 3, 1) := by decide +kernel
theorem d_N_evenCut_98 : decode b_N_evenCut 98 = .ok (.iload_n 2, 1) := by decide +kernel
theorem d_N_evenCut_99 : decode b_N_evenCut 99 = .ok (.iload 9, 2) := by decide +kernel
theorem d_N_evenCut_101 : decode b_N_evenCut 101 = .ok (.aload_n 0, 1) := by decide +kernel
theorem d_N_evenCut_102 : decode b_N_evenCut 102 = .ok (.getfield 38, 3) := by decide +kernel
theorem d_N_evenCut_105 : decode b_N_evenCut 105 = .ok (.iload 8, 2) := by decide +kernel
theorem d_N_evenCut_107 : decode b_N_evenCut 107 = .ok (.iaload, 1) := by decide +kernel
theorem d_N_evenCut_108 : decode b_N_evenCut 108 = .ok (.imul, 1) := by decide +kernel
theorem d_N_evenCut_109 : decode b_N_evenCut 109 = .ok (.isub, 1) := by decide +kernel
theorem d_N_evenCut_110 : decode b_N_evenCut 110 = .ok (.istore_n 2, 1) := by decide +kernel
theorem d_N_evenCut_111 : decode b_N_evenCut 111 = .ok (.iinc 8 1, 3) := by decide +kernel
theorem d_N_evenCut_114 : decode b_N_evenCut 114 = .ok (.goto (-67), 3) := by decide +kernel
theorem d_N_evenCut_117 : decode b_N_evenCut 117 = .ok (.iload_n 2, 1) := by decide +kernel
theorem d_N_evenCut_118 : decode b_N_evenCut 118 = .ok (.iload_n 3, 1) := by decide +kernel
theorem d_N_evenCut_119 : decode b_N_evenCut 119 = .ok (.invokestatic 346, 3) := by decide +kernel
theorem d_N_evenCut_122 : decode b_N_evenCut 122 = .ok (.iload 5, 2) := by decide +kernel
theorem d_N_evenCut_124 : decode b_N_evenCut 124 = .ok (.if_icmp .le 14, 3) := by decide +kernel
theorem d_N_evenCut_127 : decode b_N_evenCut 127 = .ok (.iload_n 2, 1) := by decide +kernel
theorem d_N_evenCut_128 : decode b_N_evenCut 128 = .ok (.iload_n 3, 1) := by decide +kernel
theorem d_N_evenCut_129 : decode b_N_evenCut 129 = .ok (.invokestatic 346, 3) := by decide +kernel
theorem d_N_evenCut_132 : decode b_N_evenCut 132 = .ok (.istore 5, 2) := by decide +kernel
theorem d_N_evenCut_134 : decode b_N_evenCut 134 = .ok (.iload 6, 2) := by decide +kernel
theorem d_N_evenCut_136 : decode b_N_evenCut 136 = .ok (.istore 4, 2) := by decide +kernel
theorem d_N_evenCut_138 : decode b_N_evenCut 138 = .ok (.iinc 6 1, 3) := by decide +kernel
theorem d_N_evenCut_141 : decode b_N_evenCut 141 = .ok (.goto (-115), 3) := by decide +kernel
theorem d_N_evenCut_144 : decode b_N_evenCut 144 = .ok (.iload 4, 2) := by decide +kernel
theorem d_N_evenCut_146 : decode b_N_evenCut 146 = .ok (.ireturn, 1) := by decide +kernel
theorem d_N_weighHours_0 : decode b_N_weighHours 0 = .ok (.iconst 0, 1) := by decide +kernel
theorem d_N_weighHours_1 : decode b_N_weighHours 1 = .ok (.istore_n 2, 1) := by decide +kernel
theorem d_N_weighHours_2 : decode b_N_weighHours 2 = .ok (.iload_n 2, 1) := by decide +kernel
theorem d_N_weighHours_3 : decode b_N_weighHours 3 = .ok (.aload_n 1, 1) := by decide +kernel
theorem d_N_weighHours_4 : decode b_N_weighHours 4 = .ok (.getfield 147, 3) := by decide +kernel
theorem d_N_weighHours_7 : decode b_N_weighHours 7 = .ok (.if_icmp .ge 40, 3) := by decide +kernel
theorem d_N_weighHours_10 : decode b_N_weighHours 10 = .ok (.aload_n 0, 1) := by decide +kernel
theorem d_N_weighHours_11 : decode b_N_weighHours 11 = .ok (.getfield 38, 3) := by decide +kernel
theorem d_N_weighHours_14 : decode b_N_weighHours 14 = .ok (.iload_n 2, 1) := by decide +kernel
theorem d_N_weighHours_15 : decode b_N_weighHours 15 = .ok (.aload_n 1, 1) := by decide +kernel
theorem d_N_weighHours_16 : decode b_N_weighHours 16 = .ok (.iconst 0, 1) := by decide +kernel
theorem d_N_weighHours_17 : decode b_N_weighHours 17 = .ok (.iconst 1, 1) := by decide +kernel
theorem d_N_weighHours_18 : decode b_N_weighHours 18 = .ok (.iload_n 2, 1) := by decide +kernel
theorem d_N_weighHours_19 : decode b_N_weighHours 19 = .ok (.ishl, 1) := by decide +kernel
theorem d_N_weighHours_20 : decode b_N_weighHours 20 = .ok (.invokevirtual 320, 3) := by decide +kernel
theorem d_N_weighHours_23 : decode b_N_weighHours 23 = .ok (.iastore, 1) := by decide +kernel
theorem d_N_weighHours_24 : decode b_N_weighHours 24 = .ok (.aload_n 0, 1) := by decide +kernel
theorem d_N_weighHours_25 : decode b_N_weighHours 25 = .ok (.getfield 38, 3) := by decide +kernel
theorem d_N_weighHours_28 : decode b_N_weighHours 28 = .ok (.bipush 24, 2) := by decide +kernel
theorem d_N_weighHours_30 : decode b_N_weighHours 30 = .ok (.iload_n 2, 1) := by decide +kernel
theorem d_N_weighHours_31 : decode b_N_weighHours 31 = .ok (.iadd, 1) := by decide +kernel
theorem d_N_weighHours_32 : decode b_N_weighHours 32 = .ok (.aload_n 1, 1) := by decide +kernel
theorem d_N_weighHours_33 : decode b_N_weighHours 33 = .ok (.iconst 1, 1) := by decide +kernel
theorem d_N_weighHours_34 : decode b_N_weighHours 34 = .ok (.iconst 1, 1) := by decide +kernel
theorem d_N_weighHours_35 : decode b_N_weighHours 35 = .ok (.iload_n 2, 1) := by decide +kernel
theorem d_N_weighHours_36 : decode b_N_weighHours 36 = .ok (.ishl, 1) := by decide +kernel
theorem d_N_weighHours_37 : decode b_N_weighHours 37 = .ok (.invokevirtual 320, 3) := by decide +kernel
theorem d_N_weighHours_40 : decode b_N_weighHours 40 = .ok (.iastore, 1) := by decide +kernel
theorem d_N_weighHours_41 : decode b_N_weighHours 41 = .ok (.iinc 2 1, 3) := by decide +kernel
theorem d_N_weighHours_44 : decode b_N_weighHours 44 = .ok (.goto (-42), 3) := by decide +kernel
theorem d_N_weighHours_47 : decode b_N_weighHours 47 = .ok (.return_, 1) := by decide +kernel
theorem d_N_cutByTurns_0 : decode b_N_cutByTurns 0 = .ok (.aload_n 0, 1) := by decide +kernel
theorem d_N_cutByTurns_1 : decode b_N_cutByTurns 1 = .ok (.invokevirtual 333, 3) := by decide +kernel
theorem d_N_cutByTurns_4 : decode b_N_cutByTurns 4 = .ok (.istore_n 2, 1) := by decide +kernel
theorem d_N_cutByTurns_5 : decode b_N_cutByTurns 5 = .ok (.iconst 0, 1) := by decide +kernel
theorem d_N_cutByTurns_6 : decode b_N_cutByTurns 6 = .ok (.istore_n 3, 1) := by decide +kernel
theorem d_N_cutByTurns_7 : decode b_N_cutByTurns 7 = .ok (.iload_n 1, 1) := by decide +kernel
theorem d_N_cutByTurns_8 : decode b_N_cutByTurns 8 = .ok (.istore 4, 2) := by decide +kernel
theorem d_N_cutByTurns_10 : decode b_N_cutByTurns 10 = .ok (.iconst 0, 1) := by decide +kernel
theorem d_N_cutByTurns_11 : decode b_N_cutByTurns 11 = .ok (.istore 5, 2) := by decide +kernel
theorem d_N_cutByTurns_13 : decode b_N_cutByTurns 13 = .ok (.iload 5, 2) := by decide +kernel
theorem d_N_cutByTurns_15 : decode b_N_cutByTurns 15 = .ok (.aload_n 0, 1) := by decide +kernel
theorem d_N_cutByTurns_16 : decode b_N_cutByTurns 16 = .ok (.getfield 147, 3) := by decide +kernel
theorem d_N_cutByTurns_19 : decode b_N_cutByTurns 19 = .ok (.if_icmp .ge 46, 3) := by decide +kernel
theorem d_N_cutByTurns_22 : decode b_N_cutByTurns 22 = .ok (.aload_n 0, 1) := by decide +kernel
theorem d_N_cutByTurns_23 : decode b_N_cutByTurns 23 = .ok (.iload 4, 2) := by decide +kernel
theorem d_N_cutByTurns_25 : decode b_N_cutByTurns 25 = .ok (.iload_n 2, 1) := by decide +kernel
theorem d_N_cutByTurns_26 : decode b_N_cutByTurns 26 = .ok (.invokestatic 336, 3) := by decide +kernel
theorem d_N_cutByTurns_29 : decode b_N_cutByTurns 29 = .ok (.istore 6, 2) := by decide +kernel
theorem d_N_cutByTurns_31 : decode b_N_cutByTurns 31 = .ok (.iload_n 2, 1) := by decide +kernel
theorem d_N_cutByTurns_32 : decode b_N_cutByTurns 32 = .ok (.iconst 1, 1) := by decide +kernel
theorem d_N_cutByTurns_33 : decode b_N_cutByTurns 33 = .ok (.iload 6, 2) := by decide +kernel
theorem d_N_cutByTurns_35 : decode b_N_cutByTurns 35 = .ok (.ishl, 1) := by decide +kernel
theorem d_N_cutByTurns_36 : decode b_N_cutByTurns 36 = .ok (.iconst (-1), 1) := by decide +kernel
theorem d_N_cutByTurns_37 : decode b_N_cutByTurns 37 = .ok (.ixor, 1) := by decide +kernel
theorem d_N_cutByTurns_38 : decode b_N_cutByTurns 38 = .ok (.iand, 1) := by decide +kernel
theorem d_N_cutByTurns_39 : decode b_N_cutByTurns 39 = .ok (.istore_n 2, 1) := by decide +kernel
theorem d_N_cutByTurns_40 : decode b_N_cutByTurns 40 = .ok (.iload 4, 2) := by decide +kernel
theorem d_N_cutByTurns_42 : decode b_N_cutByTurns 42 = .ok (.iconst 1, 1) := by decide +kernel
theorem d_N_cutByTurns_43 : decode b_N_cutByTurns 43 = .ok (.if_icmp .ne 10, 3) := by decide +kernel
theorem d_N_cutByTurns_46 : decode b_N_cutByTurns 46 = .ok (.iload_n 3, 1) := by decide +kernel
theorem d_N_cutByTurns_47 : decode b_N_cutByTurns 47 = .ok (.iconst 1, 1) := by decide +kernel
theorem d_N_cutByTurns_48 : decode b_N_cutByTurns 48 = .ok (.iload 6, 2) := by decide +kernel
theorem d_N_cutByTurns_50 : decode b_N_cutByTurns 50 = .ok (.ishl, 1) := by decide +kernel
theorem d_N_cutByTurns_51 : decode b_N_cutByTurns 51 = .ok (.ior, 1) := by decide +kernel
theorem d_N_cutByTurns_52 : decode b_N_cutByTurns 52 = .ok (.istore_n 3, 1) := by decide +kernel
theorem d_N_cutByTurns_53 : decode b_N_cutByTurns 53 = .ok (.iconst 1, 1) := by decide +kernel
theorem d_N_cutByTurns_54 : decode b_N_cutByTurns 54 = .ok (.iload 4, 2) := by decide +kernel
theorem d_N_cutByTurns_56 : decode b_N_cutByTurns 56 = .ok (.isub, 1) := by decide +kernel
theorem d_N_cutByTurns_57 : decode b_N_cutByTurns 57 = .ok (.istore 4, 2) := by decide +kernel
theorem d_N_cutByTurns_59 : decode b_N_cutByTurns 59 = .ok (.iinc 5 1, 3) := by decide +kernel
theorem d_N_cutByTurns_62 : decode b_N_cutByTurns 62 = .ok (.goto (-49), 3) := by decide +kernel
theorem d_N_cutByTurns_65 : decode b_N_cutByTurns 65 = .ok (.iload_n 3, 1) := by decide +kernel
theorem d_N_cutByTurns_66 : decode b_N_cutByTurns 66 = .ok (.ireturn, 1) := by decide +kernel
theorem d_N_dearest_0 : decode b_N_dearest 0 = .ok (.iconst 0, 1) := by decide +kernel
theorem d_N_dearest_1 : decode b_N_dearest 1 = .ok (.istore_n 3, 1) := by decide +kernel
theorem d_N_dearest_2 : decode b_N_dearest 2 = .ok (.iconst (-1), 1) := by decide +kernel
theorem d_N_dearest_3 : decode b_N_dearest 3 = .ok (.istore 4, 2) := by decide +kernel
theorem d_N_dearest_5 : decode b_N_dearest 5 = .ok (.iconst 0, 1) := by decide +kernel
theorem d_N_dearest_6 : decode b_N_dearest 6 = .ok (.istore 5, 2) := by decide +kernel
theorem d_N_dearest_8 : decode b_N_dearest 8 = .ok (.iload 5, 2) := by decide +kernel
theorem d_N_dearest_10 : decode b_N_dearest 10 = .ok (.aload_n 0, 1) := by decide +kernel
theorem d_N_dearest_11 : decode b_N_dearest 11 = .ok (.getfield 147, 3) := by decide +kernel
theorem d_N_dearest_14 : decode b_N_dearest 14 = .ok (.if_icmp .ge 47, 3) := by decide +kernel
theorem d_N_dearest_17 : decode b_N_dearest 17 = .ok (.iload_n 2, 1) := by decide +kernel
theorem d_N_dearest_18 : decode b_N_dearest 18 = .ok (.iload 5, 2) := by decide +kernel
theorem d_N_dearest_20 : decode b_N_dearest 20 = .ok (.ishr, 1) := by decide +kernel
theorem d_N_dearest_21 : decode b_N_dearest 21 = .ok (.iconst 1, 1) := by decide +kernel
theorem d_N_dearest_22 : decode b_N_dearest 22 = .ok (.iand, 1) := by decide +kernel
theorem d_N_dearest_23 : decode b_N_dearest 23 = .ok (.iconst 1, 1) := by decide +kernel
theorem d_N_dearest_24 : decode b_N_dearest 24 = .ok (.if_icmp .ne 31, 3) := by decide +kernel
theorem d_N_dearest_27 : decode b_N_dearest 27 = .ok (.aload_n 0, 1) := by decide +kernel
theorem d_N_dearest_28 : decode b_N_dearest 28 = .ok (.iload_n 1, 1) := by decide +kernel
theorem d_N_dearest_29 : decode b_N_dearest 29 = .ok (.iconst 1, 1) := by decide +kernel
theorem d_N_dearest_30 : decode b_N_dearest 30 = .ok (.iload 5, 2) := by decide +kernel
theorem d_N_dearest_32 : decode b_N_dearest 32 = .ok (.ishl, 1) := by decide +kernel
theorem d_N_dearest_33 : decode b_N_dearest 33 = .ok (.invokevirtual 320, 3) := by decide +kernel
theorem d_N_dearest_36 : decode b_N_dearest 36 = .ok (.iload 4, 2) := by decide +kernel
theorem d_N_dearest_38 : decode b_N_dearest 38 = .ok (.if_icmp .le 17, 3) := by decide +kernel
theorem d_N_dearest_41 : decode b_N_dearest 41 = .ok (.aload_n 0, 1) := by decide +kernel
theorem d_N_dearest_42 : decode b_N_dearest 42 = .ok (.iload_n 1, 1) := by decide +kernel
theorem d_N_dearest_43 : decode b_N_dearest 43 = .ok (.iconst 1, 1) := by decide +kernel
theorem d_N_dearest_44 : decode b_N_dearest 44 = .ok (.iload 5, 2) := by decide +kernel
theorem d_N_dearest_46 : decode b_N_dearest 46 = .ok (.ishl, 1) := by decide +kernel
theorem d_N_dearest_47 : decode b_N_dearest 47 = .ok (.invokevirtual 320, 3) := by decide +kernel
theorem d_N_dearest_50 : decode b_N_dearest 50 = .ok (.istore 4, 2) := by decide +kernel
theorem d_N_dearest_52 : decode b_N_dearest 52 = .ok (.iload 5, 2) := by decide +kernel
theorem d_N_dearest_54 : decode b_N_dearest 54 = .ok (.istore_n 3, 1) := by decide +kernel
theorem d_N_dearest_55 : decode b_N_dearest 55 = .ok (.iinc 5 1, 3) := by decide +kernel
theorem d_N_dearest_58 : decode b_N_dearest 58 = .ok (.goto (-50), 3) := by decide +kernel
theorem d_N_dearest_61 : decode b_N_dearest 61 = .ok (.iload_n 3, 1) := by decide +kernel
theorem d_N_dearest_62 : decode b_N_dearest 62 = .ok (.ireturn, 1) := by decide +kernel
theorem d_N_cutByKnife_0 : decode b_N_cutByKnife 0 = .ok (.aload_n 0, 1) := by decide +kernel
theorem d_N_cutByKnife_1 : decode b_N_cutByKnife 1 = .ok (.invokevirtual 333, 3) := by decide +kernel
theorem d_N_cutByKnife_4 : decode b_N_cutByKnife 4 = .ok (.istore_n 2, 1) := by decide +kernel
theorem d_N_cutByKnife_5 : decode b_N_cutByKnife 5 = .ok (.iconst 1, 1) := by decide +kernel
theorem d_N_cutByKnife_6 : decode b_N_cutByKnife 6 = .ok (.istore_n 3, 1) := by decide +kernel
theorem d_N_cutByKnife_7 : decode b_N_cutByKnife 7 = .ok (.iconst (-1), 1) := by decide +kernel
theorem d_N_cutByKnife_8 : decode b_N_cutByKnife 8 = .ok (.istore 4, 2) := by decide +kernel
theorem d_N_cutByKnife_10 : decode b_N_cutByKnife 10 = .ok (.iconst 1, 1) := by decide +kernel
theorem d_N_cutByKnife_11 : decode b_N_cutByKnife 11 = .ok (.istore 5, 2) := by decide +kernel
theorem d_N_cutByKnife_13 : decode b_N_cutByKnife 13 = .ok (.iload 5, 2) := by decide +kernel
theorem d_N_cutByKnife_15 : decode b_N_cutByKnife 15 = .ok (.aload_n 0, 1) := by decide +kernel
theorem d_N_cutByKnife_16 : decode b_N_cutByKnife 16 = .ok (.getfield 147, 3) := by decide +kernel
theorem d_N_cutByKnife_19 : decode b_N_cutByKnife 19 = .ok (.if_icmp .ge 61, 3) := by decide +kernel
theorem d_N_cutByKnife_22 : decode b_N_cutByKnife 22 = .ok (.iconst 1, 1) := by decide +kernel
theorem d_N_cutByKnife_23 : decode b_N_cutByKnife 23 = .ok (.iload 5, 2) := by decide +kernel
theorem d_N_cutByKnife_25 : decode b_N_cutByKnife 25 = .ok (.ishl, 1) := by decide +kernel
theorem d_N_cutByKnife_26 : decode b_N_cutByKnife 26 = .ok (.iconst 1, 1) := by decide +kernel
theorem d_N_cutByKnife_27 : decode b_N_cutByKnife 27 = .ok (.isub, 1) := by decide +kernel
theorem d_N_cutByKnife_28 : decode b_N_cutByKnife 28 = .ok (.istore 6, 2) := by decide +kernel
theorem d_N_cutByKnife_30 : decode b_N_cutByKnife 30 = .ok (.aload_n 0, 1) := by decide +kernel
theorem d_N_cutByKnife_31 : decode b_N_cutByKnife 31 = .ok (.iload_n 1, 1) := by decide +kernel
theorem d_N_cutByKnife_32 : decode b_N_cutByKnife 32 = .ok (.iload 6, 2) := by decide +kernel
theorem d_N_cutByKnife_34 : decode b_N_cutByKnife 34 = .ok (.invokevirtual 320, 3) := by decide +kernel
theorem d_N_cutByKnife_37 : decode b_N_cutByKnife 37 = .ok (.aload_n 0, 1) := by decide +kernel
theorem d_N_cutByKnife_38 : decode b_N_cutByKnife 38 = .ok (.iload_n 1, 1) := by decide +kernel
theorem d_N_cutByKnife_39 : decode b_N_cutByKnife 39 = .ok (.iload_n 2, 1) := by decide +kernel
theorem d_N_cutByKnife_40 : decode b_N_cutByKnife 40 = .ok (.iload 6, 2) := by decide +kernel
theorem d_N_cutByKnife_42 : decode b_N_cutByKnife 42 = .ok (.iconst (-1), 1) := by decide +kernel
theorem d_N_cutByKnife_43 : decode b_N_cutByKnife 43 = .ok (.ixor, 1) := by decide +kernel
theorem d_N_cutByKnife_44 : decode b_N_cutByKnife 44 = .ok (.iand, 1) := by decide +kernel
theorem d_N_cutByKnife_45 : decode b_N_cutByKnife 45 = .ok (.invokevirtual 320, 3) := by decide +kernel
theorem d_N_cutByKnife_48 : decode b_N_cutByKnife 48 = .ok (.isub, 1) := by decide +kernel
theorem d_N_cutByKnife_49 : decode b_N_cutByKnife 49 = .ok (.invokestatic 340, 3) := by decide +kernel
theorem d_N_cutByKnife_52 : decode b_N_cutByKnife 52 = .ok (.istore 7, 2) := by decide +kernel
theorem d_N_cutByKnife_54 : decode b_N_cutByKnife 54 = .ok (.iload 4, 2) := by decide +kernel
theorem d_N_cutByKnife_56 : decode b_N_cutByKnife 56 = .ok (.iconst (-1), 1) := by decide +kernel
theorem d_N_cutByKnife_57 : decode b_N_cutByKnife 57 = .ok (.if_icmp .eq 10, 3) := by decide +kernel
theorem d_N_cutByKnife_60 : decode b_N_cutByKnife 60 = .ok (.iload 7, 2) := by decide +kernel
theorem d_N_cutByKnife_62 : decode b_N_cutByKnife 62 = .ok (.iload 4, 2) := by decide +kernel
theorem d_N_cutByKnife_64 : decode b_N_cutByKnife 64 = .ok (.if_icmp .ge 10, 3) := by decide +kernel
theorem d_N_cutByKnife_67 : decode b_N_cutByKnife 67 = .ok (.iload 7, 2) := by decide +kernel
theorem d_N_cutByKnife_69 : decode b_N_cutByKnife 69 = .ok (.istore 4, 2) := by decide +kernel
theorem d_N_cutByKnife_71 : decode b_N_cutByKnife 71 = .ok (.iload 6, 2) := by decide +kernel
theorem d_N_cutByKnife_73 : decode b_N_cutByKnife 73 = .ok (.istore_n 3, 1) := by decide +kernel
theorem d_N_cutByKnife_74 : decode b_N_cutByKnife 74 = .ok (.iinc 5 1, 3) := by decide +kernel
theorem d_N_cutByKnife_77 : decode b_N_cutByKnife 77 = .ok (.goto (-64), 3) := by decide +kernel
theorem d_N_cutByKnife_80 : decode b_N_cutByKnife 80 = .ok (.iload_n 2, 1) := by decide +kernel
theorem d_N_cutByKnife_81 : decode b_N_cutByKnife 81 = .ok (.iload_n 3, 1) := by decide +kernel
theorem d_N_cutByKnife_82 : decode b_N_cutByKnife 82 = .ok (.iconst (-1), 1) := by decide +kernel
theorem d_N_cutByKnife_83 : decode b_N_cutByKnife 83 = .ok (.ixor, 1) := by decide +kernel
theorem d_N_cutByKnife_84 : decode b_N_cutByKnife 84 = .ok (.iand, 1) := by decide +kernel
theorem d_N_cutByKnife_85 : decode b_N_cutByKnife 85 = .ok (.istore 5, 2) := by decide +kernel
theorem d_N_cutByKnife_87 : decode b_N_cutByKnife 87 = .ok (.iconst 1, 1) := by decide +kernel
theorem d_N_cutByKnife_88 : decode b_N_cutByKnife 88 = .ok (.iload_n 1, 1) := by decide +kernel
theorem d_N_cutByKnife_89 : decode b_N_cutByKnife 89 = .ok (.isub, 1) := by decide +kernel
theorem d_N_cutByKnife_90 : decode b_N_cutByKnife 90 = .ok (.istore 6, 2) := by decide +kernel
theorem d_N_cutByKnife_92 : decode b_N_cutByKnife 92 = .ok (.aload_n 0, 1) := by decide +kernel
theorem d_N_cutByKnife_93 : decode b_N_cutByKnife 93 = .ok (.iload 6, 2) := by decide +kernel
theorem d_N_cutByKnife_95 : decode b_N_cutByKnife 95 = .ok (.iload 5, 2) := by decide +kernel
theorem d_N_cutByKnife_97 : decode b_N_cutByKnife 97 = .ok (.invokevirtual 320, 3) := by decide +kernel
theorem d_N_cutByKnife_100 : decode b_N_cutByKnife 100 = .ok (.aload_n 0, 1) := by decide +kernel
theorem d_N_cutByKnife_101 : decode b_N_cutByKnife 101 = .ok (.iload 6, 2) := by decide +kernel
theorem d_N_cutByKnife_103 : decode b_N_cutByKnife 103 = .ok (.iload_n 3, 1) := by decide +kernel
theorem d_N_cutByKnife_104 : decode b_N_cutByKnife 104 = .ok (.invokevirtual 320, 3) := by decide +kernel
theorem d_N_cutByKnife_107 : decode b_N_cutByKnife 107 = .ok (.if_icmp .le 8, 3) := by decide +kernel
theorem d_N_cutByKnife_110 : decode b_N_cutByKnife 110 = .ok (.iload 5, 2) := by decide +kernel
theorem d_N_cutByKnife_112 : decode b_N_cutByKnife 112 = .ok (.goto 4, 3) := by decide +kernel
theorem d_N_cutByKnife_115 : decode b_N_cutByKnife 115 = .ok (.iload_n 3, 1) := by decide +kernel
theorem d_N_cutByKnife_116 : decode b_N_cutByKnife 116 = .ok (.istore 7, 2) := by decide +kernel
theorem d_N_cutByKnife_118 : decode b_N_cutByKnife 118 = .ok (.iload 6, 2) := by decide +kernel
theorem d_N_cutByKnife_120 : decode b_N_cutByKnife 120 = .ok (.iconst 1, 1) := by decide +kernel
theorem d_N_cutByKnife_121 : decode b_N_cutByKnife 121 = .ok (.if_icmp .ne 8, 3) := by decide +kernel
theorem d_N_cutByKnife_124 : decode b_N_cutByKnife 124 = .ok (.iload 7, 2) := by decide +kernel
theorem d_N_cutByKnife_126 : decode b_N_cutByKnife 126 = .ok (.goto 9, 3) := by decide +kernel
theorem d_N_cutByKnife_129 : decode b_N_cutByKnife 129 = .ok (.iload_n 2, 1) := by decide +kernel
theorem d_N_cutByKnife_130 : decode b_N_cutByKnife 130 = .ok (.iload 7, 2) := by decide +kernel
theorem d_N_cutByKnife_132 : decode b_N_cutByKnife 132 = .ok (.iconst (-1), 1) := by decide +kernel
theorem d_N_cutByKnife_133 : decode b_N_cutByKnife 133 = .ok (.ixor, 1) := by decide +kernel
theorem d_N_cutByKnife_134 : decode b_N_cutByKnife 134 = .ok (.iand, 1) := by decide +kernel
theorem d_N_cutByKnife_135 : decode b_N_cutByKnife 135 = .ok (.ireturn, 1) := by decide +kernel
theorem d_N_gain_0 : decode b_N_gain 0 = .ok (.aload_n 0, 1) := by decide +kernel
theorem d_N_gain_1 : decode b_N_gain 1 = .ok (.iload_n 1, 1) := by decide +kernel
theorem d_N_gain_2 : decode b_N_gain 2 = .ok (.iload_n 2, 1) := by decide +kernel
theorem d_N_gain_3 : decode b_N_gain 3 = .ok (.invokevirtual 212, 3) := by decide +kernel
theorem d_N_gain_6 : decode b_N_gain 6 = .ok (.ifCond .eq 27, 3) := by decide +kernel
theorem d_N_gain_9 : decode b_N_gain 9 = .ok (.aload_n 0, 1) := by decide +kernel
theorem d_N_gain_10 : decode b_N_gain 10 = .ok (.getfield 10, 3) := by decide +kernel
theorem d_N_gain_13 : decode b_N_gain 13 = .ok (.getfield 81, 3) := by decide +kernel
theorem d_N_gain_16 : decode b_N_gain 16 = .ok (.iload_n 1, 1) := by decide +kernel
theorem d_N_gain_17 : decode b_N_gain 17 = .ok (.aaload, 1) := by decide +kernel
theorem d_N_gain_18 : decode b_N_gain 18 = .ok (.iload_n 3, 1) := by decide +kernel
theorem d_N_gain_19 : decode b_N_gain 19 = .ok (.invokevirtual 174, 3) := by decide +kernel
theorem d_N_gain_22 : decode b_N_gain 22 = .ok (.ifCond .eq 11, 3) := by decide +kernel
theorem d_N_gain_25 : decode b_N_gain 25 = .ok (.iload 4, 2) := by decide +kernel
theorem d_N_gain_27 : decode b_N_gain 27 = .ok (.invokestatic 317, 3) := by decide +kernel
theorem d_N_gain_30 : decode b_N_gain 30 = .ok (.ifCond .ne 7, 3) := by decide +kernel
theorem d_N_gain_33 : decode b_N_gain 33 = .ok (.sipush (-1000), 3) := by decide +kernel
theorem d_N_gain_36 : decode b_N_gain 36 = .ok (.ireturn, 1) := by decide +kernel
theorem d_N_gain_37 : decode b_N_gain 37 = .ok (.aload_n 0, 1) := by decide +kernel
theorem d_N_gain_38 : decode b_N_gain 38 = .ok (.getfield 10, 3) := by decide +kernel
theorem d_N_gain_41 : decode b_N_gain 41 = .ok (.getfield 81, 3) := by decide +kernel
theorem d_N_gain_44 : decode b_N_gain 44 = .ok (.iload_n 1, 1) := by decide +kernel
theorem d_N_gain_45 : decode b_N_gain 45 = .ok (.aaload, 1) := by decide +kernel
theorem d_N_gain_46 : decode b_N_gain 46 = .ok (.astore 5, 2) := by decide +kernel
theorem d_N_gain_48 : decode b_N_gain 48 = .ok (.aload_n 0, 1) := by decide +kernel
theorem d_N_gain_49 : decode b_N_gain 49 = .ok (.aload 5, 2) := by decide +kernel
theorem d_N_gain_51 : decode b_N_gain 51 = .ok (.aload_n 0, 1) := by decide +kernel
theorem d_N_gain_52 : decode b_N_gain 52 = .ok (.getfield 10, 3) := by decide +kernel
theorem d_N_gain_55 : decode b_N_gain 55 = .ok (.getfield 98, 3) := by decide +kernel
theorem d_N_gain_58 : decode b_N_gain 58 = .ok (.iload_n 2, 1) := by decide +kernel
theorem d_N_gain_59 : decode b_N_gain 59 = .ok (.aaload, 1) := by decide +kernel
theorem d_N_gain_60 : decode b_N_gain 60 = .ok (.invokevirtual 349, 3) := by decide +kernel
theorem d_N_gain_63 : decode b_N_gain 63 = .ok (.aload_n 0, 1) := by decide +kernel
theorem d_N_gain_64 : decode b_N_gain 64 = .ok (.aload 5, 2) := by decide +kernel
theorem d_N_gain_66 : decode b_N_gain 66 = .ok (.aload 5, 2) := by decide +kernel
theorem d_N_gain_68 : decode b_N_gain 68 = .ok (.invokevirtual 353, 3) := by decide +kernel
theorem d_N_gain_71 : decode b_N_gain 71 = .ok (.iload_n 3, 1) := by decide +kernel
theorem d_N_gain_72 : decode b_N_gain 72 = .ok (.iload 4, 2) := by decide +kernel
theorem d_N_gain_74 : decode b_N_gain 74 = .ok (.invokevirtual 356, 3) := by decide +kernel
theorem d_N_gain_77 : decode b_N_gain 77 = .ok (.ireturn, 1) := by decide +kernel
theorem d_N_weighDark_0 : decode b_N_weighDark 0 = .ok (.iconst 0, 1) := by decide +kernel
theorem d_N_weighDark_1 : decode b_N_weighDark 1 = .ok (.istore_n 3, 1) := by decide +kernel
theorem d_N_weighDark_2 : decode b_N_weighDark 2 = .ok (.iload_n 3, 1) := by decide +kernel
theorem d_N_weighDark_3 : decode b_N_weighDark 3 = .ok (.aload_n 1, 1) := by decide +kernel
theorem d_N_weighDark_4 : decode b_N_weighDark 4 = .ok (.getfield 171, 3) := by decide +kernel
theorem d_N_weighDark_7 : decode b_N_weighDark 7 = .ok (.if_icmp .ge 41, 3) := by decide +kernel
theorem d_N_weighDark_10 : decode b_N_weighDark 10 = .ok (.aload_n 0, 1) := by decide +kernel
theorem d_N_weighDark_11 : decode b_N_weighDark 11 = .ok (.getfield 34, 3) := by decide +kernel
theorem d_N_weighDark_14 : decode b_N_weighDark 14 = .ok (.iconst 2, 1) := by decide +kernel
theorem d_N_weighDark_15 : decode b_N_weighDark 15 = .ok (.iload_n 3, 1) := by decide +kernel
theorem d_N_weighDark_16 : decode b_N_weighDark 16 = .ok (.imul, 1) := by decide +kernel
theorem d_N_weighDark_17 : decode b_N_weighDark 17 = .ok (.aload_n 1, 1) := by decide +kernel
theorem d_N_weighDark_18 : decode b_N_weighDark 18 = .ok (.iload_n 3, 1) := by decide +kernel
theorem d_N_weighDark_19 : decode b_N_weighDark 19 = .ok (.aload_n 2, 1) := by decide +kernel
theorem d_N_weighDark_20 : decode b_N_weighDark 20 = .ok (.iconst 0, 1) := by decide +kernel
theorem d_N_weighDark_21 : decode b_N_weighDark 21 = .ok (.invokevirtual 370, 3) := by decide +kernel
theorem d_N_weighDark_24 : decode b_N_weighDark 24 = .ok (.iastore, 1) := by decide +kernel
theorem d_N_weighDark_25 : decode b_N_weighDark 25 = .ok (.aload_n 0, 1) := by decide +kernel
theorem d_N_weighDark_26 : decode b_N_weighDark 26 = .ok (.getfield 34, 3) := by decide +kernel
theorem d_N_weighDark_29 : decode b_N_weighDark 29 = .ok (.iconst 2, 1) := by decide +kernel
theorem d_N_weighDark_30 : decode b_N_weighDark 30 = .ok (.iload_n 3, 1) := by decide +kernel
theorem d_N_weighDark_31 : decode b_N_weighDark 31 = .ok (.imul, 1) := by decide +kernel
theorem d_N_weighDark_32 : decode b_N_weighDark 32 = .ok (.iconst 1, 1) := by decide +kernel
theorem d_N_weighDark_33 : decode b_N_weighDark 33 = .ok (.iadd, 1) := by decide +kernel
theorem d_N_weighDark_34 : decode b_N_weighDark 34 = .ok (.aload_n 1, 1) := by decide +kernel
theorem d_N_weighDark_35 : decode b_N_weighDark 35 = .ok (.iload_n 3, 1) := by decide +kernel
theorem d_N_weighDark_36 : decode b_N_weighDark 36 = .ok (.aload_n 2, 1) := by decide +kernel
theorem d_N_weighDark_37 : decode b_N_weighDark 37 = .ok (.iconst 1, 1) := by decide +kernel
theorem d_N_weighDark_38 : decode b_N_weighDark 38 = .ok (.invokevirtual 370, 3) := by decide +kernel
theorem d_N_weighDark_41 : decode b_N_weighDark 41 = .ok (.iastore, 1) := by decide +kernel
theorem d_N_weighDark_42 : decode b_N_weighDark 42 = .ok (.iinc 3 1, 3) := by decide +kernel
theorem d_N_weighDark_45 : decode b_N_weighDark 45 = .ok (.goto (-43), 3) := by decide +kernel
theorem d_N_weighDark_48 : decode b_N_weighDark 48 = .ok (.return_, 1) := by decide +kernel
theorem d_N_gainIn_0 : decode b_N_gainIn 0 = .ok (.iload_n 2, 1) := by decide +kernel
theorem d_N_gainIn_1 : decode b_N_gainIn 1 = .ok (.iconst 1, 1) := by decide +kernel
theorem d_N_gainIn_2 : decode b_N_gainIn 2 = .ok (.iload_n 3, 1) := by decide +kernel
theorem d_N_gainIn_3 : decode b_N_gainIn 3 = .ok (.ishl, 1) := by decide +kernel
theorem d_N_gainIn_4 : decode b_N_gainIn 4 = .ok (.iconst (-1), 1) := by decide +kernel
theorem d_N_gainIn_5 : decode b_N_gainIn 5 = .ok (.ixor, 1) := by decide +kernel
theorem d_N_gainIn_6 : decode b_N_gainIn 6 = .ok (.iand, 1) := by decide +kernel
theorem d_N_gainIn_7 : decode b_N_gainIn 7 = .ok (.istore 5, 2) := by decide +kernel
theorem d_N_gainIn_9 : decode b_N_gainIn 9 = .ok (.iload 5, 2) := by decide +kernel
theorem d_N_gainIn_11 : decode b_N_gainIn 11 = .ok (.invokestatic 374, 3) := by decide +kernel
theorem d_N_gainIn_14 : decode b_N_gainIn 14 = .ok (.istore 6, 2) := by decide +kernel
theorem d_N_gainIn_16 : decode b_N_gainIn 16 = .ok (.iload 4, 2) := by decide +kernel
theorem d_N_gainIn_18 : decode b_N_gainIn 18 = .ok (.iconst 1, 1) := by decide +kernel
theorem d_N_gainIn_19 : decode b_N_gainIn 19 = .ok (.if_icmp .ne 8, 3) := by decide +kernel
theorem d_N_gainIn_22 : decode b_N_gainIn 22 = .ok (.iload 6, 2) := by decide +kernel
theorem d_N_gainIn_24 : decode b_N_gainIn 24 = .ok (.goto 12, 3) := by decide +kernel
theorem d_N_gainIn_27 : decode b_N_gainIn 27 = .ok (.aload_n 1, 1) := by decide +kernel
theorem d_N_gainIn_28 : decode b_N_gainIn 28 = .ok (.getfield 171, 3) := by decide +kernel
theorem d_N_gainIn_31 : decode b_N_gainIn 31 = .ok (.iconst 1, 1) := by decide +kernel
theorem d_N_gainIn_32 : decode b_N_gainIn 32 = .ok (.isub, 1) := by decide +kernel
theorem d_N_gainIn_33 : decode b_N_gainIn 33 = .ok (.iload 6, 2) := by decide +kernel
theorem d_N_gainIn_35 : decode b_N_gainIn 35 = .ok (.isub, 1) := by decide +kernel
theorem d_N_gainIn_36 : decode b_N_gainIn 36 = .ok (.istore 7, 2) := by decide +kernel
theorem d_N_gainIn_38 : decode b_N_gainIn 38 = .ok (.aload_n 0, 1) := by decide +kernel
theorem d_N_gainIn_39 : decode b_N_gainIn 39 = .ok (.getfield 34, 3) := by decide +kernel
theorem d_N_gainIn_42 : decode b_N_gainIn 42 = .ok (.iconst 2, 1) := by decide +kernel
theorem d_N_gainIn_43 : decode b_N_gainIn 43 = .ok (.iload_n 3, 1) := by decide +kernel
theorem d_N_gainIn_44 : decode b_N_gainIn 44 = .ok (.imul, 1) := by decide +kernel
theorem d_N_gainIn_45 : decode b_N_gainIn 45 = .ok (.iload 4, 2) := by decide +kernel
theorem d_N_gainIn_47 : decode b_N_gainIn 47 = .ok (.iadd, 1) := by decide +kernel
theorem d_N_gainIn_48 : decode b_N_gainIn 48 = .ok (.iaload, 1) := by decide +kernel
theorem d_N_gainIn_49 : decode b_N_gainIn 49 = .ok (.aload_n 1, 1) := by decide +kernel
theorem d_N_gainIn_50 : decode b_N_gainIn 50 = .ok (.getfield 165, 3) := by decide +kernel
theorem d_N_gainIn_53 : decode b_N_gainIn 53 = .ok (.iload 7, 2) := by decide +kernel
theorem d_N_gainIn_55 : decode b_N_gainIn 55 = .ok (.imul, 1) := by decide +kernel
theorem d_N_gainIn_56 : decode b_N_gainIn 56 = .ok (.isub, 1) := by decide +kernel
theorem d_N_gainIn_57 : decode b_N_gainIn 57 = .ok (.ireturn, 1) := by decide +kernel
theorem d_N_moves_0 : decode b_N_moves 0 = .ok (.aload_n 0, 1) := by decide +kernel
theorem d_N_moves_1 : decode b_N_moves 1 = .ok (.iload_n 1, 1) := by decide +kernel
theorem d_N_moves_2 : decode b_N_moves 2 = .ok (.iload_n 2, 1) := by decide +kernel
theorem d_N_moves_3 : decode b_N_moves 3 = .ok (.invokevirtual 212, 3) := by decide +kernel
theorem d_N_moves_6 : decode b_N_moves 6 = .ok (.ifCond .ne 6, 3) := by decide +kernel
theorem d_N_moves_9 : decode b_N_moves 9 = .ok (.bipush (-2), 2) := by decide +kernel
theorem d_N_moves_11 : decode b_N_moves 11 = .ok (.ireturn, 1) := by decide +kernel
theorem d_N_moves_12 : decode b_N_moves 12 = .ok (.aload_n 0, 1) := by decide +kernel
theorem d_N_moves_13 : decode b_N_moves 13 = .ok (.getfield 10, 3) := by decide +kernel
theorem d_N_moves_16 : decode b_N_moves 16 = .ok (.getfield 81, 3) := by decide +kernel
theorem d_N_moves_19 : decode b_N_moves 19 = .ok (.iload_n 1, 1) := by decide +kernel
theorem d_N_moves_20 : decode b_N_moves 20 = .ok (.aaload, 1) := by decide +kernel
theorem d_N_moves_21 : decode b_N_moves 21 = .ok (.astore 4, 2) := by decide +kernel
theorem d_N_moves_23 : decode b_N_moves 23 = .ok (.aload_n 0, 1) := by decide +kernel
theorem d_N_moves_24 : decode b_N_moves 24 = .ok (.aload 4, 2) := by decide +kernel
theorem d_N_moves_26 : decode b_N_moves 26 = .ok (.aload_n 0, 1) := by decide +kernel
theorem d_N_moves_27 : decode b_N_moves 27 = .ok (.getfield 10, 3) := by decide +kernel
theorem d_N_moves_30 : decode b_N_moves 30 = .ok (.getfield 98, 3) := by decide +kernel
theorem d_N_moves_33 : decode b_N_moves 33 = .ok (.iload_n 2, 1) := by decide +kernel
theorem d_N_moves_34 : decode b_N_moves 34 = .ok (.aaload, 1) := by decide +kernel
theorem d_N_moves_35 : decode b_N_moves 35 = .ok (.invokevirtual 349, 3) := by decide +kernel
theorem d_N_moves_38 : decode b_N_moves 38 = .ok (.iload_n 3, 1) := by decide +kernel
theorem d_N_moves_39 : decode b_N_moves 39 = .ok (.ifCond .eq 8, 3) := by decide +kernel
theorem d_N_moves_42 : decode b_N_moves 42 = .ok (.iload_n 3, 1) := by decide +kernel
theorem d_N_moves_43 : decode b_N_moves 43 = .ok (.iconst 1, 1) := by decide +kernel
theorem d_N_moves_44 : decode b_N_moves 44 = .ok (.if_icmp .ne 19, 3) := by decide +kernel
theorem d_N_moves_47 : decode b_N_moves 47 = .ok (.aload_n 0, 1) := by decide +kernel
theorem d_N_moves_48 : decode b_N_moves 48 = .ok (.aload 4, 2) := by decide +kernel
theorem d_N_moves_50 : decode b_N_moves 50 = .ok (.iload_n 3, 1) := by decide +kernel
theorem d_N_moves_51 : decode b_N_moves 51 = .ok (.ifCond .ne 7, 3) := by decide +kernel
theorem d_N_moves_54 : decode b_N_moves 54 = .ok (.iconst 1, 1) := by decide +kernel
theorem d_N_moves_55 : decode b_N_moves 55 = .ok (.goto 4, 3) := by decide +kernel
theorem d_N_moves_58 : decode b_N_moves 58 = .ok (.iconst 0, 1) := by decide +kernel
theorem d_N_moves_59 : decode b_N_moves 59 = .ok (.invokevirtual 360, 3) := by decide +kernel
theorem d_N_moves_62 : decode b_N_moves 62 = .ok (.ireturn, 1) := by decide +kernel
theorem d_N_moves_63 : decode b_N_moves 63 = .ok (.iload_n 3, 1) := by decide +kernel
theorem d_N_moves_64 : decode b_N_moves 64 = .ok (.iconst 2, 1) := by decide +kernel
theorem d_N_moves_65 : decode b_N_moves 65 = .ok (.if_icmp .ne 10, 3) := by decide +kernel
theorem d_N_moves_68 : decode b_N_moves 68 = .ok (.aload_n 0, 1) := by decide +kernel
theorem d_N_moves_69 : decode b_N_moves 69 = .ok (.aload 4, 2) := by decide +kernel
theorem d_N_moves_71 : decode b_N_moves 71 = .ok (.invokevirtual 364, 3) := by decide +kernel
theorem d_N_moves_74 : decode b_N_moves 74 = .ok (.ireturn, 1) := by decide +kernel
theorem d_N_moves_75 : decode b_N_moves 75 = .ok (.iload_n 3, 1) := by decide +kernel
theorem d_N_moves_76 : decode b_N_moves 76 = .ok (.bipush 100, 2) := by decide +kernel
theorem d_N_moves_78 : decode b_N_moves 78 = .ok (.if_icmp .lt 16, 3) := by decide +kernel
theorem d_N_moves_81 : decode b_N_moves 81 = .ok (.aload_n 0, 1) := by decide +kernel
theorem d_N_moves_82 : decode b_N_moves 82 = .ok (.aload 4, 2) := by decide +kernel
theorem d_N_moves_84 : decode b_N_moves 84 = .ok (.iload_n 3, 1) := by decide +kernel
theorem d_N_moves_85 : decode b_N_moves 85 = .ok (.bipush 100, 2) := by decide +kernel
theorem d_N_moves_87 : decode b_N_moves 87 = .ok (.isub, 1) := by decide +kernel
theorem d_N_moves_88 : decode b_N_moves 88 = .ok (.invokevirtual 367, 3) := by decide +kernel
theorem d_N_moves_91 : decode b_N_moves 91 = .ok (.goto 5, 3) := by decide +kernel
theorem d_N_moves_94 : decode b_N_moves 94 = .ok (.bipush (-2), 2) := by decide +kernel
theorem d_N_moves_96 : decode b_N_moves 96 = .ok (.ireturn, 1) := by decide +kernel
theorem d_N_settled_0 : decode b_N_settled 0 = .ok (.aload_n 1, 1) := by decide +kernel
theorem d_N_settled_1 : decode b_N_settled 1 = .ok (.invokevirtual 353, 3) := by decide +kernel
theorem d_N_settled_4 : decode b_N_settled 4 = .ok (.istore_n 3, 1) := by decide +kernel
theorem d_N_settled_5 : decode b_N_settled 5 = .ok (.iconst 0, 1) := by decide +kernel
theorem d_N_settled_6 : decode b_N_settled 6 = .ok (.istore 4, 2) := by decide +kernel
theorem d_N_settled_8 : decode b_N_settled 8 = .ok (.iload 4, 2) := by decide +kernel
theorem d_N_settled_10 : decode b_N_settled 10 = .ok (.bipush 60, 2) := by decide +kernel
theorem d_N_settled_12 : decode b_N_settled 12 = .ok (.if_icmp .gt 37, 3) := by decide +kernel
theorem d_N_settled_15 : decode b_N_settled 15 = .ok (.aload_n 0, 1) := by decide +kernel
theorem d_N_settled_16 : decode b_N_settled 16 = .ok (.aload_n 1, 1) := by decide +kernel
theorem d_N_settled_17 : decode b_N_settled 17 = .ok (.iload_n 3, 1) := by decide +kernel
theorem d_N_settled_18 : decode b_N_settled 18 = .ok (.invokevirtual 379, 3) := by decide +kernel
theorem d_N_settled_21 : decode b_N_settled 21 = .ok (.istore 5, 2) := by decide +kernel
theorem d_N_settled_23 : decode b_N_settled 23 = .ok (.iload 5, 2) := by decide +kernel
theorem d_N_settled_25 : decode b_N_settled 25 = .ok (.iload_n 3, 1) := by decide +kernel
theorem d_N_settled_26 : decode b_N_settled 26 = .ok (.if_icmp .ne 14, 3) := by decide +kernel
theorem d_N_settled_29 : decode b_N_settled 29 = .ok (.iload_n 2, 1) := by decide +kernel
theorem d_N_settled_30 : decode b_N_settled 30 = .ok (.ifCond .eq 8, 3) := by decide +kernel
theorem d_N_settled_33 : decode b_N_settled 33 = .ok (.iload 4, 2) := by decide +kernel
theorem d_N_settled_35 : decode b_N_settled 35 = .ok (.goto 4, 3) := by decide +kernel
theorem d_N_settled_38 : decode b_N_settled 38 = .ok (.iload_n 3, 1) := by decide +kernel
theorem d_N_settled_39 : decode b_N_settled 39 = .ok (.ireturn, 1) := by decide +kernel
theorem d_N_settled_40 : decode b_N_settled 40 = .ok (.iload 5, 2) := by decide +kernel
theorem d_N_settled_42 : decode b_N_settled 42 = .ok (.istore_n 3, 1) := by decide +kernel
theorem d_N_settled_43 : decode b_N_settled 43 = .ok (.iinc 4 1, 3) := by decide +kernel
theorem d_N_settled_46 : decode b_N_settled 46 = .ok (.goto (-38), 3) := by decide +kernel
theorem d_N_settled_49 : decode b_N_settled 49 = .ok (.iconst (-1), 1) := by decide +kernel
theorem d_N_settled_50 : decode b_N_settled 50 = .ok (.ireturn, 1) := by decide +kernel
theorem d_N_afterRound_0 : decode b_N_afterRound 0 = .ok (.iload_n 2, 1) := by decide +kernel
theorem d_N_afterRound_1 : decode b_N_afterRound 1 = .ok (.istore_n 3, 1) := by decide +kernel
theorem d_N_afterRound_2 : decode b_N_afterRound 2 = .ok (.iconst 0, 1) := by decide +kernel
theorem d_N_afterRound_3 : decode b_N_afterRound 3 = .ok (.istore 4, 2) := by decide +kernel
theorem d_N_afterRound_5 : decode b_N_afterRound 5 = .ok (.iload 4, 2) := by decide +kernel
theorem d_N_afterRound_7 : decode b_N_afterRound 7 = .ok (.aload_n 1, 1) := by decide +kernel
theorem d_N_afterRound_8 : decode b_N_afterRound 8 = .ok (.getfield 171, 3) := by decide +kernel
theorem d_N_afterRound_11 : decode b_N_afterRound 11 = .ok (.if_icmp .ge 27, 3) := by decide +kernel
theorem d_N_afterRound_14 : decode b_N_afterRound 14 = .ok (.aload_n 0, 1) := by decide +kernel
theorem d_N_afterRound_15 : decode b_N_afterRound 15 = .ok (.aload_n 1, 1) := by decide +kernel
theorem d_N_afterRound_16 : decode b_N_afterRound 16 = .ok (.iload_n 3, 1) := by decide +kernel
theorem d_N_afterRound_17 : decode b_N_afterRound 17 = .ok (.iload 4, 2) := by decide +kernel
theorem d_N_afterRound_19 : decode b_N_afterRound 19 = .ok (.invokevirtual 382, 3) := by decide +kernel
theorem d_N_afterRound_22 : decode b_N_afterRound 22 = .ok (.ifCond .eq 10, 3) := by decide +kernel
theorem d_N_afterRound_25 : decode b_N_afterRound 25 = .ok (.iload_n 3, 1) := by decide +kernel
theorem d_N_afterRound_26 : decode b_N_afterRound 26 = .ok (.iconst 1, 1) := by decide +kernel
theorem d_N_afterRound_27 : decode b_N_afterRound 27 = .ok (.iload 4, 2) := by decide +kernel
theorem d_N_afterRound_29 : decode b_N_afterRound 29 = .ok (.ishl, 1) := by decide +kernel
theorem d_N_afterRound_30 : decode b_N_afterRound 30 = .ok (.ixor, 1) := by decide +kernel
theorem d_N_afterRound_31 : decode b_N_afterRound 31 = .ok (.istore_n 3, 1) := by decide +kernel
theorem d_N_afterRound_32 : decode b_N_afterRound 32 = .ok (.iinc 4 1, 3) := by decide +kernel
theorem d_N_afterRound_35 : decode b_N_afterRound 35 = .ok (.goto (-30), 3) := by decide +kernel
theorem d_N_afterRound_38 : decode b_N_afterRound 38 = .ok (.iload_n 3, 1) := by decide +kernel
theorem d_N_afterRound_39 : decode b_N_afterRound 39 = .ok (.ireturn, 1) := by decide +kernel
theorem d_N_wouldMove_0 : decode b_N_wouldMove 0 = .ok (.iload_n 2, 1) := by decide +kernel
theorem d_N_wouldMove_1 : decode b_N_wouldMove 1 = .ok (.iload_n 3, 1) := by decide +kernel
theorem d_N_wouldMove_2 : decode b_N_wouldMove 2 = .ok (.ishr, 1) := by decide +kernel
theorem d_N_wouldMove_3 : decode b_N_wouldMove 3 = .ok (.iconst 1, 1) := by decide +kernel
theorem d_N_wouldMove_4 : decode b_N_wouldMove 4 = .ok (.iand, 1) := by decide +kernel
theorem d_N_wouldMove_5 : decode b_N_wouldMove 5 = .ok (.istore 4, 2) := by decide +kernel
theorem d_N_wouldMove_7 : decode b_N_wouldMove 7 = .ok (.aload_n 0, 1) := by decide +kernel
theorem d_N_wouldMove_8 : decode b_N_wouldMove 8 = .ok (.aload_n 1, 1) := by decide +kernel
theorem d_N_wouldMove_9 : decode b_N_wouldMove 9 = .ok (.iload_n 2, 1) := by decide +kernel
theorem d_N_wouldMove_10 : decode b_N_wouldMove 10 = .ok (.iload_n 3, 1) := by decide +kernel
theorem d_N_wouldMove_11 : decode b_N_wouldMove 11 = .ok (.iconst 1, 1) := by decide +kernel
theorem d_N_wouldMove_12 : decode b_N_wouldMove 12 = .ok (.iload 4, 2) := by decide +kernel
theorem d_N_wouldMove_14 : decode b_N_wouldMove 14 = .ok (.isub, 1) := by decide +kernel
theorem d_N_wouldMove_15 : decode b_N_wouldMove 15 = .ok (.invokevirtual 356, 3) := by decide +kernel
theorem d_N_wouldMove_18 : decode b_N_wouldMove 18 = .ok (.aload_n 0, 1) := by decide +kernel
theorem d_N_wouldMove_19 : decode b_N_wouldMove 19 = .ok (.aload_n 1, 1) := by decide +kernel
theorem d_N_wouldMove_20 : decode b_N_wouldMove 20 = .ok (.iload_n 2, 1) := by decide +kernel
theorem d_N_wouldMove_21 : decode b_N_wouldMove 21 = .ok (.iload_n 3, 1) := by decide +kernel
theorem d_N_wouldMove_22 : decode b_N_wouldMove 22 = .ok (.iload 4, 2) := by decide +kernel
theorem d_N_wouldMove_24 : decode b_N_wouldMove 24 = .ok (.invokevirtual 356, 3) := by decide +kernel
theorem d_N_wouldMove_27 : decode b_N_wouldMove 27 = .ok (.if_icmp .le 7, 3) := by decide +kernel
theorem d_N_wouldMove_30 : decode b_N_wouldMove 30 = .ok (.iconst 1, 1) := by decide +kernel
theorem d_N_wouldMove_31 : decode b_N_wouldMove 31 = .ok (.goto 4, 3) := by decide +kernel
theorem d_N_wouldMove_34 : decode b_N_wouldMove 34 = .ok (.iconst 0, 1) := by decide +kernel
theorem d_N_wouldMove_35 : decode b_N_wouldMove 35 = .ok (.ireturn, 1) := by decide +kernel
theorem d_N_countRests_0 : decode b_N_countRests 0 = .ok (.iconst 0, 1) := by decide +kernel
theorem d_N_countRests_1 : decode b_N_countRests 1 = .ok (.istore_n 2, 1) := by decide +kernel
theorem d_N_countRests_2 : decode b_N_countRests 2 = .ok (.iconst 0, 1) := by decide +kernel
theorem d_N_countRests_3 : decode b_N_countRests 3 = .ok (.istore_n 3, 1) := by decide +kernel
theorem d_N_countRests_4 : decode b_N_countRests 4 = .ok (.iload_n 3, 1) := by decide +kernel
theorem d_N_countRests_5 : decode b_N_countRests 5 = .ok (.aload_n 1, 1) := by decide +kernel
theorem d_N_countRests_6 : decode b_N_countRests 6 = .ok (.invokevirtual 251, 3) := by decide +kernel
theorem d_N_countRests_9 : decode b_N_countRests 9 = .ok (.if_icmp .gt 21, 3) := by decide +kernel
theorem d_N_countRests_12 : decode b_N_countRests 12 = .ok (.iload_n 2, 1) := by decide +kernel
theorem d_N_countRests_13 : decode b_N_countRests 13 = .ok (.aload_n 0, 1) := by decide +kernel
theorem d_N_countRests_14 : decode b_N_countRests 14 = .ok (.aload_n 1, 1) := by decide +kernel
theorem d_N_countRests_15 : decode b_N_countRests 15 = .ok (.iload_n 3, 1) := by decide +kernel
theorem d_N_countRests_16 : decode b_N_countRests 16 = .ok (.invokevirtual 386, 3) := by decide +kernel
theorem d_N_countRests_19 : decode b_N_countRests 19 = .ok (.invokestatic 219, 3) := by decide +kernel
theorem d_N_countRests_22 : decode b_N_countRests 22 = .ok (.iadd, 1) := by decide +kernel
theorem d_N_countRests_23 : decode b_N_countRests 23 = .ok (.istore_n 2, 1) := by decide +kernel
theorem d_N_countRests_24 : decode b_N_countRests 24 = .ok (.iinc 3 1, 3) := by decide +kernel
theorem d_N_countRests_27 : decode b_N_countRests 27 = .ok (.goto (-23), 3) := by decide +kernel
theorem d_N_countRests_30 : decode b_N_countRests 30 = .ok (.iload_n 2, 1) := by decide +kernel
theorem d_N_countRests_31 : decode b_N_countRests 31 = .ok (.ireturn, 1) := by decide +kernel
theorem d_N_isRest_0 : decode b_N_isRest 0 = .ok (.iconst 0, 1) := by decide +kernel
theorem d_N_isRest_1 : decode b_N_isRest 1 = .ok (.istore_n 3, 1) := by decide +kernel
theorem d_N_isRest_2 : decode b_N_isRest 2 = .ok (.iload_n 3, 1) := by decide +kernel
theorem d_N_isRest_3 : decode b_N_isRest 3 = .ok (.aload_n 1, 1) := by decide +kernel
theorem d_N_isRest_4 : decode b_N_isRest 4 = .ok (.getfield 171, 3) := by decide +kernel
theorem d_N_isRest_7 : decode b_N_isRest 7 = .ok (.if_icmp .ge 21, 3) := by decide +kernel
theorem d_N_isRest_10 : decode b_N_isRest 10 = .ok (.aload_n 0, 1) := by decide +kernel
theorem d_N_isRest_11 : decode b_N_isRest 11 = .ok (.aload_n 1, 1) := by decide +kernel
theorem d_N_isRest_12 : decode b_N_isRest 12 = .ok (.iload_n 2, 1) := by decide +kernel
theorem d_N_isRest_13 : decode b_N_isRest 13 = .ok (.iload_n 3, 1) := by decide +kernel
theorem d_N_isRest_14 : decode b_N_isRest 14 = .ok (.invokevirtual 382, 3) := by decide +kernel
theorem d_N_isRest_17 : decode b_N_isRest 17 = .ok (.ifCond .eq 5, 3) := by decide +kernel
theorem d_N_isRest_20 : decode b_N_isRest 20 = .ok (.iconst 0, 1) := by decide +kernel
theorem d_N_isRest_21 : decode b_N_isRest 21 = .ok (.ireturn, 1) := by decide +kernel
theorem d_N_isRest_22 : decode b_N_isRest 22 = .ok (.iinc 3 1, 3) := by decide +kernel
theorem d_N_isRest_25 : decode b_N_isRest 25 = .ok (.goto (-23), 3) := by decide +kernel
theorem d_N_isRest_28 : decode b_N_isRest 28 = .ok (.iconst 1, 1) := by decide +kernel
theorem d_N_isRest_29 : decode b_N_isRest 29 = .ok (.ireturn, 1) := by decide +kernel
theorem d_N_restNumber_0 : decode b_N_restNumber 0 = .ok (.iload_n 2, 1) := by decide +kernel
theorem d_N_restNumber_1 : decode b_N_restNumber 1 = .ok (.istore_n 3, 1) := by decide +kernel
theorem d_N_restNumber_2 : decode b_N_restNumber 2 = .ok (.iconst 0, 1) := by decide +kernel
theorem d_N_restNumber_3 : decode b_N_restNumber 3 = .ok (.istore 4, 2) := by decide +kernel
theorem d_N_restNumber_5 : decode b_N_restNumber 5 = .ok (.iload 4, 2) := by decide +kernel
theorem d_N_restNumber_7 : decode b_N_restNumber 7 = .ok (.aload_n 1, 1) := by decide +kernel
theorem d_N_restNumber_8 : decode b_N_restNumber 8 = .ok (.invokevirtual 251, 3) := by decide +kernel
theorem d_N_restNumber_11 : decode b_N_restNumber 11 = .ok (.if_icmp .gt 29, 3) := by decide +kernel
theorem d_N_restNumber_14 : decode b_N_restNumber 14 = .ok (.aload_n 0, 1) := by decide +kernel
theorem d_N_restNumber_15 : decode b_N_restNumber 15 = .ok (.aload_n 1, 1) := by decide +kernel
theorem d_N_restNumber_16 : decode b_N_restNumber 16 = .ok (.iload 4, 2) := by decide +kernel
theorem d_N_restNumber_18 : decode b_N_restNumber 18 = .ok (.invokevirtual 386, 3) := by decide +kernel
theorem d_N_restNumber_21 : decode b_N_restNumber 21 = .ok (.ifCond .eq 13, 3) := by decide +kernel
theorem d_N_restNumber_24 : decode b_N_restNumber 24 = .ok (.iload_n 3, 1) := by decide +kernel
theorem d_N_restNumber_25 : decode b_N_restNumber 25 = .ok (.ifCond .ne 6, 3) := by decide +kernel
theorem d_N_restNumber_28 : decode b_N_restNumber 28 = .ok (.iload 4, 2) := by decide +kernel
theorem d_N_restNumber_30 : decode b_N_restNumber 30 = .ok (.ireturn, 1) := by decide +kernel
theorem d_N_restNumber_31 : decode b_N_restNumber 31 = .ok (.iinc 3 (-1), 3) := by decide +kernel
theorem d_N_restNumber_34 : decode b_N_restNumber 34 = .ok (.iinc 4 1, 3) := by decide +kernel
theorem d_N_restNumber_37 : decode b_N_restNumber 37 = .ok (.goto (-32), 3) := by decide +kernel
theorem d_N_restNumber_40 : decode b_N_restNumber 40 = .ok (.iconst (-1), 1) := by decide +kernel
theorem d_N_restNumber_41 : decode b_N_restNumber 41 = .ok (.ireturn, 1) := by decide +kernel
theorem d_N_teams_0 : decode b_N_teams 0 = .ok (.aload_n 0, 1) := by decide +kernel
theorem d_N_teams_1 : decode b_N_teams 1 = .ok (.iconst 0, 1) := by decide +kernel
theorem d_N_teams_2 : decode b_N_teams 2 = .ok (.iload_n 1, 1) := by decide +kernel
theorem d_N_teams_3 : decode b_N_teams 3 = .ok (.invokevirtual 143, 3) := by decide +kernel
theorem d_N_teams_6 : decode b_N_teams 6 = .ok (.ifCond .eq 33, 3) := by decide +kernel
theorem d_N_teams_9 : decode b_N_teams 9 = .ok (.iload_n 2, 1) := by decide +kernel
theorem d_N_teams_10 : decode b_N_teams 10 = .ok (.iconst 1, 1) := by decide +kernel
theorem d_N_teams_11 : decode b_N_teams 11 = .ok (.if_icmp .lt 28, 3) := by decide +kernel
theorem d_N_teams_14 : decode b_N_teams 14 = .ok (.iload_n 2, 1) := by decide +kernel
theorem d_N_teams_15 : decode b_N_teams 15 = .ok (.aload_n 0, 1) := by decide +kernel
theorem d_N_teams_16 : decode b_N_teams 16 = .ok (.getfield 10, 3) := by decide +kernel
theorem d_N_teams_19 : decode b_N_teams 19 = .ok (.getfield 81, 3) := by decide +kernel
theorem d_N_teams_22 : decode b_N_teams 22 = .ok (.iload_n 1, 1) := by decide +kernel
theorem d_N_teams_23 : decode b_N_teams 23 = .ok (.aaload, 1) := by decide +kernel
theorem d_N_teams_24 : decode b_N_teams 24 = .ok (.getfield 153, 3) := by decide +kernel
theorem d_N_teams_27 : decode b_N_teams 27 = .ok (.if_icmp .gt 12, 3) := by decide +kernel
theorem d_N_teams_30 : decode b_N_teams 30 = .ok (.iload_n 3, 1) := by decide +kernel
theorem d_N_teams_31 : decode b_N_teams 31 = .ok (.ifCond .lt 8, 3) := by decide +kernel
theorem d_N_teams_34 : decode b_N_teams 34 = .ok (.iload_n 3, 1) := by decide +kernel
theorem d_N_teams_35 : decode b_N_teams 35 = .ok (.iconst 2, 1) := by decide +kernel
theorem d_N_teams_36 : decode b_N_teams 36 = .ok (.if_icmp .le 5, 3) := by decide +kernel
theorem d_N_teams_39 : decode b_N_teams 39 = .ok (.iconst (-1), 1) := by decide +kernel
theorem d_N_teams_40 : decode b_N_teams 40 = .ok (.ireturn, 1) := by decide +kernel
theorem d_N_teams_41 : decode b_N_teams 41 = .ok (.aload_n 0, 1) := by decide +kernel
theorem d_N_teams_42 : decode b_N_teams 42 = .ok (.getfield 10, 3) := by decide +kernel
theorem d_N_teams_45 : decode b_N_teams 45 = .ok (.getfield 81, 3) := by decide +kernel
theorem d_N_teams_48 : decode b_N_teams 48 = .ok (.iload_n 1, 1) := by decide +kernel
theorem d_N_teams_49 : decode b_N_teams 49 = .ok (.aaload, 1) := by decide +kernel
theorem d_N_teams_50 : decode b_N_teams 50 = .ok (.astore 4, 2) := by decide +kernel
theorem d_N_teams_52 : decode b_N_teams 52 = .ok (.iconst 1, 1) := by decide +kernel
theorem d_N_teams_53 : decode b_N_teams 53 = .ok (.istore 5, 2) := by decide +kernel
theorem d_N_teams_55 : decode b_N_teams 55 = .ok (.bipush 10, 2) := by decide +kernel
theorem d_N_teams_57 : decode b_N_teams 57 = .ok (.istore 6, 2) := by decide +kernel
theorem d_N_teams_59 : decode b_N_teams 59 = .ok (.iconst 1, 1) := by decide +kernel
theorem d_N_teams_60 : decode b_N_teams 60 = .ok (.istore 7, 2) := by decide +kernel
theorem d_N_teams_62 : decode b_N_teams 62 = .ok (.iload 7, 2) := by decide +kernel
theorem d_N_teams_64 : decode b_N_teams 64 = .ok (.aload 4, 2) := by decide +kernel
theorem d_N_teams_66 : decode b_N_teams 66 = .ok (.getfield 153, 3) := by decide +kernel
theorem d_N_teams_69 : decode b_N_teams 69 = .ok (.if_icmp .ge 22, 3) := by decide +kernel
theorem d_N_teams_72 : decode b_N_teams 72 = .ok (.iload 5, 2) := by decide +kernel
theorem d_N_teams_74 : decode b_N_teams 74 = .ok (.iload_n 2, 1) := by decide +kernel
theorem d_N_teams_75 : decode b_N_teams 75 = .ok (.imul, 1) := by decide +kernel
theorem d_N_teams_76 : decode b_N_teams 76 = .ok (.istore 5, 2) := by decide +kernel
theorem d_N_teams_78 : decode b_N_teams 78 = .ok (.iload 6, 2) := by decide +kernel
theorem d_N_teams_80 : decode b_N_teams 80 = .ok (.bipush 10, 2) := by decide +kernel
theorem d_N_teams_82 : decode b_N_teams 82 = .ok (.imul, 1) := by decide +kernel
theorem d_N_teams_83 : decode b_N_teams 83 = .ok (.istore 6, 2) := by decide +kernel
theorem d_N_teams_85 : decode b_N_teams 85 = .ok (.iinc 7 1, 3) := by decide +kernel
theorem d_N_teams_88 : decode b_N_teams 88 = .ok (.goto (-26), 3) := by decide +kernel
theorem d_N_teams_91 : decode b_N_teams 91 = .ok (.iconst 0, 1) := by decide +kernel
theorem d_N_teams_92 : decode b_N_teams 92 = .ok (.istore 7, 2) := by decide +kernel
theorem d_N_teams_94 : decode b_N_teams 94 = .ok (.iconst (-1), 1) := by decide +kernel
theorem d_N_teams_95 : decode b_N_teams 95 = .ok (.istore 8, 2) := by decide +kernel
theorem d_N_teams_97 : decode b_N_teams 97 = .ok (.iconst 0, 1) := by decide +kernel
theorem d_N_teams_98 : decode b_N_teams 98 = .ok (.istore 9, 2) := by decide +kernel
theorem d_N_teams_100 : decode b_N_teams 100 = .ok (.iload 9, 2) := by decide +kernel
theorem d_N_teams_102 : decode b_N_teams 102 = .ok (.iload 5, 2) := by decide +kernel
theorem d_N_teams_104 : decode b_N_teams 104 = .ok (.if_icmp .ge 35, 3) := by decide +kernel
theorem d_N_teams_107 : decode b_N_teams 107 = .ok (.aload_n 0, 1) := by decide +kernel
theorem d_N_teams_108 : decode b_N_teams 108 = .ok (.aload 4, 2) := by decide +kernel
theorem d_N_teams_110 : decode b_N_teams 110 = .ok (.iload_n 2, 1) := by decide +kernel
theorem d_N_teams_111 : decode b_N_teams 111 = .ok (.iload 9, 2) := by decide +kernel
theorem d_N_teams_113 : decode b_N_teams 113 = .ok (.invokevirtual 390, 3) := by decide +kernel
theorem d_N_teams_116 : decode b_N_teams 116 = .ok (.istore 10, 2) := by decide +kernel
theorem d_N_teams_118 : decode b_N_teams 118 = .ok (.iload 10, 2) := by decide +kernel
theorem d_N_teams_120 : decode b_N_teams 120 = .ok (.iload 8, 2) := by decide +kernel
theorem d_N_teams_122 : decode b_N_teams 122 = .ok (.if_icmp .le 11, 3) := by decide +kernel
theorem d_N_teams_125 : decode b_N_teams 125 = .ok (.iload 10, 2) := by decide +kernel
theorem d_N_teams_127 : decode b_N_teams 127 = .ok (.istore 8, 2) := by decide +kernel
theorem d_N_teams_129 : decode b_N_teams 129 = .ok (.iload 9, 2) := by decide +kernel
theorem d_N_teams_131 : decode b_N_teams 131 = .ok (.istore 7, 2) := by decide +kernel
theorem d_N_teams_133 : decode b_N_teams 133 = .ok (.iinc 9 1, 3) := by decide +kernel
theorem d_N_teams_136 : decode b_N_teams 136 = .ok (.goto (-36), 3) := by decide +kernel
theorem d_N_teams_139 : decode b_N_teams 139 = .ok (.iload 6, 2) := by decide +kernel
theorem d_N_teams_141 : decode b_N_teams 141 = .ok (.iload 8, 2) := by decide +kernel
theorem d_N_teams_143 : decode b_N_teams 143 = .ok (.invokestatic 393, 3) := by decide +kernel
theorem d_N_teams_146 : decode b_N_teams 146 = .ok (.istore 9, 2) := by decide +kernel
theorem d_N_teams_148 : decode b_N_teams 148 = .ok (.iload_n 3, 1) := by decide +kernel
theorem d_N_teams_149 : decode b_N_teams 149 = .ok (.iconst 2, 1) := by decide +kernel
theorem d_N_teams_150 : decode b_N_teams 150 = .ok (.if_icmp .ne 15, 3) := by decide +kernel
theorem d_N_teams_153 : decode b_N_teams 153 = .ok (.iload 7, 2) := by decide +kernel
theorem d_N_teams_155 : decode b_N_teams 155 = .ok (.iload_n 2, 1) := by decide +kernel
theorem d_N_teams_156 : decode b_N_teams 156 = .ok (.aload 4, 2) := by decide +kernel
theorem d_N_teams_158 : decode b_N_teams 158 = .ok (.getfield 153, 3) := by decide +kernel
theorem d_N_teams_161 : decode b_N_teams 161 = .ok (.invokestatic 396, 3) := by decide +kernel
theorem d_N_teams_164 : decode b_N_teams 164 = .ok (.ireturn, 1) := by decide +kernel
theorem d_N_teams_165 : decode b_N_teams 165 = .ok (.iload_n 3, 1) := by decide +kernel
theorem d_N_teams_166 : decode b_N_teams 166 = .ok (.ifCond .ne 8, 3) := by decide +kernel
theorem d_N_teams_169 : decode b_N_teams 169 = .ok (.iload 8, 2) := by decide +kernel
theorem d_N_teams_171 : decode b_N_teams 171 = .ok (.goto 5, 3) := by decide +kernel
theorem d_N_teams_174 : decode b_N_teams 174 = .ok (.iload 6, 2) := by decide +kernel
theorem d_N_teams_176 : decode b_N_teams 176 = .ok (.iload 9, 2) := by decide +kernel
theorem d_N_teams_178 : decode b_N_teams 178 = .ok (.idiv, 1) := by decide +kernel
theorem d_N_teams_179 : decode b_N_teams 179 = .ok (.ireturn, 1) := by decide +kernel
theorem d_N_chanceOf_0 : decode b_N_chanceOf 0 = .ok (.aload_n 0, 1) := by decide +kernel
theorem d_N_chanceOf_1 : decode b_N_chanceOf 1 = .ok (.getfield 41, 3) := by decide +kernel
theorem d_N_chanceOf_4 : decode b_N_chanceOf 4 = .ok (.iconst 1, 1) := by decide +kernel
theorem d_N_chanceOf_5 : decode b_N_chanceOf 5 = .ok (.invokestatic 399, 3) := by decide +kernel
theorem d_N_chanceOf_8 : decode b_N_chanceOf 8 = .ok (.aload_n 0, 1) := by decide +kernel
theorem d_N_chanceOf_9 : decode b_N_chanceOf 9 = .ok (.getfield 44, 3) := by decide +kernel
theorem d_N_chanceOf_12 : decode b_N_chanceOf 12 = .ok (.iconst 1, 1) := by decide +kernel
theorem d_N_chanceOf_13 : decode b_N_chanceOf 13 = .ok (.invokestatic 399, 3) := by decide +kernel
theorem d_N_chanceOf_16 : decode b_N_chanceOf 16 = .ok (.iload_n 3, 1) := by decide +kernel
theorem d_N_chanceOf_17 : decode b_N_chanceOf 17 = .ok (.istore 4, 2) := by decide +kernel
theorem d_N_chanceOf_19 : decode b_N_chanceOf 19 = .ok (.aload_n 1, 1) := by decide +kernel
theorem d_N_chanceOf_20 : decode b_N_chanceOf 20 = .ok (.getfield 153, 3) := by decide +kernel
theorem d_N_chanceOf_23 : decode b_N_chanceOf 23 = .ok (.iconst 1, 1) := by decide +kernel
theorem d_N_chanceOf_24 : decode b_N_chanceOf 24 = .ok (.isub, 1) := by decide +kernel
theorem d_N_chanceOf_25 : decode b_N_chanceOf 25 = .ok (.istore 5, 2) := by decide +kernel
theorem d_N_chanceOf_27 : decode b_N_chanceOf 27 = .ok (.iload 5, 2) := by decide +kernel
theorem d_N_chanceOf_29 : decode b_N_chanceOf 29 = .ok (.ifCond .lt 66, 3) := by decide +kernel
theorem d_N_chanceOf_32 : decode b_N_chanceOf 32 = .ok (.iload_n 2, 1) := by decide +kernel
theorem d_N_chanceOf_33 : decode b_N_chanceOf 33 = .ok (.ifCond .le 10, 3) := by decide +kernel
theorem d_N_chanceOf_36 : decode b_N_chanceOf 36 = .ok (.iload 4, 2) := by decide +kernel
theorem d_N_chanceOf_38 : decode b_N_chanceOf 38 = .ok (.iload_n 2, 1) := by decide +kernel
theorem d_N_chanceOf_39 : decode b_N_chanceOf 39 = .ok (.irem, 1) := by decide +kernel
theorem d_N_chanceOf_40 : decode b_N_chanceOf 40 = .ok (.goto 4, 3) := by decide +kernel
theorem d_N_chanceOf_43 : decode b_N_chanceOf 43 = .ok (.iconst 0, 1) := by decide +kernel
theorem d_N_chanceOf_44 : decode b_N_chanceOf 44 = .ok (.istore 6, 2) := by decide +kernel
theorem d_N_chanceOf_46 : decode b_N_chanceOf 46 = .ok (.iload_n 2, 1) := by decide +kernel
theorem d_N_chanceOf_47 : decode b_N_chanceOf 47 = .ok (.ifCond .le 10, 3) := by decide +kernel
theorem d_N_chanceOf_50 : decode b_N_chanceOf 50 = .ok (.iload 4, 2) := by decide +kernel
theorem d_N_chanceOf_52 : decode b_N_chanceOf 52 = .ok (.iload_n 2, 1) := by decide +kernel
theorem d_N_chanceOf_53 : decode b_N_chanceOf 53 = .ok (.idiv, 1) := by decide +kernel
theorem d_N_chanceOf_54 : decode b_N_chanceOf 54 = .ok (.goto 4, 3) := by decide +kernel
theorem d_N_chanceOf_57 : decode b_N_chanceOf 57 = .ok (.iconst 0, 1) := by decide +kernel
theorem d_N_chanceOf_58 : decode b_N_chanceOf 58 = .ok (.istore 4, 2) := by decide +kernel
theorem d_N_chanceOf_60 : decode b_N_chanceOf 60 = .ok (.aload_n 0, 1) := by decide +kernel
theorem d_N_chanceOf_61 : decode b_N_chanceOf 61 = .ok (.getfield 41, 3) := by decide +kernel
theorem d_N_chanceOf_64 : decode b_N_chanceOf 64 = .ok (.iload 6, 2) := by decide +kernel
theorem d_N_chanceOf_66 : decode b_N_chanceOf 66 = .ok (.dup2, 1) := by decide +kernel
theorem d_N_chanceOf_67 : decode b_N_chanceOf 67 = .ok (.iaload, 1) := by decide +kernel
theorem d_N_chanceOf_68 : decode b_N_chanceOf 68 = .ok (.aload_n 1, 1) := by decide +kernel
theorem d_N_chanceOf_69 : decode b_N_chanceOf 69 = .ok (.getfield 159, 3) := by decide +kernel
theorem d_N_chanceOf_72 : decode b_N_chanceOf 72 = .ok (.iload 5, 2) := by decide +kernel
theorem d_N_chanceOf_74 : decode b_N_chanceOf 74 = .ok (.iaload, 1) := by decide +kernel
theorem d_N_chanceOf_75 : decode b_N_chanceOf 75 = .ok (.imul, 1) := by decide +kernel
theorem d_N_chanceOf_76 : decode b_N_chanceOf 76 = .ok (.iastore, 1) := by decide +kernel
theorem d_N_chanceOf_77 : decode b_N_chanceOf 77 = .ok (.aload_n 0, 1) := by decide +kernel
theorem d_N_chanceOf_78 : decode b_N_chanceOf 78 = .ok (.getfield 44, 3) := by decide +kernel
theorem d_N_chanceOf_81 : decode b_N_chanceOf 81 = .ok (.iload 6, 2) := by decide +kernel
theorem d_N_chanceOf_83 : decode b_N_chanceOf 83 = .ok (.dup2, 1) := by decide +kernel
theorem d_N_chanceOf_84 : decode b_N_chanceOf 84 = .ok (.iaload, 1) := by decide +kernel
theorem d_N_chanceOf_85 : decode b_N_chanceOf 85 = .ok (.bipush 10, 2) := by decide +kernel
theorem d_N_chanceOf_87 : decode b_N_chanceOf 87 = .ok (.imul, 1) := by decide +kernel
theorem d_N_chanceOf_88 : decode b_N_chanceOf 88 = .ok (.iastore, 1) := by decide +kernel
theorem d_N_chanceOf_89 : decode b_N_chanceOf 89 = .ok (.iinc 5 (-1), 3) := by decide +kernel
theorem d_N_chanceOf_92 : decode b_N_chanceOf 92 = .ok (.goto (-65), 3) := by decide +kernel
theorem d_N_chanceOf_95 : decode b_N_chanceOf 95 = .ok (.iconst 1, 1) := by decide +kernel
theorem d_N_chanceOf_96 : decode b_N_chanceOf 96 = .ok (.istore 5, 2) := by decide +kernel
theorem d_N_chanceOf_98 : decode b_N_chanceOf 98 = .ok (.iconst 0, 1) := by decide +kernel
theorem d_N_chanceOf_99 : decode b_N_chanceOf 99 = .ok (.istore 6, 2) := by decide +kernel
theorem d_N_chanceOf_101 : decode b_N_chanceOf 101 = .ok (.iload 6, 2) := by decide +kernel
theorem d_N_chanceOf_103 : decode b_N_chanceOf 103 = .ok (.iload_n 2, 1) := by decide +kernel
theorem d_N_chanceOf_104 : decode b_N_chanceOf 104 = .ok (.if_icmp .ge 42, 3) := by decide +kernel
theorem d_N_chanceOf_107 : decode b_N_chanceOf 107 = .ok (.aload_n 0, 1) := by decide +kernel
theorem d_N_chanceOf_108 : decode b_N_chanceOf 108 = .ok (.getfield 44, 3) := by decide +kernel
theorem d_N_chanceOf_111 : decode b_N_chanceOf 111 = .ok (.iload 6, 2) := by decide +kernel
theorem d_N_chanceOf_113 : decode b_N_chanceOf 113 = .ok (.iaload, 1) := by decide +kernel
theorem d_N_chanceOf_114 : decode b_N_chanceOf 114 = .ok (.iconst 1, 1) := by decide +kernel
theorem d_N_chanceOf_115 : decode b_N_chanceOf 115 = .ok (.if_icmp .ne 5, 3) := by decide +kernel
theorem d_N_chanceOf_118 : decode b_N_chanceOf 118 = .ok (.iconst (-1), 1) := by decide +kernel
theorem d_N_chanceOf_119 : decode b_N_chanceOf 119 = .ok (.ireturn, 1) := by decide +kernel
theorem d_N_chanceOf_120 : decode b_N_chanceOf 120 = .ok (.iload 5, 2) := by decide +kernel
theorem d_N_chanceOf_122 : decode b_N_chanceOf 122 = .ok (.aload_n 0, 1) := by decide +kernel
theorem d_N_chanceOf_123 : decode b_N_chanceOf 123 = .ok (.getfield 44, 3) := by decide +kernel
theorem d_N_chanceOf_126 : decode b_N_chanceOf 126 = .ok (.iload 6, 2) := by decide +kernel
theorem d_N_chanceOf_128 : decode b_N_chanceOf 128 = .ok (.iaload, 1) := by decide +kernel
theorem d_N_chanceOf_129 : decode b_N_chanceOf 129 = .ok (.aload_n 0, 1) := by decide +kernel
theorem d_N_chanceOf_130 : decode b_N_chanceOf 130 = .ok (.getfield 41, 3) := by decide +kernel
theorem d_N_chanceOf_133 : decode b_N_chanceOf 133 = .ok (.iload 6, 2) := by decide +kernel
theorem d_N_chanceOf_135 : decode b_N_chanceOf 135 = .ok (.iaload, 1) := by decide +kernel
theorem d_N_chanceOf_136 : decode b_N_chanceOf 136 = .ok (.isub, 1) := by decide +kernel
theorem d_N_chanceOf_137 : decode b_N_chanceOf 137 = .ok (.imul, 1) := by decide +kernel
theorem d_N_chanceOf_138 : decode b_N_chanceOf 138 = .ok (.istore 5, 2) := by decide +kernel
theorem d_N_chanceOf_140 : decode b_N_chanceOf 140 = .ok (.iinc 6 1, 3) := by decide +kernel
theorem d_N_chanceOf_143 : decode b_N_chanceOf 143 = .ok (.goto (-42), 3) := by decide +kernel
theorem d_N_chanceOf_146 : decode b_N_chanceOf 146 = .ok (.iload 5, 2) := by decide +kernel
theorem d_N_chanceOf_148 : decode b_N_chanceOf 148 = .ok (.ireturn, 1) := by decide +kernel
theorem d_N_commonDivisor_0 : decode b_N_commonDivisor 0 = .ok (.iload_n 0, 1) := by decide +kernel
theorem d_N_commonDivisor_1 : decode b_N_commonDivisor 1 = .ok (.istore_n 2, 1) := by decide +kernel
theorem d_N_commonDivisor_2 : decode b_N_commonDivisor 2 = .ok (.iload_n 1, 1) := by decide +kernel
theorem d_N_commonDivisor_3 : decode b_N_commonDivisor 3 = .ok (.istore_n 3, 1) := by decide +kernel
theorem d_N_commonDivisor_4 : decode b_N_commonDivisor 4 = .ok (.iconst 0, 1) := by decide +kernel
theorem d_N_commonDivisor_5 : decode b_N_commonDivisor 5 = .ok (.istore 4, 2) := by decide +kernel
theorem d_N_commonDivisor_7 : decode b_N_commonDivisor 7 = .ok (.iload 4, 2) := by decide +kernel
theorem d_N_commonDivisor_9 : decode b_N_commonDivisor 9 = .ok (.bipush 64, 2) := by decide +kernel
theorem d_N_commonDivisor_11 : decode b_N_commonDivisor 11 = .ok (.if_icmp .ge 23, 3) := by decide +kernel
theorem d_N_commonDivisor_14 : decode b_N_commonDivisor 14 = .ok (.iload_n 3, 1) := by decide +kernel
theorem d_N_commonDivisor_15 : decode b_N_commonDivisor 15 = .ok (.ifCond .le 19, 3) := by decide +kernel
theorem d_N_commonDivisor_18 : decode b_N_commonDivisor 18 = .ok (.iload_n 2, 1) := by decide +kernel
theorem d_N_commonDivisor_19 : decode b_N_commonDivisor 19 = .ok (.iload_n 3, 1) := by decide +kernel
theorem d_N_commonDivisor_20 : decode b_N_commonDivisor 20 = .ok (.irem, 1) := by decide +kernel
theorem d_N_commonDivisor_21 : decode b_N_commonDivisor 21 = .ok (.istore 5, 2) := by decide +kernel
theorem d_N_commonDivisor_23 : decode b_N_commonDivisor 23 = .ok (.iload_n 3, 1) := by decide +kernel
theorem d_N_commonDivisor_24 : decode b_N_commonDivisor 24 = .ok (.istore_n 2, 1) := by decide +kernel
theorem d_N_commonDivisor_25 : decode b_N_commonDivisor 25 = .ok (.iload 5, 2) := by decide +kernel
theorem d_N_commonDivisor_27 : decode b_N_commonDivisor 27 = .ok (.istore_n 3, 1) := by decide +kernel
theorem d_N_commonDivisor_28 : decode b_N_commonDivisor 28 = .ok (.iinc 4 1, 3) := by decide +kernel
theorem d_N_commonDivisor_31 : decode b_N_commonDivisor 31 = .ok (.goto (-24), 3) := by decide +kernel
theorem d_N_commonDivisor_34 : decode b_N_commonDivisor 34 = .ok (.iconst 1, 1) := by decide +kernel
theorem d_N_commonDivisor_35 : decode b_N_commonDivisor 35 = .ok (.iload_n 2, 1) := by decide +kernel
theorem d_N_commonDivisor_36 : decode b_N_commonDivisor 36 = .ok (.invokestatic 293, 3) := by decide +kernel
theorem d_N_commonDivisor_39 : decode b_N_commonDivisor 39 = .ok (.ireturn, 1) := by decide +kernel
theorem d_N_inBaseEight_0 : decode b_N_inBaseEight 0 = .ok (.iconst 0, 1) := by decide +kernel
theorem d_N_inBaseEight_1 : decode b_N_inBaseEight 1 = .ok (.istore_n 3, 1) := by decide +kernel
theorem d_N_inBaseEight_2 : decode b_N_inBaseEight 2 = .ok (.iload_n 0, 1) := by decide +kernel
theorem d_N_inBaseEight_3 : decode b_N_inBaseEight 3 = .ok (.istore 4, 2) := by decide +kernel
theorem d_N_inBaseEight_5 : decode b_N_inBaseEight 5 = .ok (.iconst 0, 1) := by decide +kernel
theorem d_N_inBaseEight_6 : decode b_N_inBaseEight 6 = .ok (.istore 5, 2) := by decide +kernel
theorem d_N_inBaseEight_8 : decode b_N_inBaseEight 8 = .ok (.iload 5, 2) := by decide +kernel
theorem d_N_inBaseEight_10 : decode b_N_inBaseEight 10 = .ok (.iload_n 2, 1) := by decide +kernel
theorem d_N_inBaseEight_11 : decode b_N_inBaseEight 11 = .ok (.if_icmp .ge 43, 3) := by decide +kernel
theorem d_N_inBaseEight_14 : decode b_N_inBaseEight 14 = .ok (.iload_n 3, 1) := by decide +kernel
theorem d_N_inBaseEight_15 : decode b_N_inBaseEight 15 = .ok (.iload_n 1, 1) := by decide +kernel
theorem d_N_inBaseEight_16 : decode b_N_inBaseEight 16 = .ok (.ifCond .le 10, 3) := by decide +kernel
theorem d_N_inBaseEight_19 : decode b_N_inBaseEight 19 = .ok (.iload 4, 2) := by decide +kernel
theorem d_N_inBaseEight_21 : decode b_N_inBaseEight 21 = .ok (.iload_n 1, 1) := by decide +kernel
theorem d_N_inBaseEight_22 : decode b_N_inBaseEight 22 = .ok (.irem, 1) := by decide +kernel
theorem d_N_inBaseEight_23 : decode b_N_inBaseEight 23 = .ok (.goto 4, 3) := by decide +kernel
theorem d_N_inBaseEight_26 : decode b_N_inBaseEight 26 = .ok (.iconst 0, 1) := by decide +kernel
theorem d_N_inBaseEight_27 : decode b_N_inBaseEight 27 = .ok (.iconst 3, 1) := by decide +kernel
theorem d_N_inBaseEight_28 : decode b_N_inBaseEight 28 = .ok (.iload 5, 2) := by decide +kernel
theorem d_N_inBaseEight_30 : decode b_N_inBaseEight 30 = .ok (.imul, 1) := by decide +kernel
theorem d_N_inBaseEight_31 : decode b_N_inBaseEight 31 = .ok (.ishl, 1) := by decide +kernel
theorem d_N_inBaseEight_32 : decode b_N_inBaseEight 32 = .ok (.ior, 1) := by decide +kernel
theorem d_N_inBaseEight_33 : decode b_N_inBaseEight 33 = .ok (.istore_n 3, 1) := by decide +kernel
theorem d_N_inBaseEight_34 : decode b_N_inBaseEight 34 = .ok (.iload_n 1, 1) := by decide +kernel
theorem d_N_inBaseEight_35 : decode b_N_inBaseEight 35 = .ok (.ifCond .le 10, 3) := by decide +kernel
theorem d_N_inBaseEight_38 : decode b_N_inBaseEight 38 = .ok (.iload 4, 2) := by decide +kernel
theorem d_N_inBaseEight_40 : decode b_N_inBaseEight 40 = .ok (.iload_n 1, 1) := by decide +kernel
theorem d_N_inBaseEight_41 : decode b_N_inBaseEight 41 = .ok (.idiv, 1) := by decide +kernel
theorem d_N_inBaseEight_42 : decode b_N_inBaseEight 42 = .ok (.goto 4, 3) := by decide +kernel
theorem d_N_inBaseEight_45 : decode b_N_inBaseEight 45 = .ok (.iconst 0, 1) := by decide +kernel
theorem d_N_inBaseEight_46 : decode b_N_inBaseEight 46 = .ok (.istore 4, 2) := by decide +kernel
theorem d_N_inBaseEight_48 : decode b_N_inBaseEight 48 = .ok (.iinc 5 1, 3) := by decide +kernel
theorem d_N_inBaseEight_51 : decode b_N_inBaseEight 51 = .ok (.goto (-43), 3) := by decide +kernel
theorem d_N_inBaseEight_54 : decode b_N_inBaseEight 54 = .ok (.iload_n 3, 1) := by decide +kernel
theorem d_N_inBaseEight_55 : decode b_N_inBaseEight 55 = .ok (.ireturn, 1) := by decide +kernel
theorem d_N_hire_0 : decode b_N_hire 0 = .ok (.aload_n 0, 1) := by decide +kernel
theorem d_N_hire_1 : decode b_N_hire 1 = .ok (.iconst 0, 1) := by decide +kernel
theorem d_N_hire_2 : decode b_N_hire 2 = .ok (.iload_n 1, 1) := by decide +kernel
theorem d_N_hire_3 : decode b_N_hire 3 = .ok (.invokevirtual 143, 3) := by decide +kernel
theorem d_N_hire_6 : decode b_N_hire 6 = .ok (.ifCond .eq 13, 3) := by decide +kernel
theorem d_N_hire_9 : decode b_N_hire 9 = .ok (.iload_n 2, 1) := by decide +kernel
theorem d_N_hire_10 : decode b_N_hire 10 = .ok (.ifCond .lt 9, 3) := by decide +kernel
theorem d_N_hire_13 : decode b_N_hire 13 = .ok (.iload_n 2, 1) := by decide +kernel
theorem d_N_hire_14 : decode b_N_hire 14 = .ok (.bipush 100, 2) := by decide +kernel
theorem d_N_hire_16 : decode b_N_hire 16 = .ok (.if_icmp .le 5, 3) := by decide +kernel
theorem d_N_hire_19 : decode b_N_hire 19 = .ok (.iconst (-1), 1) := by decide +kernel
theorem d_N_hire_20 : decode b_N_hire 20 = .ok (.ireturn, 1) := by decide +kernel
theorem d_N_hire_21 : decode b_N_hire 21 = .ok (.aload_n 0, 1) := by decide +kernel
theorem d_N_hire_22 : decode b_N_hire 22 = .ok (.getfield 10, 3) := by decide +kernel
theorem d_N_hire_25 : decode b_N_hire 25 = .ok (.getfield 81, 3) := by decide +kernel
theorem d_N_hire_28 : decode b_N_hire 28 = .ok (.iload_n 1, 1) := by decide +kernel
theorem d_N_hire_29 : decode b_N_hire 29 = .ok (.aaload, 1) := by decide +kernel
theorem d_N_hire_30 : decode b_N_hire 30 = .ok (.astore 4, 2) := by decide +kernel
theorem d_N_hire_32 : decode b_N_hire 32 = .ok (.iconst (-1), 1) := by decide +kernel
theorem d_N_hire_33 : decode b_N_hire 33 = .ok (.istore 5, 2) := by decide +kernel
theorem d_N_hire_35 : decode b_N_hire 35 = .ok (.iconst (-1), 1) := by decide +kernel
theorem d_N_hire_36 : decode b_N_hire 36 = .ok (.istore 6, 2) := by decide +kernel
theorem d_N_hire_38 : decode b_N_hire 38 = .ok (.iconst 0, 1) := by decide +kernel
theorem d_N_hire_39 : decode b_N_hire 39 = .ok (.istore 7, 2) := by decide +kernel
theorem d_N_hire_41 : decode b_N_hire 41 = .ok (.iload 7, 2) := by decide +kernel
theorem d_N_hire_43 : decode b_N_hire 43 = .ok (.iconst 1, 1) := by decide +kernel
theorem d_N_hire_44 : decode b_N_hire 44 = .ok (.aload 4, 2) := by decide +kernel
theorem d_N_hire_46 : decode b_N_hire 46 = .ok (.getfield 153, 3) := by decide +kernel
theorem d_N_hire_49 : decode b_N_hire 49 = .ok (.ishl, 1) := by decide +kernel
theorem d_N_hire_50 : decode b_N_hire 50 = .ok (.if_icmp .ge 50, 3) := by decide +kernel
theorem d_N_hire_53 : decode b_N_hire 53 = .ok (.aload 4, 2) := by decide +kernel
theorem d_N_hire_55 : decode b_N_hire 55 = .ok (.iload 7, 2) := by decide +kernel
theorem d_N_hire_57 : decode b_N_hire 57 = .ok (.invokevirtual 405, 3) := by decide +kernel
theorem d_N_hire_60 : decode b_N_hire 60 = .ok (.istore 8, 2) := by decide +kernel
theorem d_N_hire_62 : decode b_N_hire 62 = .ok (.aload 4, 2) := by decide +kernel
theorem d_N_hire_64 : decode b_N_hire 64 = .ok (.iload 7, 2) := by decide +kernel
theorem d_N_hire_66 : decode b_N_hire 66 = .ok (.iload_n 2, 1) := by decide +kernel
theorem d_N_hire_67 : decode b_N_hire 67 = .ok (.invokevirtual 408, 3) := by decide +kernel
theorem d_N_hire_70 : decode b_N_hire 70 = .ok (.ifCond .eq 24, 3) := by decide +kernel
theorem d_N_hire_73 : decode b_N_hire 73 = .ok (.iload 5, 2) := by decide +kernel
theorem d_N_hire_75 : decode b_N_hire 75 = .ok (.iconst (-1), 1) := by decide +kernel
theorem d_N_hire_76 : decode b_N_hire 76 = .ok (.if_icmp .eq 10, 3) := by decide +kernel
theorem d_N_hire_79 : decode b_N_hire 79 = .ok (.iload 8, 2) := by decide +kernel
theorem d_N_hire_81 : decode b_N_hire 81 = .ok (.iload 6, 2) := by decide +kernel
theorem d_N_hire_83 : decode b_N_hire 83 = .ok (.if_icmp .ge 11, 3) := by decide +kernel
theorem d_N_hire_86 : decode b_N_hire 86 = .ok (.iload 7, 2) := by decide +kernel
theorem d_N_hire_88 : decode b_N_hire 88 = .ok (.istore 5, 2) := by decide +kernel
theorem d_N_hire_90 : decode b_N_hire 90 = .ok (.iload 8, 2) := by decide +kernel
theorem d_N_hire_92 : decode b_N_hire 92 = .ok (.istore 6, 2) := by decide +kernel
theorem d_N_hire_94 : decode b_N_hire 94 = .ok (.iinc 7 1, 3) := by decide +kernel
theorem d_N_hire_97 : decode b_N_hire 97 = .ok (.goto (-56), 3) := by decide +kernel
theorem d_N_hire_100 : decode b_N_hire 100 = .ok (.iload_n 3, 1) := by decide +kernel
theorem d_N_hire_101 : decode b_N_hire 101 = .ok (.ifCond .eq 8, 3) := by decide +kernel
theorem d_N_hire_104 : decode b_N_hire 104 = .ok (.iload 5, 2) := by decide +kernel
theorem d_N_hire_106 : decode b_N_hire 106 = .ok (.goto 5, 3) := by decide +kernel
theorem d_N_hire_109 : decode b_N_hire 109 = .ok (.iload 6, 2) := by decide +kernel
theorem d_N_hire_111 : decode b_N_hire 111 = .ok (.ireturn, 1) := by decide +kernel
theorem d_N_stolen_0 : decode b_N_stolen 0 = .ok (.aload_n 0, 1) := by decide +kernel
theorem d_N_stolen_1 : decode b_N_stolen 1 = .ok (.iload_n 1, 1) := by decide +kernel
theorem d_N_stolen_2 : decode b_N_stolen 2 = .ok (.iload_n 2, 1) := by decide +kernel
theorem d_N_stolen_3 : decode b_N_stolen 3 = .ok (.invokevirtual 212, 3) := by decide +kernel
theorem d_N_stolen_6 : decode b_N_stolen 6 = .ok (.ifCond .eq 23, 3) := by decide +kernel
theorem d_N_stolen_9 : decode b_N_stolen 9 = .ok (.aload_n 0, 1) := by decide +kernel
theorem d_N_stolen_10 : decode b_N_stolen 10 = .ok (.iconst 3, 1) := by decide +kernel
theorem d_N_stolen_11 : decode b_N_stolen 11 = .ok (.iload_n 3, 1) := by decide +kernel
theorem d_N_stolen_12 : decode b_N_stolen 12 = .ok (.invokevirtual 143, 3) := by decide +kernel
theorem d_N_stolen_15 : decode b_N_stolen 15 = .ok (.ifCond .eq 14, 3) := by decide +kernel
theorem d_N_stolen_18 : decode b_N_stolen 18 = .ok (.iload 4, 2) := by decide +kernel
theorem d_N_stolen_20 : decode b_N_stolen 20 = .ok (.ifCond .lt 9, 3) := by decide +kernel
theorem d_N_stolen_23 : decode b_N_stolen 23 = .ok (.iload 4, 2) := by decide +kernel
theorem d_N_stolen_25 : decode b_N_stolen 25 = .ok (.iconst 3, 1) := by decide +kernel
theorem d_N_stolen_26 : decode b_N_stolen 26 = .ok (.if_icmp .le 6, 3) := by decide +kernel
theorem d_N_stolen_29 : decode b_N_stolen 29 = .ok (.bipush (-2), 2) := by decide +kernel
theorem d_N_stolen_31 : decode b_N_stolen 31 = .ok (.ireturn, 1) := by decide +kernel
theorem d_N_stolen_32 : decode b_N_stolen 32 = .ok (.aload_n 0, 1) := by decide +kernel
theorem d_N_stolen_33 : decode b_N_stolen 33 = .ok (.getfield 10, 3) := by decide +kernel
theorem d_N_stolen_36 : decode b_N_stolen 36 = .ok (.getfield 81, 3) := by decide +kernel
theorem d_N_stolen_39 : decode b_N_stolen 39 = .ok (.iload_n 1, 1) := by decide +kernel
theorem d_N_stolen_40 : decode b_N_stolen 40 = .ok (.aaload, 1) := by decide +kernel
theorem d_N_stolen_41 : decode b_N_stolen 41 = .ok (.astore 5, 2) := by decide +kernel
theorem d_N_stolen_43 : decode b_N_stolen 43 = .ok (.aload_n 0, 1) := by decide +kernel
theorem d_N_stolen_44 : decode b_N_stolen 44 = .ok (.getfield 10, 3) := by decide +kernel
theorem d_N_stolen_47 : decode b_N_stolen 47 = .ok (.getfield 121, 3) := by decide +kernel
theorem d_N_stolen_50 : decode b_N_stolen 50 = .ok (.iload_n 3, 1) := by decide +kernel
theorem d_N_stolen_51 : decode b_N_stolen 51 = .ok (.aaload, 1) := by decide +kernel
theorem d_N_stolen_52 : decode b_N_stolen 52 = .ok (.astore 6, 2) := by decide +kernel
theorem d_N_stolen_54 : decode b_N_stolen 54 = .ok (.aload 6, 2) := by decide +kernel
theorem d_N_stolen_56 : decode b_N_stolen 56 = .ok (.aload 5, 2) := by decide +kernel
theorem d_N_stolen_58 : decode b_N_stolen 58 = .ok (.invokevirtual 411, 3) := by decide +kernel
theorem d_N_stolen_61 : decode b_N_stolen 61 = .ok (.ifCond .ne 6, 3) := by decide +kernel
theorem d_N_stolen_64 : decode b_N_stolen 64 = .ok (.bipush (-2), 2) := by decide +kernel
theorem d_N_stolen_66 : decode b_N_stolen 66 = .ok (.ireturn, 1) := by decide +kernel
theorem d_N_stolen_67 : decode b_N_stolen 67 = .ok (.iconst 0, 1) := by decide +kernel
theorem d_N_stolen_68 : decode b_N_stolen 68 = .ok (.istore 7, 2) := by decide +kernel
theorem d_N_stolen_70 : decode b_N_stolen 70 = .ok (.aload 5, 2) := by decide +kernel
theorem d_N_stolen_72 : decode b_N_stolen 72 = .ok (.invokevirtual 333, 3) := by decide +kernel
theorem d_N_stolen_75 : decode b_N_stolen 75 = .ok (.istore 8, 2) := by decide +kernel
theorem d_N_stolen_77 : decode b_N_stolen 77 = .ok (.iconst (-1), 1) := by decide +kernel
theorem d_N_stolen_78 : decode b_N_stolen 78 = .ok (.istore 9, 2) := by decide +kernel
theorem d_N_stolen_80 : decode b_N_stolen 80 = .ok (.iconst (-1), 1) := by decide +kernel
theorem d_N_stolen_81 : decode b_N_stolen 81 = .ok (.istore 10, 2) := by decide +kernel
theorem d_N_stolen_83 : decode b_N_stolen 83 = .ok (.iconst 0, 1) := by decide +kernel
theorem d_N_stolen_84 : decode b_N_stolen 84 = .ok (.istore 11, 2) := by decide +kernel
theorem d_N_stolen_86 : decode b_N_stolen 86 = .ok (.iload 11, 2) := by decide +kernel
theorem d_N_stolen_88 : decode b_N_stolen 88 = .ok (.aload 5, 2) := by decide +kernel
theorem d_N_stolen_90 : decode b_N_stolen 90 = .ok (.getfield 147, 3) := by decide +kernel
theorem d_N_stolen_93 : decode b_N_stolen 93 = .ok (.if_icmp .gt 121, 3) := by decide +kernel
theorem d_N_stolen_96 : decode b_N_stolen 96 = .ok (.iload 11, 2) := by decide +kernel
theorem d_N_stolen_98 : decode b_N_stolen 98 = .ok (.ifCond .eq 13, 3) := by decide +kernel
theorem d_N_stolen_101 : decode b_N_stolen 101 = .ok (.iload 11, 2) := by decide +kernel
theorem d_N_stolen_103 : decode b_N_stolen 103 = .ok (.aload 5, 2) := by decide +kernel
theorem d_N_stolen_105 : decode b_N_stolen 105 = .ok (.getfield 147, 3) := by decide +kernel
theorem d_N_stolen_108 : decode b_N_stolen 108 = .ok (.if_icmp .ne 7, 3) := by decide +kernel
theorem d_N_stolen_111 : decode b_N_stolen 111 = .ok (.iconst 1, 1) := by decide +kernel
theorem d_N_stolen_112 : decode b_N_stolen 112 = .ok (.goto 8, 3) := by decide +kernel
theorem d_N_stolen_115 : decode b_N_stolen 115 = .ok (.aload 5, 2) := by decide +kernel
theorem d_N_stolen_117 : decode b_N_stolen 117 = .ok (.getfield 147, 3) := by decide +kernel
theorem d_N_stolen_120 : decode b_N_stolen 120 = .ok (.istore 12, 2) := by decide +kernel
theorem d_N_stolen_122 : decode b_N_stolen 122 = .ok (.iconst 0, 1) := by decide +kernel
theorem d_N_stolen_123 : decode b_N_stolen 123 = .ok (.istore 13, 2) := by decide +kernel
theorem d_N_stolen_125 : decode b_N_stolen 125 = .ok (.iload 13, 2) := by decide +kernel
theorem d_N_stolen_127 : decode b_N_stolen 127 = .ok (.iload 12, 2) := by decide +kernel
theorem d_N_stolen_129 : decode b_N_stolen 129 = .ok (.if_icmp .ge 79, 3) := by decide +kernel
theorem d_N_stolen_132 : decode b_N_stolen 132 = .ok (.aload 5, 2) := by decide +kernel
theorem d_N_stolen_134 : decode b_N_stolen 134 = .ok (.iload 13, 2) := by decide +kernel
theorem d_N_stolen_136 : decode b_N_stolen 136 = .ok (.iload 11, 2) := by decide +kernel
theorem d_N_stolen_138 : decode b_N_stolen 138 = .ok (.invokevirtual 415, 3) := by decide +kernel
theorem d_N_stolen_141 : decode b_N_stolen 141 = .ok (.istore 14, 2) := by decide +kernel
theorem d_N_stolen_143 : decode b_N_stolen 143 = .ok (.aload 6, 2) := by decide +kernel
theorem d_N_stolen_145 : decode b_N_stolen 145 = .ok (.aload 5, 2) := by decide +kernel
theorem d_N_stolen_147 : decode b_N_stolen 147 = .ok (.aload_n 0, 1) := by decide +kernel
theorem d_N_stolen_148 : decode b_N_stolen 148 = .ok (.getfield 10, 3) := by decide +kernel
theorem d_N_stolen_151 : decode b_N_stolen 151 = .ok (.getfield 98, 3) := by decide +kernel
theorem d_N_stolen_154 : decode b_N_stolen 154 = .ok (.iload_n 2, 1) := by decide +kernel
theorem d_N_stolen_155 : decode b_N_stolen 155 = .ok (.aaload, 1) := by decide +kernel
theorem d_N_stolen_156 : decode b_N_stolen 156 = .ok (.iload 14, 2) := by decide +kernel
theorem d_N_stolen_158 : decode b_N_stolen 158 = .ok (.invokevirtual 418, 3) := by decide +kernel
theorem d_N_stolen_161 : decode b_N_stolen 161 = .ok (.ifCond .eq 41, 3) := by decide +kernel
theorem d_N_stolen_164 : decode b_N_stolen 164 = .ok (.iload 7, 2) := by decide +kernel
theorem d_N_stolen_166 : decode b_N_stolen 166 = .ok (.ifCond .ne 8, 3) := by decide +kernel
theorem d_N_stolen_169 : decode b_N_stolen 169 = .ok (.iload 11, 2) := by decide +kernel
theorem d_N_stolen_171 : decode b_N_stolen 171 = .ok (.goto 5, 3) := by decide +kernel
theorem d_N_stolen_174 : decode b_N_stolen 174 = .ok (.iload 9, 2) := by decide +kernel
theorem d_N_stolen_176 : decode b_N_stolen 176 = .ok (.istore 9, 2) := by decide +kernel
theorem d_N_stolen_178 : decode b_N_stolen 178 = .ok (.iload 7, 2) := by decide +kernel
theorem d_N_stolen_180 : decode b_N_stolen 180 = .ok (.ifCond .ne 8, 3) := by decide +kernel
theorem d_N_stolen_183 : decode b_N_stolen 183 = .ok (.iload 13, 2) := by decide +kernel
theorem d_N_stolen_185 : decode b_N_stolen 185 = .ok (.goto 5, 3) := by decide +kernel
theorem d_N_stolen_188 : decode b_N_stolen 188 = .ok (.iload 10, 2) := by decide +kernel
theorem d_N_stolen_190 : decode b_N_stolen 190 = .ok (.istore 10, 2) := by decide +kernel
theorem d_N_stolen_192 : decode b_N_stolen 192 = .ok (.iinc 7 1, 3) := by decide +kernel
theorem d_N_stolen_195 : decode b_N_stolen 195 = .ok (.iload 8, 2) := by decide +kernel
theorem d_N_stolen_197 : decode b_N_stolen 197 = .ok (.iload 14, 2) := by decide +kernel
theorem d_N_stolen_199 : decode b_N_stolen 199 = .ok (.iand, 1) := by decide +kernel
theorem d_N_stolen_200 : decode b_N_stolen 200 = .ok (.istore 8, 2) := by decide +kernel
theorem d_N_stolen_202 : decode b_N_stolen 202 = .ok (.iinc 13 1, 3) := by decide +kernel
theorem d_N_stolen_205 : decode b_N_stolen 205 = .ok (.goto (-80), 3) := by decide +kernel
theorem d_N_stolen_208 : decode b_N_stolen 208 = .ok (.iinc 11 1, 3) := by decide +kernel
theorem d_N_stolen_211 : decode b_N_stolen 211 = .ok (.goto (-125), 3) := by decide +kernel
theorem d_N_stolen_214 : decode b_N_stolen 214 = .ok (.iload 4, 2) := by decide +kernel
theorem d_N_stolen_216 : decode b_N_stolen 216 = .ok (.tableswitch 46 0 2 #[28, 31, 43], 28) := by decide +kernel
theorem d_N_stolen_244 : decode b_N_stolen 244 = .ok (.iload 7, 2) := by decide +kernel
theorem d_N_stolen_246 : decode b_N_stolen 246 = .ok (.ireturn, 1) := by decide +kernel
theorem d_N_stolen_247 : decode b_N_stolen 247 = .ok (.iload 7, 2) := by decide +kernel
theorem d_N_stolen_249 : decode b_N_stolen 249 = .ok (.ifCond .ne 7, 3) := by decide +kernel
theorem d_N_stolen_252 : decode b_N_stolen 252 = .ok (.iconst 0, 1) := by decide +kernel
theorem d_N_stolen_253 : decode b_N_stolen 253 = .ok (.goto 5, 3) := by decide +kernel
theorem d_N_stolen_256 : decode b_N_stolen 256 = .ok (.iload 8, 2) := by decide +kernel
theorem d_N_stolen_258 : decode b_N_stolen 258 = .ok (.ireturn, 1) := by decide +kernel
theorem d_N_stolen_259 : decode b_N_stolen 259 = .ok (.iload 9, 2) := by decide +kernel
theorem d_N_stolen_261 : decode b_N_stolen 261 = .ok (.ireturn, 1) := by decide +kernel
theorem d_N_stolen_262 : decode b_N_stolen 262 = .ok (.iload 10, 2) := by decide +kernel
theorem d_N_stolen_264 : decode b_N_stolen 264 = .ok (.ireturn, 1) := by decide +kernel
theorem d_N_game_0 : decode b_N_game 0 = .ok (.aload_n 0, 1) := by decide +kernel
theorem d_N_game_1 : decode b_N_game 1 = .ok (.iconst 4, 1) := by decide +kernel
theorem d_N_game_2 : decode b_N_game 2 = .ok (.iload_n 1, 1) := by decide +kernel
theorem d_N_game_3 : decode b_N_game 3 = .ok (.invokevirtual 143, 3) := by decide +kernel
theorem d_N_game_6 : decode b_N_game 6 = .ok (.ifCond .eq 13, 3) := by decide +kernel
theorem d_N_game_9 : decode b_N_game 9 = .ok (.iload_n 2, 1) := by decide +kernel
theorem d_N_game_10 : decode b_N_game 10 = .ok (.ifCond .lt 9, 3) := by decide +kernel
theorem d_N_game_13 : decode b_N_game 13 = .ok (.iload_n 2, 1) := by decide +kernel
theorem d_N_game_14 : decode b_N_game 14 = .ok (.bipush 8, 2) := by decide +kernel
theorem d_N_game_16 : decode b_N_game 16 = .ok (.if_icmp .lt 7, 3) := by decide +kernel
theorem d_N_game_19 : decode b_N_game 19 = .ok (.sipush (-1000), 3) := by decide +kernel
theorem d_N_game_22 : decode b_N_game 22 = .ok (.ireturn, 1) := by decide +kernel
theorem d_N_game_23 : decode b_N_game 23 = .ok (.aload_n 0, 1) := by decide +kernel
theorem d_N_game_24 : decode b_N_game 24 = .ok (.getfield 10, 3) := by decide +kernel
theorem d_N_game_27 : decode b_N_game 27 = .ok (.getfield 137, 3) := by decide +kernel
theorem d_N_game_30 : decode b_N_game 30 = .ok (.iload_n 1, 1) := by decide +kernel
theorem d_N_game_31 : decode b_N_game 31 = .ok (.aaload, 1) := by decide +kernel
theorem d_N_game_32 : decode b_N_game 32 = .ok (.astore 4, 2) := by decide +kernel
theorem d_N_game_34 : decode b_N_game 34 = .ok (.iload_n 2, 1) := by decide +kernel
theorem d_N_game_35 : decode b_N_game 35 = .ok (.ifCond .le 18, 3) := by decide +kernel
theorem d_N_game_38 : decode b_N_game 38 = .ok (.iload_n 3, 1) := by decide +kernel
theorem d_N_game_39 : decode b_N_game 39 = .ok (.ifCond .ne 10, 3) := by decide +kernel
theorem d_N_game_42 : decode b_N_game 42 = .ok (.aload 4, 2) := by decide +kernel
theorem d_N_game_44 : decode b_N_game 44 = .ok (.iload_n 2, 1) := by decide +kernel
theorem d_N_game_45 : decode b_N_game 45 = .ok (.iaload, 1) := by decide +kernel
theorem d_N_game_46 : decode b_N_game 46 = .ok (.goto 6, 3) := by decide +kernel
theorem d_N_game_49 : decode b_N_game 49 = .ok (.sipush (-1000), 3) := by decide +kernel
theorem d_N_game_52 : decode b_N_game 52 = .ok (.ireturn, 1) := by decide +kernel
theorem d_N_game_53 : decode b_N_game 53 = .ok (.iload_n 3, 1) := by decide +kernel
theorem d_N_game_54 : decode b_N_game 54 = .ok (.ifCond .lt 15, 3) := by decide +kernel
theorem d_N_game_57 : decode b_N_game 57 = .ok (.iload_n 3, 1) := by decide +kernel
theorem d_N_game_58 : decode b_N_game 58 = .ok (.iconst 3, 1) := by decide +kernel
theorem d_N_game_59 : decode b_N_game 59 = .ok (.if_icmp .gt 10, 3) := by decide +kernel
theorem d_N_game_62 : decode b_N_game 62 = .ok (.aload 4, 2) := by decide +kernel
theorem d_N_game_64 : decode b_N_game 64 = .ok (.iload_n 3, 1) := by decide +kernel
theorem d_N_game_65 : decode b_N_game 65 = .ok (.invokestatic 422, 3) := by decide +kernel
theorem d_N_game_68 : decode b_N_game 68 = .ok (.ireturn, 1) := by decide +kernel
theorem d_N_game_69 : decode b_N_game 69 = .ok (.iload_n 3, 1) := by decide +kernel
theorem d_N_game_70 : decode b_N_game 70 = .ok (.iconst 4, 1) := by decide +kernel
theorem d_N_game_71 : decode b_N_game 71 = .ok (.if_icmp .lt 20, 3) := by decide +kernel
theorem d_N_game_74 : decode b_N_game 74 = .ok (.iload_n 3, 1) := by decide +kernel
theorem d_N_game_75 : decode b_N_game 75 = .ok (.bipush 6, 2) := by decide +kernel
theorem d_N_game_77 : decode b_N_game 77 = .ok (.if_icmp .gt 14, 3) := by decide +kernel
theorem d_N_game_80 : decode b_N_game 80 = .ok (.aload 4, 2) := by decide +kernel
theorem d_N_game_82 : decode b_N_game 82 = .ok (.iload_n 3, 1) := by decide +kernel
theorem d_N_game_83 : decode b_N_game 83 = .ok (.iconst 4, 1) := by decide +kernel
theorem d_N_game_84 : decode b_N_game 84 = .ok (.isub, 1) := by decide +kernel
theorem d_N_game_85 : decode b_N_game 85 = .ok (.invokestatic 425, 3) := by decide +kernel
theorem d_N_game_88 : decode b_N_game 88 = .ok (.goto 6, 3) := by decide +kernel
theorem d_N_game_91 : decode b_N_game 91 = .ok (.sipush (-1000), 3) := by decide +kernel
theorem d_N_game_94 : decode b_N_game 94 = .ok (.ireturn, 1) := by decide +kernel
theorem d_N_core_0 : decode b_N_core 0 = .ok (.aload_n 0, 1) := by decide +kernel
theorem d_N_core_1 : decode b_N_core 1 = .ok (.bipush 7, 2) := by decide +kernel
theorem d_N_core_3 : decode b_N_core 3 = .ok (.iaload, 1) := by decide +kernel
theorem d_N_core_4 : decode b_N_core 4 = .ok (.istore_n 2, 1) := by decide +kernel
theorem d_N_core_5 : decode b_N_core 5 = .ok (.iconst 0, 1) := by decide +kernel
theorem d_N_core_6 : decode b_N_core 6 = .ok (.istore_n 3, 1) := by decide +kernel
theorem d_N_core_7 : decode b_N_core 7 = .ok (.iconst (-1), 1) := by decide +kernel
theorem d_N_core_8 : decode b_N_core 8 = .ok (.istore 4, 2) := by decide +kernel
theorem d_N_core_10 : decode b_N_core 10 = .ok (.iconst 0, 1) := by decide +kernel
theorem d_N_core_11 : decode b_N_core 11 = .ok (.istore 5, 2) := by decide +kernel
theorem d_N_core_13 : decode b_N_core 13 = .ok (.iload 5, 2) := by decide +kernel
theorem d_N_core_15 : decode b_N_core 15 = .ok (.iload_n 2, 1) := by decide +kernel
theorem d_N_core_16 : decode b_N_core 16 = .ok (.if_icmp .gt 80, 3) := by decide +kernel
theorem d_N_core_19 : decode b_N_core 19 = .ok (.iconst 0, 1) := by decide +kernel
theorem d_N_core_20 : decode b_N_core 20 = .ok (.istore 6, 2) := by decide +kernel
theorem d_N_core_22 : decode b_N_core 22 = .ok (.iload 6, 2) := by decide +kernel
theorem d_N_core_24 : decode b_N_core 24 = .ok (.iload_n 2, 1) := by decide +kernel
theorem d_N_core_25 : decode b_N_core 25 = .ok (.iload 5, 2) := by decide +kernel
theorem d_N_core_27 : decode b_N_core 27 = .ok (.isub, 1) := by decide +kernel
theorem d_N_core_28 : decode b_N_core 28 = .ok (.if_icmp .gt 62, 3) := by decide +kernel
theorem d_N_core_31 : decode b_N_core 31 = .ok (.iload_n 2, 1) := by decide +kernel
theorem d_N_core_32 : decode b_N_core 32 = .ok (.iload 5, 2) := by decide +kernel
theorem d_N_core_34 : decode b_N_core 34 = .ok (.isub, 1) := by decide +kernel
theorem d_N_core_35 : decode b_N_core 35 = .ok (.iload 6, 2) := by decide +kernel
theorem d_N_core_37 : decode b_N_core 37 = .ok (.isub, 1) := by decide +kernel
theorem d_N_core_38 : decode b_N_core 38 = .ok (.istore 7, 2) := by decide +kernel
theorem d_N_core_40 : decode b_N_core 40 = .ok (.aload_n 0, 1) := by decide +kernel
theorem d_N_core_41 : decode b_N_core 41 = .ok (.iload 5, 2) := by decide +kernel
theorem d_N_core_43 : decode b_N_core 43 = .ok (.iload 6, 2) := by decide +kernel
theorem d_N_core_45 : decode b_N_core 45 = .ok (.iload 7, 2) := by decide +kernel
theorem d_N_core_47 : decode b_N_core 47 = .ok (.invokestatic 428, 3) := by decide +kernel
theorem d_N_core_50 : decode b_N_core 50 = .ok (.ifCond .eq 34, 3) := by decide +kernel
theorem d_N_core_53 : decode b_N_core 53 = .ok (.iload_n 3, 1) := by decide +kernel
theorem d_N_core_54 : decode b_N_core 54 = .ok (.ifCond .ne 27, 3) := by decide +kernel
theorem d_N_core_57 : decode b_N_core 57 = .ok (.iload_n 1, 1) := by decide +kernel
theorem d_N_core_58 : decode b_N_core 58 = .ok (.iconst 1, 1) := by decide +kernel
theorem d_N_core_59 : decode b_N_core 59 = .ok (.if_icmp .ne 8, 3) := by decide +kernel
theorem d_N_core_62 : decode b_N_core 62 = .ok (.iload 5, 2) := by decide +kernel
theorem d_N_core_64 : decode b_N_core 64 = .ok (.goto 15, 3) := by decide +kernel
theorem d_N_core_67 : decode b_N_core 67 = .ok (.iload_n 1, 1) := by decide +kernel
theorem d_N_core_68 : decode b_N_core 68 = .ok (.iconst 2, 1) := by decide +kernel
theorem d_N_core_69 : decode b_N_core 69 = .ok (.if_icmp .ne 8, 3) := by decide +kernel
theorem d_N_core_72 : decode b_N_core 72 = .ok (.iload 6, 2) := by decide +kernel
theorem d_N_core_74 : decode b_N_core 74 = .ok (.goto 5, 3) := by decide +kernel
theorem d_N_core_77 : decode b_N_core 77 = .ok (.iload 7, 2) := by decide +kernel
theorem d_N_core_79 : decode b_N_core 79 = .ok (.istore 4, 2) := by decide +kernel
theorem d_N_core_81 : decode b_N_core 81 = .ok (.iinc 3 1, 3) := by decide +kernel
theorem d_N_core_84 : decode b_N_core 84 = .ok (.iinc 6 1, 3) := by decide +kernel
theorem d_N_core_87 : decode b_N_core 87 = .ok (.goto (-65), 3) := by decide +kernel
theorem d_N_core_90 : decode b_N_core 90 = .ok (.iinc 5 1, 3) := by decide +kernel
theorem d_N_core_93 : decode b_N_core 93 = .ok (.goto (-80), 3) := by decide +kernel
theorem d_N_core_96 : decode b_N_core 96 = .ok (.iload_n 1, 1) := by decide +kernel
theorem d_N_core_97 : decode b_N_core 97 = .ok (.ifCond .ne 7, 3) := by decide +kernel
theorem d_N_core_100 : decode b_N_core 100 = .ok (.iload_n 3, 1) := by decide +kernel
theorem d_N_core_101 : decode b_N_core 101 = .ok (.goto 5, 3) := by decide +kernel
theorem d_N_core_104 : decode b_N_core 104 = .ok (.iload 4, 2) := by decide +kernel
theorem d_N_core_106 : decode b_N_core 106 = .ok (.ireturn, 1) := by decide +kernel
theorem d_N_nobodyLeaves_0 : decode b_N_nobodyLeaves 0 = .ok (.iload_n 1, 1) := by decide +kernel
theorem d_N_nobodyLeaves_1 : decode b_N_nobodyLeaves 1 = .ok (.aload_n 0, 1) := by decide +kernel
theorem d_N_nobodyLeaves_2 : decode b_N_nobodyLeaves 2 = .ok (.iconst 1, 1) := by decide +kernel
theorem d_N_nobodyLeaves_3 : decode b_N_nobodyLeaves 3 = .ok (.iaload, 1) := by decide +kernel
theorem d_N_nobodyLeaves_4 : decode b_N_nobodyLeaves 4 = .ok (.if_icmp .lt 49, 3) := by decide +kernel
theorem d_N_nobodyLeaves_7 : decode b_N_nobodyLeaves 7 = .ok (.iload_n 2, 1) := by decide +kernel
theorem d_N_nobodyLeaves_8 : decode b_N_nobodyLeaves 8 = .ok (.aload_n 0, 1) := by decide +kernel
theorem d_N_nobodyLeaves_9 : decode b_N_nobodyLeaves 9 = .ok (.iconst 2, 1) := by decide +kernel
theorem d_N_nobodyLeaves_10 : decode b_N_nobodyLeaves 10 = .ok (.iaload, 1) := by decide +kernel
theorem d_N_nobodyLeaves_11 : decode b_N_nobodyLeaves 11 = .ok (.if_icmp .lt 42, 3) := by decide +kernel
theorem d_N_nobodyLeaves_14 : decode b_N_nobodyLeaves 14 = .ok (.iload_n 3, 1) := by decide +kernel
theorem d_N_nobodyLeaves_15 : decode b_N_nobodyLeaves 15 = .ok (.aload_n 0, 1) := by decide +kernel
theorem d_N_nobodyLeaves_16 : decode b_N_nobodyLeaves 16 = .ok (.iconst 4, 1) := by decide +kernel
theorem d_N_nobodyLeaves_17 : decode b_N_nobodyLeaves 17 = .ok (.iaload, 1) := by decide +kernel
theorem d_N_nobodyLeaves_18 : decode b_N_nobodyLeaves 18 = .ok (.if_icmp .lt 35, 3) := by decide +kernel
theorem d_N_nobodyLeaves_21 : decode b_N_nobodyLeaves 21 = .ok (.iload_n 1, 1) := by decide +kernel
theorem d_N_nobodyLeaves_22 : decode b_N_nobodyLeaves 22 = .ok (.iload_n 2, 1) := by decide +kernel
theorem d_N_nobodyLeaves_23 : decode b_N_nobodyLeaves 23 = .ok (.iadd, 1) := by decide +kernel
theorem d_N_nobodyLeaves_24 : decode b_N_nobodyLeaves 24 = .ok (.aload_n 0, 1) := by decide +kernel
theorem d_N_nobodyLeaves_25 : decode b_N_nobodyLeaves 25 = .ok (.iconst 3, 1) := by decide +kernel
theorem d_N_nobodyLeaves_26 : decode b_N_nobodyLeaves 26 = .ok (.iaload, 1) := by decide +kernel
theorem d_N_nobodyLeaves_27 : decode b_N_nobodyLeaves 27 = .ok (.if_icmp .lt 26, 3) := by decide +kernel
theorem d_N_nobodyLeaves_30 : decode b_N_nobodyLeaves 30 = .ok (.iload_n 1, 1) := by decide +kernel
theorem d_N_nobodyLeaves_31 : decode b_N_nobodyLeaves 31 = .ok (.iload_n 3, 1) := by decide +kernel
theorem d_N_nobodyLeaves_32 : decode b_N_nobodyLeaves 32 = .ok (.iadd, 1) := by decide +kernel
theorem d_N_nobodyLeaves_33 : decode b_N_nobodyLeaves 33 = .ok (.aload_n 0, 1) := by decide +kernel
theorem d_N_nobodyLeaves_34 : decode b_N_nobodyLeaves 34 = .ok (.iconst 5, 1) := by decide +kernel
theorem d_N_nobodyLeaves_35 : decode b_N_nobodyLeaves 35 = .ok (.iaload, 1) := by decide +kernel
theorem d_N_nobodyLeaves_36 : decode b_N_nobodyLeaves 36 = .ok (.if_icmp .lt 17, 3) := by decide +kernel
theorem d_N_nobodyLeaves_39 : decode b_N_nobodyLeaves 39 = .ok (.iload_n 2, 1) := by decide +kernel
theorem d_N_nobodyLeaves_40 : decode b_N_nobodyLeaves 40 = .ok (.iload_n 3, 1) := by decide +kernel
theorem d_N_nobodyLeaves_41 : decode b_N_nobodyLeaves 41 = .ok (.iadd, 1) := by decide +kernel
theorem d_N_nobodyLeaves_42 : decode b_N_nobodyLeaves 42 = .ok (.aload_n 0, 1) := by decide +kernel
theorem d_N_nobodyLeaves_43 : decode b_N_nobodyLeaves 43 = .ok (.bipush 6, 2) := by decide +kernel
theorem d_N_nobodyLeaves_45 : decode b_N_nobodyLeaves 45 = .ok (.iaload, 1) := by decide +kernel
theorem d_N_nobodyLeaves_46 : decode b_N_nobodyLeaves 46 = .ok (.if_icmp .lt 7, 3) := by decide +kernel
theorem d_N_nobodyLeaves_49 : decode b_N_nobodyLeaves 49 = .ok (.iconst 1, 1) := by decide +kernel
theorem d_N_nobodyLeaves_50 : decode b_N_nobodyLeaves 50 = .ok (.goto 4, 3) := by decide +kernel
theorem d_N_nobodyLeaves_53 : decode b_N_nobodyLeaves 53 = .ok (.iconst 0, 1) := by decide +kernel
theorem d_N_nobodyLeaves_54 : decode b_N_nobodyLeaves 54 = .ok (.ireturn, 1) := by decide +kernel
theorem d_N_power_0 : decode b_N_power 0 = .ok (.iconst 1, 1) := by decide +kernel
theorem d_N_power_1 : decode b_N_power 1 = .ok (.iload_n 1, 1) := by decide +kernel
theorem d_N_power_2 : decode b_N_power 2 = .ok (.ishl, 1) := by decide +kernel
theorem d_N_power_3 : decode b_N_power 3 = .ok (.istore_n 2, 1) := by decide +kernel
theorem d_N_power_4 : decode b_N_power 4 = .ok (.iload_n 1, 1) := by decide +kernel
theorem d_N_power_5 : decode b_N_power 5 = .ok (.ifCond .ne 7, 3) := by decide +kernel
theorem d_N_power_8 : decode b_N_power 8 = .ok (.iconst 2, 1) := by decide +kernel
theorem d_N_power_9 : decode b_N_power 9 = .ok (.goto 4, 3) := by decide +kernel
theorem d_N_power_12 : decode b_N_power 12 = .ok (.iconst 1, 1) := by decide +kernel
theorem d_N_power_13 : decode b_N_power 13 = .ok (.istore_n 3, 1) := by decide +kernel
theorem d_N_power_14 : decode b_N_power 14 = .ok (.bipush 7, 2) := by decide +kernel
theorem d_N_power_16 : decode b_N_power 16 = .ok (.iload_n 2, 1) := by decide +kernel
theorem d_N_power_17 : decode b_N_power 17 = .ok (.iconst (-1), 1) := by decide +kernel
theorem d_N_power_18 : decode b_N_power 18 = .ok (.ixor, 1) := by decide +kernel
theorem d_N_power_19 : decode b_N_power 19 = .ok (.iand, 1) := by decide +kernel
theorem d_N_power_20 : decode b_N_power 20 = .ok (.iload_n 3, 1) := by decide +kernel
theorem d_N_power_21 : decode b_N_power 21 = .ok (.iconst (-1), 1) := by decide +kernel
theorem d_N_power_22 : decode b_N_power 22 = .ok (.ixor, 1) := by decide +kernel
theorem d_N_power_23 : decode b_N_power 23 = .ok (.iand, 1) := by decide +kernel
theorem d_N_power_24 : decode b_N_power 24 = .ok (.istore 4, 2) := by decide +kernel
theorem d_N_power_26 : decode b_N_power 26 = .ok (.iconst 2, 1) := by decide +kernel
theorem d_N_power_27 : decode b_N_power 27 = .ok (.aload_n 0, 1) := by decide +kernel
theorem d_N_power_28 : decode b_N_power 28 = .ok (.iload_n 2, 1) := by decide +kernel
theorem d_N_power_29 : decode b_N_power 29 = .ok (.iaload, 1) := by decide +kernel
theorem d_N_power_30 : decode b_N_power 30 = .ok (.imul, 1) := by decide +kernel
theorem d_N_power_31 : decode b_N_power 31 = .ok (.aload_n 0, 1) := by decide +kernel
theorem d_N_power_32 : decode b_N_power 32 = .ok (.iload_n 2, 1) := by decide +kernel
theorem d_N_power_33 : decode b_N_power 33 = .ok (.iload_n 3, 1) := by decide +kernel
theorem d_N_power_34 : decode b_N_power 34 = .ok (.ior, 1) := by decide +kernel
theorem d_N_power_35 : decode b_N_power 35 = .ok (.iaload, 1) := by decide +kernel
theorem d_N_power_36 : decode b_N_power 36 = .ok (.iadd, 1) := by decide +kernel
theorem d_N_power_37 : decode b_N_power 37 = .ok (.aload_n 0, 1) := by decide +kernel
theorem d_N_power_38 : decode b_N_power 38 = .ok (.iload_n 3, 1) := by decide +kernel
theorem d_N_power_39 : decode b_N_power 39 = .ok (.iaload, 1) := by decide +kernel
theorem d_N_power_40 : decode b_N_power 40 = .ok (.isub, 1) := by decide +kernel
theorem d_N_power_41 : decode b_N_power 41 = .ok (.aload_n 0, 1) := by decide +kernel
theorem d_N_power_42 : decode b_N_power 42 = .ok (.iload_n 2, 1) := by decide +kernel
theorem d_N_power_43 : decode b_N_power 43 = .ok (.iload 4, 2) := by decide +kernel
theorem d_N_power_45 : decode b_N_power 45 = .ok (.ior, 1) := by decide +kernel
theorem d_N_power_46 : decode b_N_power 46 = .ok (.iaload, 1) := by decide +kernel
theorem d_N_power_47 : decode b_N_power 47 = .ok (.iadd, 1) := by decide +kernel
theorem d_N_power_48 : decode b_N_power 48 = .ok (.aload_n 0, 1) := by decide +kernel
theorem d_N_power_49 : decode b_N_power 49 = .ok (.iload 4, 2) := by decide +kernel
theorem d_N_power_51 : decode b_N_power 51 = .ok (.iaload, 1) := by decide +kernel
theorem d_N_power_52 : decode b_N_power 52 = .ok (.isub, 1) := by decide +kernel
theorem d_N_power_53 : decode b_N_power 53 = .ok (.iconst 2, 1) := by decide +kernel
theorem d_N_power_54 : decode b_N_power 54 = .ok (.aload_n 0, 1) := by decide +kernel
theorem d_N_power_55 : decode b_N_power 55 = .ok (.bipush 7, 2) := by decide +kernel
theorem d_N_power_57 : decode b_N_power 57 = .ok (.iaload, 1) := by decide +kernel
theorem d_N_power_58 : decode b_N_power 58 = .ok (.aload_n 0, 1) := by decide +kernel
theorem d_N_power_59 : decode b_N_power 59 = .ok (.iload_n 3, 1) := by decide +kernel
theorem d_N_power_60 : decode b_N_power 60 = .ok (.iload 4, 2) := by decide +kernel
theorem d_N_power_62 : decode b_N_power 62 = .ok (.ior, 1) := by decide +kernel
theorem d_N_power_63 : decode b_N_power 63 = .ok (.iaload, 1) := by decide +kernel
theorem d_N_power_64 : decode b_N_power 64 = .ok (.isub, 1) := by decide +kernel
theorem d_N_power_65 : decode b_N_power 65 = .ok (.imul, 1) := by decide +kernel
theorem d_N_power_66 : decode b_N_power 66 = .ok (.iadd, 1) := by decide +kernel
theorem d_N_power_67 : decode b_N_power 67 = .ok (.ireturn, 1) := by decide +kernel
theorem d_N_errand_0 : decode b_N_errand 0 = .ok (.aload_n 0, 1) := by decide +kernel
theorem d_N_errand_1 : decode b_N_errand 1 = .ok (.iload_n 1, 1) := by decide +kernel
theorem d_N_errand_2 : decode b_N_errand 2 = .ok (.iload_n 2, 1) := by decide +kernel
theorem d_N_errand_3 : decode b_N_errand 3 = .ok (.invokevirtual 212, 3) := by decide +kernel
theorem d_N_errand_6 : decode b_N_errand 6 = .ok (.ifCond .eq 16, 3) := by decide +kernel
theorem d_N_errand_9 : decode b_N_errand 9 = .ok (.iload 5, 2) := by decide +kernel
theorem d_N_errand_11 : decode b_N_errand 11 = .ok (.iconst 1, 1) := by decide +kernel
theorem d_N_errand_12 : decode b_N_errand 12 = .ok (.if_icmp .lt 10, 3) := by decide +kernel
theorem d_N_errand_15 : decode b_N_errand 15 = .ok (.iload 5, 2) := by decide +kernel
theorem d_N_errand_17 : decode b_N_errand 17 = .ok (.bipush 12, 2) := by decide +kernel
theorem d_N_errand_19 : decode b_N_errand 19 = .ok (.if_icmp .le 5, 3) := by decide +kernel
theorem d_N_errand_22 : decode b_N_errand 22 = .ok (.iconst (-1), 1) := by decide +kernel
theorem d_N_errand_23 : decode b_N_errand 23 = .ok (.ireturn, 1) := by decide +kernel
theorem d_N_errand_24 : decode b_N_errand 24 = .ok (.aload_n 0, 1) := by decide +kernel
theorem d_N_errand_25 : decode b_N_errand 25 = .ok (.getfield 10, 3) := by decide +kernel
theorem d_N_errand_28 : decode b_N_errand 28 = .ok (.getfield 81, 3) := by decide +kernel
theorem d_N_errand_31 : decode b_N_errand 31 = .ok (.iload_n 1, 1) := by decide +kernel
theorem d_N_errand_32 : decode b_N_errand 32 = .ok (.aaload, 1) := by decide +kernel
theorem d_N_errand_33 : decode b_N_errand 33 = .ok (.astore 7, 2) := by decide +kernel
theorem d_N_errand_35 : decode b_N_errand 35 = .ok (.aload 7, 2) := by decide +kernel
theorem d_N_errand_37 : decode b_N_errand 37 = .ok (.iload_n 3, 1) := by decide +kernel
theorem d_N_errand_38 : decode b_N_errand 38 = .ok (.invokevirtual 174, 3) := by decide +kernel
theorem d_N_errand_41 : decode b_N_errand 41 = .ok (.ifCond .eq 18, 3) := by decide +kernel
theorem d_N_errand_44 : decode b_N_errand 44 = .ok (.iload 4, 2) := by decide +kernel
theorem d_N_errand_46 : decode b_N_errand 46 = .ok (.ifCond .lt 13, 3) := by decide +kernel
theorem d_N_errand_49 : decode b_N_errand 49 = .ok (.iload 4, 2) := by decide +kernel
theorem d_N_errand_51 : decode b_N_errand 51 = .ok (.aload 7, 2) := by decide +kernel
theorem d_N_errand_53 : decode b_N_errand 53 = .ok (.getfield 147, 3) := by decide +kernel
theorem d_N_errand_56 : decode b_N_errand 56 = .ok (.if_icmp .lt 5, 3) := by decide +kernel
theorem d_N_errand_59 : decode b_N_errand 59 = .ok (.iconst (-1), 1) := by decide +kernel
theorem d_N_errand_60 : decode b_N_errand 60 = .ok (.ireturn, 1) := by decide +kernel
theorem d_N_errand_61 : decode b_N_errand 61 = .ok (.iconst 0, 1) := by decide +kernel
theorem d_N_errand_62 : decode b_N_errand 62 = .ok (.istore 8, 2) := by decide +kernel
theorem d_N_errand_64 : decode b_N_errand 64 = .ok (.iload 8, 2) := by decide +kernel
theorem d_N_errand_66 : decode b_N_errand 66 = .ok (.aload 7, 2) := by decide +kernel
theorem d_N_errand_68 : decode b_N_errand 68 = .ok (.getfield 147, 3) := by decide +kernel
theorem d_N_errand_71 : decode b_N_errand 71 = .ok (.if_icmp .ge 64, 3) := by decide +kernel
theorem d_N_errand_74 : decode b_N_errand 74 = .ok (.aload 7, 2) := by decide +kernel
theorem d_N_errand_76 : decode b_N_errand 76 = .ok (.aload_n 0, 1) := by decide +kernel
theorem d_N_errand_77 : decode b_N_errand 77 = .ok (.getfield 10, 3) := by decide +kernel
theorem d_N_errand_80 : decode b_N_errand 80 = .ok (.getfield 98, 3) := by decide +kernel
theorem d_N_errand_83 : decode b_N_errand 83 = .ok (.iload_n 2, 1) := by decide +kernel
theorem d_N_errand_84 : decode b_N_errand 84 = .ok (.aaload, 1) := by decide +kernel
theorem d_N_errand_85 : decode b_N_errand 85 = .ok (.aload 7, 2) := by decide +kernel
theorem d_N_errand_87 : decode b_N_errand 87 = .ok (.getfield 181, 3) := by decide +kernel
theorem d_N_errand_90 : decode b_N_errand 90 = .ok (.iload_n 3, 1) := by decide +kernel
theorem d_N_errand_91 : decode b_N_errand 91 = .ok (.iaload, 1) := by decide +kernel
theorem d_N_errand_92 : decode b_N_errand 92 = .ok (.iload 4, 2) := by decide +kernel
theorem d_N_errand_94 : decode b_N_errand 94 = .ok (.iload 8, 2) := by decide +kernel
theorem d_N_errand_96 : decode b_N_errand 96 = .ok (.iadd, 1) := by decide +kernel
theorem d_N_errand_97 : decode b_N_errand 97 = .ok (.iload 5, 2) := by decide +kernel
theorem d_N_errand_99 : decode b_N_errand 99 = .ok (.invokestatic 432, 3) := by decide +kernel
theorem d_N_errand_102 : decode b_N_errand 102 = .ok (.ifCond .eq 27, 3) := by decide +kernel
theorem d_N_errand_105 : decode b_N_errand 105 = .ok (.iload 6, 2) := by decide +kernel
theorem d_N_errand_107 : decode b_N_errand 107 = .ok (.ifCond .eq 8, 3) := by decide +kernel
theorem d_N_errand_110 : decode b_N_errand 110 = .ok (.iload 8, 2) := by decide +kernel
theorem d_N_errand_112 : decode b_N_errand 112 = .ok (.goto 16, 3) := by decide +kernel
theorem d_N_errand_115 : decode b_N_errand 115 = .ok (.iload 8, 2) := by decide +kernel
theorem d_N_errand_117 : decode b_N_errand 117 = .ok (.iconst 2, 1) := by decide +kernel
theorem d_N_errand_118 : decode b_N_errand 118 = .ok (.aload 7, 2) := by decide +kernel
theorem d_N_errand_120 : decode b_N_errand 120 = .ok (.getfield 168, 3) := by decide +kernel
theorem d_N_errand_123 : decode b_N_errand 123 = .ok (.imul, 1) := by decide +kernel
theorem d_N_errand_124 : decode b_N_errand 124 = .ok (.iadd, 1) := by decide +kernel
theorem d_N_errand_125 : decode b_N_errand 125 = .ok (.iload 5, 2) := by decide +kernel
theorem d_N_errand_127 : decode b_N_errand 127 = .ok (.iadd, 1) := by decide +kernel
theorem d_N_errand_128 : decode b_N_errand 128 = .ok (.ireturn, 1) := by decide +kernel
theorem d_N_errand_129 : decode b_N_errand 129 = .ok (.iinc 8 1, 3) := by decide +kernel
theorem d_N_errand_132 : decode b_N_errand 132 = .ok (.goto (-68), 3) := by decide +kernel
theorem d_N_errand_135 : decode b_N_errand 135 = .ok (.iconst (-1), 1) := by decide +kernel
theorem d_N_errand_136 : decode b_N_errand 136 = .ok (.ireturn, 1) := by decide +kernel
theorem d_N_canGo_0 : decode b_N_canGo 0 = .ok (.iload_n 3, 1) := by decide +kernel
theorem d_N_canGo_1 : decode b_N_canGo 1 = .ok (.aload_n 0, 1) := by decide +kernel
theorem d_N_canGo_2 : decode b_N_canGo 2 = .ok (.getfield 168, 3) := by decide +kernel
theorem d_N_canGo_5 : decode b_N_canGo 5 = .ok (.iadd, 1) := by decide +kernel
theorem d_N_canGo_6 : decode b_N_canGo 6 = .ok (.istore 5, 2) := by decide +kernel
theorem d_N_canGo_8 : decode b_N_canGo 8 = .ok (.iload 5, 2) := by decide +kernel
theorem d_N_canGo_10 : decode b_N_canGo 10 = .ok (.iload 4, 2) := by decide +kernel
theorem d_N_canGo_12 : decode b_N_canGo 12 = .ok (.iadd, 1) := by decide +kernel
theorem d_N_canGo_13 : decode b_N_canGo 13 = .ok (.aload_n 0, 1) := by decide +kernel
theorem d_N_canGo_14 : decode b_N_canGo 14 = .ok (.getfield 168, 3) := by decide +kernel
theorem d_N_canGo_17 : decode b_N_canGo 17 = .ok (.iadd, 1) := by decide +kernel
theorem d_N_canGo_18 : decode b_N_canGo 18 = .ok (.istore 6, 2) := by decide +kernel
theorem d_N_canGo_20 : decode b_N_canGo 20 = .ok (.aload_n 0, 1) := by decide +kernel
theorem d_N_canGo_21 : decode b_N_canGo 21 = .ok (.aload_n 1, 1) := by decide +kernel
theorem d_N_canGo_22 : decode b_N_canGo 22 = .ok (.iload_n 3, 1) := by decide +kernel
theorem d_N_canGo_23 : decode b_N_canGo 23 = .ok (.invokevirtual 269, 3) := by decide +kernel
theorem d_N_canGo_26 : decode b_N_canGo 26 = .ok (.iload_n 2, 1) := by decide +kernel
theorem d_N_canGo_27 : decode b_N_canGo 27 = .ok (.if_icmp .eq 14, 3) := by decide +kernel
theorem d_N_canGo_30 : decode b_N_canGo 30 = .ok (.aload_n 0, 1) := by decide +kernel
theorem d_N_canGo_31 : decode b_N_canGo 31 = .ok (.aload_n 1, 1) := by decide +kernel
theorem d_N_canGo_32 : decode b_N_canGo 32 = .ok (.iload 6, 2) := by decide +kernel
theorem d_N_canGo_34 : decode b_N_canGo 34 = .ok (.invokevirtual 269, 3) := by decide +kernel
theorem d_N_canGo_37 : decode b_N_canGo 37 = .ok (.iload_n 2, 1) := by decide +kernel
theorem d_N_canGo_38 : decode b_N_canGo 38 = .ok (.if_icmp .ne 5, 3) := by decide +kernel
theorem d_N_canGo_41 : decode b_N_canGo 41 = .ok (.iconst 0, 1) := by decide +kernel
theorem d_N_canGo_42 : decode b_N_canGo 42 = .ok (.ireturn, 1) := by decide +kernel
theorem d_N_canGo_43 : decode b_N_canGo 43 = .ok (.iconst 0, 1) := by decide +kernel
theorem d_N_canGo_44 : decode b_N_canGo 44 = .ok (.istore 7, 2) := by decide +kernel
theorem d_N_canGo_46 : decode b_N_canGo 46 = .ok (.iload 7, 2) := by decide +kernel
theorem d_N_canGo_48 : decode b_N_canGo 48 = .ok (.iload 4, 2) := by decide +kernel
theorem d_N_canGo_50 : decode b_N_canGo 50 = .ok (.if_icmp .ge 27, 3) := by decide +kernel
theorem d_N_canGo_53 : decode b_N_canGo 53 = .ok (.aload_n 0, 1) := by decide +kernel
theorem d_N_canGo_54 : decode b_N_canGo 54 = .ok (.aload_n 1, 1) := by decide +kernel
theorem d_N_canGo_55 : decode b_N_canGo 55 = .ok (.iload 5, 2) := by decide +kernel
theorem d_N_canGo_57 : decode b_N_canGo 57 = .ok (.iload 7, 2) := by decide +kernel
theorem d_N_canGo_59 : decode b_N_canGo 59 = .ok (.iadd, 1) := by decide +kernel
theorem d_N_canGo_60 : decode b_N_canGo 60 = .ok (.invokevirtual 269, 3) := by decide +kernel
theorem d_N_canGo_63 : decode b_N_canGo 63 = .ok (.iconst 1, 1) := by decide +kernel
theorem d_N_canGo_64 : decode b_N_canGo 64 = .ok (.iload_n 2, 1) := by decide +kernel
theorem d_N_canGo_65 : decode b_N_canGo 65 = .ok (.isub, 1) := by decide +kernel
theorem d_N_canGo_66 : decode b_N_canGo 66 = .ok (.if_icmp .ne 5, 3) := by decide +kernel
theorem d_N_canGo_69 : decode b_N_canGo 69 = .ok (.iconst 0, 1) := by decide +kernel
theorem d_N_canGo_70 : decode b_N_canGo 70 = .ok (.ireturn, 1) := by decide +kernel
theorem d_N_canGo_71 : decode b_N_canGo 71 = .ok (.iinc 7 1, 3) := by decide +kernel
theorem d_N_canGo_74 : decode b_N_canGo 74 = .ok (.goto (-28), 3) := by decide +kernel
theorem d_N_canGo_77 : decode b_N_canGo 77 = .ok (.iconst 1, 1) := by decide +kernel
theorem d_N_canGo_78 : decode b_N_canGo 78 = .ok (.ireturn, 1) := by decide +kernel
theorem d_N_meet_0 : decode b_N_meet 0 = .ok (.aload_n 0, 1) := by decide +kernel
theorem d_N_meet_1 : decode b_N_meet 1 = .ok (.iload_n 1, 1) := by decide +kernel
theorem d_N_meet_2 : decode b_N_meet 2 = .ok (.iload_n 2, 1) := by decide +kernel
theorem d_N_meet_3 : decode b_N_meet 3 = .ok (.invokevirtual 212, 3) := by decide +kernel
theorem d_N_meet_6 : decode b_N_meet 6 = .ok (.ifCond .ne 5, 3) := by decide +kernel
theorem d_N_meet_9 : decode b_N_meet 9 = .ok (.iconst (-1), 1) := by decide +kernel
theorem d_N_meet_10 : decode b_N_meet 10 = .ok (.ireturn, 1) := by decide +kernel
theorem d_N_meet_11 : decode b_N_meet 11 = .ok (.aload_n 0, 1) := by decide +kernel
theorem d_N_meet_12 : decode b_N_meet 12 = .ok (.getfield 10, 3) := by decide +kernel
theorem d_N_meet_15 : decode b_N_meet 15 = .ok (.getfield 81, 3) := by decide +kernel
theorem d_N_meet_18 : decode b_N_meet 18 = .ok (.iload_n 1, 1) := by decide +kernel
theorem d_N_meet_19 : decode b_N_meet 19 = .ok (.aaload, 1) := by decide +kernel
theorem d_N_meet_20 : decode b_N_meet 20 = .ok (.astore 6, 2) := by decide +kernel
theorem d_N_meet_22 : decode b_N_meet 22 = .ok (.aload 6, 2) := by decide +kernel
theorem d_N_meet_24 : decode b_N_meet 24 = .ok (.iload_n 3, 1) := by decide +kernel
theorem d_N_meet_25 : decode b_N_meet 25 = .ok (.invokevirtual 174, 3) := by decide +kernel
theorem d_N_meet_28 : decode b_N_meet 28 = .ok (.ifCond .eq 28, 3) := by decide +kernel
theorem d_N_meet_31 : decode b_N_meet 31 = .ok (.aload 6, 2) := by decide +kernel
theorem d_N_meet_33 : decode b_N_meet 33 = .ok (.iload 4, 2) := by decide +kernel
theorem d_N_meet_35 : decode b_N_meet 35 = .ok (.invokevirtual 174, 3) := by decide +kernel
theorem d_N_meet_38 : decode b_N_meet 38 = .ok (.ifCond .eq 18, 3) := by decide +kernel
theorem d_N_meet_41 : decode b_N_meet 41 = .ok (.iload 5, 2) := by decide +kernel
theorem d_N_meet_43 : decode b_N_meet 43 = .ok (.ifCond .lt 13, 3) := by decide +kernel
theorem d_N_meet_46 : decode b_N_meet 46 = .ok (.iload 5, 2) := by decide +kernel
theorem d_N_meet_48 : decode b_N_meet 48 = .ok (.aload 6, 2) := by decide +kernel
theorem d_N_meet_50 : decode b_N_meet 50 = .ok (.getfield 147, 3) := by decide +kernel
theorem d_N_meet_53 : decode b_N_meet 53 = .ok (.if_icmp .lt 5, 3) := by decide +kernel
theorem d_N_meet_56 : decode b_N_meet 56 = .ok (.iconst (-1), 1) := by decide +kernel
theorem d_N_meet_57 : decode b_N_meet 57 = .ok (.ireturn, 1) := by decide +kernel
theorem d_N_meet_58 : decode b_N_meet 58 = .ok (.iconst 0, 1) := by decide +kernel
theorem d_N_meet_59 : decode b_N_meet 59 = .ok (.istore 7, 2) := by decide +kernel
theorem d_N_meet_61 : decode b_N_meet 61 = .ok (.iload 7, 2) := by decide +kernel
theorem d_N_meet_63 : decode b_N_meet 63 = .ok (.aload 6, 2) := by decide +kernel
theorem d_N_meet_65 : decode b_N_meet 65 = .ok (.getfield 147, 3) := by decide +kernel
theorem d_N_meet_68 : decode b_N_meet 68 = .ok (.if_icmp .ge 58, 3) := by decide +kernel
theorem d_N_meet_71 : decode b_N_meet 71 = .ok (.aload 6, 2) := by decide +kernel
theorem d_N_meet_73 : decode b_N_meet 73 = .ok (.aload_n 0, 1) := by decide +kernel
theorem d_N_meet_74 : decode b_N_meet 74 = .ok (.getfield 10, 3) := by decide +kernel
theorem d_N_meet_77 : decode b_N_meet 77 = .ok (.getfield 98, 3) := by decide +kernel
theorem d_N_meet_80 : decode b_N_meet 80 = .ok (.iload_n 2, 1) := by decide +kernel
theorem d_N_meet_81 : decode b_N_meet 81 = .ok (.aaload, 1) := by decide +kernel
theorem d_N_meet_82 : decode b_N_meet 82 = .ok (.iload 5, 2) := by decide +kernel
theorem d_N_meet_84 : decode b_N_meet 84 = .ok (.iload 7, 2) := by decide +kernel
theorem d_N_meet_86 : decode b_N_meet 86 = .ok (.iadd, 1) := by decide +kernel
theorem d_N_meet_87 : decode b_N_meet 87 = .ok (.invokevirtual 269, 3) := by decide +kernel
theorem d_N_meet_90 : decode b_N_meet 90 = .ok (.istore 8, 2) := by decide +kernel
theorem d_N_meet_92 : decode b_N_meet 92 = .ok (.iload 8, 2) := by decide +kernel
theorem d_N_meet_94 : decode b_N_meet 94 = .ok (.aload 6, 2) := by decide +kernel
theorem d_N_meet_96 : decode b_N_meet 96 = .ok (.getfield 181, 3) := by decide +kernel
theorem d_N_meet_99 : decode b_N_meet 99 = .ok (.iload_n 3, 1) := by decide +kernel
theorem d_N_meet_100 : decode b_N_meet 100 = .ok (.iaload, 1) := by decide +kernel
theorem d_N_meet_101 : decode b_N_meet 101 = .ok (.if_icmp .eq 19, 3) := by decide +kernel
theorem d_N_meet_104 : decode b_N_meet 104 = .ok (.iload 8, 2) := by decide +kernel
theorem d_N_meet_106 : decode b_N_meet 106 = .ok (.aload 6, 2) := by decide +kernel
theorem d_N_meet_108 : decode b_N_meet 108 = .ok (.getfield 181, 3) := by decide +kernel
theorem d_N_meet_111 : decode b_N_meet 111 = .ok (.iload 4, 2) := by decide +kernel
theorem d_N_meet_113 : decode b_N_meet 113 = .ok (.iaload, 1) := by decide +kernel
theorem d_N_meet_114 : decode b_N_meet 114 = .ok (.if_icmp .eq 6, 3) := by decide +kernel
theorem d_N_meet_117 : decode b_N_meet 117 = .ok (.iload 7, 2) := by decide +kernel
theorem d_N_meet_119 : decode b_N_meet 119 = .ok (.ireturn, 1) := by decide +kernel
theorem d_N_meet_120 : decode b_N_meet 120 = .ok (.iinc 7 1, 3) := by decide +kernel
theorem d_N_meet_123 : decode b_N_meet 123 = .ok (.goto (-62), 3) := by decide +kernel
theorem d_N_meet_126 : decode b_N_meet 126 = .ok (.iconst (-1), 1) := by decide +kernel
theorem d_N_meet_127 : decode b_N_meet 127 = .ok (.ireturn, 1) := by decide +kernel
theorem d_N_drawn_0 : decode b_N_drawn 0 = .ok (.aload_n 0, 1) := by decide +kernel
theorem d_N_drawn_1 : decode b_N_drawn 1 = .ok (.iload_n 1, 1) := by decide +kernel
theorem d_N_drawn_2 : decode b_N_drawn 2 = .ok (.iload_n 2, 1) := by decide +kernel
theorem d_N_drawn_3 : decode b_N_drawn 3 = .ok (.invokevirtual 212, 3) := by decide +kernel
theorem d_N_drawn_6 : decode b_N_drawn 6 = .ok (.ifCond .eq 21, 3) := by decide +kernel
theorem d_N_drawn_9 : decode b_N_drawn 9 = .ok (.iload 4, 2) := by decide +kernel
theorem d_N_drawn_11 : decode b_N_drawn 11 = .ok (.iconst 1, 1) := by decide +kernel
theorem d_N_drawn_12 : decode b_N_drawn 12 = .ok (.if_icmp .lt 15, 3) := by decide +kernel
theorem d_N_drawn_15 : decode b_N_drawn 15 = .ok (.iload 4, 2) := by decide +kernel
theorem d_N_drawn_17 : decode b_N_drawn 17 = .ok (.bipush 60, 2) := by decide +kernel
theorem d_N_drawn_19 : decode b_N_drawn 19 = .ok (.if_icmp .gt 8, 3) := by decide +kernel
theorem d_N_drawn_22 : decode b_N_drawn 22 = .ok (.iload 5, 2) := by decide +kernel
theorem d_N_drawn_24 : decode b_N_drawn 24 = .ok (.ifCond .ge 6, 3) := by decide +kernel
theorem d_N_drawn_27 : decode b_N_drawn 27 = .ok (.bipush (-2), 2) := by decide +kernel
theorem d_N_drawn_29 : decode b_N_drawn 29 = .ok (.ireturn, 1) := by decide +kernel
theorem d_N_drawn_30 : decode b_N_drawn 30 = .ok (.aload_n 0, 1) := by decide +kernel
theorem d_N_drawn_31 : decode b_N_drawn 31 = .ok (.getfield 10, 3) := by decide +kernel
theorem d_N_drawn_34 : decode b_N_drawn 34 = .ok (.getfield 81, 3) := by decide +kernel
theorem d_N_drawn_37 : decode b_N_drawn 37 = .ok (.iload_n 1, 1) := by decide +kernel
theorem d_N_drawn_38 : decode b_N_drawn 38 = .ok (.aaload, 1) := by decide +kernel
theorem d_N_drawn_39 : decode b_N_drawn 39 = .ok (.astore 6, 2) := by decide +kernel
theorem d_N_drawn_41 : decode b_N_drawn 41 = .ok (.iload 5, 2) := by decide +kernel
theorem d_N_drawn_43 : decode b_N_drawn 43 = .ok (.iconst 1, 1) := by decide +kernel
theorem d_N_drawn_44 : decode b_N_drawn 44 = .ok (.if_icmp .le 19, 3) := by decide +kernel
theorem d_N_drawn_47 : decode b_N_drawn 47 = .ok (.aload 6, 2) := by decide +kernel
theorem d_N_drawn_49 : decode b_N_drawn 49 = .ok (.iload 5, 2) := by decide +kernel
theorem d_N_drawn_51 : decode b_N_drawn 51 = .ok (.bipush 10, 2) := by decide +kernel
theorem d_N_drawn_53 : decode b_N_drawn 53 = .ok (.isub, 1) := by decide +kernel
theorem d_N_drawn_54 : decode b_N_drawn 54 = .ok (.invokevirtual 174, 3) := by decide +kernel
theorem d_N_drawn_57 : decode b_N_drawn 57 = .ok (.ifCond .ne 6, 3) := by decide +kernel
theorem d_N_drawn_60 : decode b_N_drawn 60 = .ok (.bipush (-2), 2) := by decide +kernel
theorem d_N_drawn_62 : decode b_N_drawn 62 = .ok (.ireturn, 1) := by decide +kernel
theorem d_N_drawn_63 : decode b_N_drawn 63 = .ok (.aload_n 0, 1) := by decide +kernel
theorem d_N_drawn_64 : decode b_N_drawn 64 = .ok (.getfield 10, 3) := by decide +kernel
theorem d_N_drawn_67 : decode b_N_drawn 67 = .ok (.getfield 98, 3) := by decide +kernel
theorem d_N_drawn_70 : decode b_N_drawn 70 = .ok (.iload_n 2, 1) := by decide +kernel
theorem d_N_drawn_71 : decode b_N_drawn 71 = .ok (.aaload, 1) := by decide +kernel
theorem d_N_drawn_72 : decode b_N_drawn 72 = .ok (.astore 7, 2) := by decide +kernel
theorem d_N_drawn_74 : decode b_N_drawn 74 = .ok (.iload 5, 2) := by decide +kernel
theorem d_N_drawn_76 : decode b_N_drawn 76 = .ok (.iconst 1, 1) := by decide +kernel
theorem d_N_drawn_77 : decode b_N_drawn 77 = .ok (.if_icmp .ne 14, 3) := by decide +kernel
theorem d_N_drawn_80 : decode b_N_drawn 80 = .ok (.iload 4, 2) := by decide +kernel
theorem d_N_drawn_82 : decode b_N_drawn 82 = .ok (.aload 6, 2) := by decide +kernel
theorem d_N_drawn_84 : decode b_N_drawn 84 = .ok (.aload 7, 2) := by decide +kernel
theorem d_N_drawn_86 : decode b_N_drawn 86 = .ok (.invokevirtual 223, 3) := by decide +kernel
theorem d_N_drawn_89 : decode b_N_drawn 89 = .ok (.imul, 1) := by decide +kernel
theorem d_N_drawn_90 : decode b_N_drawn 90 = .ok (.ireturn, 1) := by decide +kernel
theorem d_N_drawn_91 : decode b_N_drawn 91 = .ok (.iload 5, 2) := by decide +kernel
theorem d_N_drawn_93 : decode b_N_drawn 93 = .ok (.ifCond .ne 16, 3) := by decide +kernel
theorem d_N_drawn_96 : decode b_N_drawn 96 = .ok (.aload 6, 2) := by decide +kernel
theorem d_N_drawn_98 : decode b_N_drawn 98 = .ok (.aload 7, 2) := by decide +kernel
theorem d_N_drawn_100 : decode b_N_drawn 100 = .ok (.iload_n 3, 1) := by decide +kernel
theorem d_N_drawn_101 : decode b_N_drawn 101 = .ok (.iload 4, 2) := by decide +kernel
theorem d_N_drawn_103 : decode b_N_drawn 103 = .ok (.invokestatic 436, 3) := by decide +kernel
theorem d_N_drawn_106 : decode b_N_drawn 106 = .ok (.goto 18, 3) := by decide +kernel
theorem d_N_drawn_109 : decode b_N_drawn 109 = .ok (.aload 6, 2) := by decide +kernel
theorem d_N_drawn_111 : decode b_N_drawn 111 = .ok (.aload 7, 2) := by decide +kernel
theorem d_N_drawn_113 : decode b_N_drawn 113 = .ok (.iload_n 3, 1) := by decide +kernel
theorem d_N_drawn_114 : decode b_N_drawn 114 = .ok (.iload 4, 2) := by decide +kernel
theorem d_N_drawn_116 : decode b_N_drawn 116 = .ok (.iload 5, 2) := by decide +kernel
theorem d_N_drawn_118 : decode b_N_drawn 118 = .ok (.bipush 10, 2) := by decide +kernel
theorem d_N_drawn_120 : decode b_N_drawn 120 = .ok (.isub, 1) := by decide +kernel
theorem d_N_drawn_121 : decode b_N_drawn 121 = .ok (.invokestatic 440, 3) := by decide +kernel
theorem d_N_drawn_124 : decode b_N_drawn 124 = .ok (.ireturn, 1) := by decide +kernel
theorem d_N_drawnVillages_0 : decode b_N_drawnVillages 0 = .ok (.iload_n 3, 1) := by decide +kernel
theorem d_N_drawnVillages_1 : decode b_N_drawnVillages 1 = .ok (.aload_n 0, 1) := by decide +kernel
theorem d_N_drawnVillages_2 : decode b_N_drawnVillages 2 = .ok (.aload_n 1, 1) := by decide +kernel
theorem d_N_drawnVillages_3 : decode b_N_drawnVillages 3 = .ok (.invokevirtual 223, 3) := by decide +kernel
theorem d_N_drawnVillages_6 : decode b_N_drawnVillages 6 = .ok (.imul, 1) := by decide +kernel
theorem d_N_drawnVillages_7 : decode b_N_drawnVillages 7 = .ok (.istore 4, 2) := by decide +kernel
theorem d_N_drawnVillages_9 : decode b_N_drawnVillages 9 = .ok (.iconst 0, 1) := by decide +kernel
theorem d_N_drawnVillages_10 : decode b_N_drawnVillages 10 = .ok (.istore 5, 2) := by decide +kernel
theorem d_N_drawnVillages_12 : decode b_N_drawnVillages 12 = .ok (.iconst 0, 1) := by decide +kernel
theorem d_N_drawnVillages_13 : decode b_N_drawnVillages 13 = .ok (.istore 6, 2) := by decide +kernel
theorem d_N_drawnVillages_15 : decode b_N_drawnVillages 15 = .ok (.iload_n 2, 1) := by decide +kernel
theorem d_N_drawnVillages_16 : decode b_N_drawnVillages 16 = .ok (.istore 7, 2) := by decide +kernel
theorem d_N_drawnVillages_18 : decode b_N_drawnVillages 18 = .ok (.iconst 0, 1) := by decide +kernel
theorem d_N_drawnVillages_19 : decode b_N_drawnVillages 19 = .ok (.istore 8, 2) := by decide +kernel
theorem d_N_drawnVillages_21 : decode b_N_drawnVillages 21 = .ok (.iload 8, 2) := by decide +kernel
theorem d_N_drawnVillages_23 : decode b_N_drawnVillages 23 = .ok (.iload 4, 2) := by decide +kernel
theorem d_N_drawnVillages_25 : decode b_N_drawnVillages 25 = .ok (.if_icmp .ge 53, 3) := by decide +kernel
theorem d_N_drawnVillages_28 : decode b_N_drawnVillages 28 = .ok (.iload 7, 2) := by decide +kernel
theorem d_N_drawnVillages_30 : decode b_N_drawnVillages 30 = .ok (.invokestatic 445, 3) := by decide +kernel
theorem d_N_drawnVillages_33 : decode b_N_drawnVillages 33 = .ok (.istore 7, 2) := by decide +kernel
theorem d_N_drawnVillages_35 : decode b_N_drawnVillages 35 = .ok (.iload 5, 2) := by decide +kernel
theorem d_N_drawnVillages_37 : decode b_N_drawnVillages 37 = .ok (.aload_n 0, 1) := by decide +kernel
theorem d_N_drawnVillages_38 : decode b_N_drawnVillages 38 = .ok (.iload 6, 2) := by decide +kernel
theorem d_N_drawnVillages_40 : decode b_N_drawnVillages 40 = .ok (.iload 7, 2) := by decide +kernel
theorem d_N_drawnVillages_42 : decode b_N_drawnVillages 42 = .ok (.invokestatic 448, 3) := by decide +kernel
theorem d_N_drawnVillages_45 : decode b_N_drawnVillages 45 = .ok (.invokestatic 219, 3) := by decide +kernel
theorem d_N_drawnVillages_48 : decode b_N_drawnVillages 48 = .ok (.iadd, 1) := by decide +kernel
theorem d_N_drawnVillages_49 : decode b_N_drawnVillages 49 = .ok (.istore 5, 2) := by decide +kernel
theorem d_N_drawnVillages_51 : decode b_N_drawnVillages 51 = .ok (.iload 6, 2) := by decide +kernel
theorem d_N_drawnVillages_53 : decode b_N_drawnVillages 53 = .ok (.iconst 1, 1) := by decide +kernel
theorem d_N_drawnVillages_54 : decode b_N_drawnVillages 54 = .ok (.iadd, 1) := by decide +kernel
theorem d_N_drawnVillages_55 : decode b_N_drawnVillages 55 = .ok (.aload_n 0, 1) := by decide +kernel
theorem d_N_drawnVillages_56 : decode b_N_drawnVillages 56 = .ok (.getfield 153, 3) := by decide +kernel
theorem d_N_drawnVillages_59 : decode b_N_drawnVillages 59 = .ok (.if_icmp .ge 10, 3) := by decide +kernel
theorem d_N_drawnVillages_62 : decode b_N_drawnVillages 62 = .ok (.iload 6, 2) := by decide +kernel
theorem d_N_drawnVillages_64 : decode b_N_drawnVillages 64 = .ok (.iconst 1, 1) := by decide +kernel
theorem d_N_drawnVillages_65 : decode b_N_drawnVillages 65 = .ok (.iadd, 1) := by decide +kernel
theorem d_N_drawnVillages_66 : decode b_N_drawnVillages 66 = .ok (.goto 4, 3) := by decide +kernel
theorem d_N_drawnVillages_69 : decode b_N_drawnVillages 69 = .ok (.iconst 0, 1) := by decide +kernel
theorem d_N_drawnVillages_70 : decode b_N_drawnVillages 70 = .ok (.istore 6, 2) := by decide +kernel
theorem d_N_drawnVillages_72 : decode b_N_drawnVillages 72 = .ok (.iinc 8 1, 3) := by decide +kernel
theorem d_N_drawnVillages_75 : decode b_N_drawnVillages 75 = .ok (.goto (-54), 3) := by decide +kernel
theorem d_N_drawnVillages_78 : decode b_N_drawnVillages 78 = .ok (.iload 5, 2) := by decide +kernel
theorem d_N_drawnVillages_80 : decode b_N_drawnVillages 80 = .ok (.ireturn, 1) := by decide +kernel
theorem d_N_draw_0 : decode b_N_draw 0 = .ok (.iload_n 0, 1) := by decide +kernel
theorem d_N_draw_1 : decode b_N_draw 1 = .ok (.ldc_w 444, 3) := by decide +kernel
theorem d_N_draw_4 : decode b_N_draw 4 = .ok (.imul, 1) := by decide +kernel
theorem d_N_draw_5 : decode b_N_draw 5 = .ok (.sipush 12345, 3) := by decide +kernel
theorem d_N_draw_8 : decode b_N_draw 8 = .ok (.iadd, 1) := by decide +kernel
theorem d_N_draw_9 : decode b_N_draw 9 = .ok (.ireturn, 1) := by decide +kernel
theorem d_N_putsDown_0 : decode b_N_putsDown 0 = .ok (.iload_n 1, 1) := by decide +kernel
theorem d_N_putsDown_1 : decode b_N_putsDown 1 = .ok (.aload_n 0, 1) := by decide +kernel
theorem d_N_putsDown_2 : decode b_N_putsDown 2 = .ok (.getfield 153, 3) := by decide +kernel
theorem d_N_putsDown_5 : decode b_N_putsDown 5 = .ok (.if_icmp .ge 23, 3) := by decide +kernel
theorem d_N_putsDown_8 : decode b_N_putsDown 8 = .ok (.iload_n 2, 1) := by decide +kernel
theorem d_N_putsDown_9 : decode b_N_putsDown 9 = .ok (.bipush 16, 2) := by decide +kernel
theorem d_N_putsDown_11 : decode b_N_putsDown 11 = .ok (.iushr, 1) := by decide +kernel
theorem d_N_putsDown_12 : decode b_N_putsDown 12 = .ok (.bipush 10, 2) := by decide +kernel
theorem d_N_putsDown_14 : decode b_N_putsDown 14 = .ok (.irem, 1) := by decide +kernel
theorem d_N_putsDown_15 : decode b_N_putsDown 15 = .ok (.aload_n 0, 1) := by decide +kernel
theorem d_N_putsDown_16 : decode b_N_putsDown 16 = .ok (.getfield 159, 3) := by decide +kernel
theorem d_N_putsDown_19 : decode b_N_putsDown 19 = .ok (.iload_n 1, 1) := by decide +kernel
theorem d_N_putsDown_20 : decode b_N_putsDown 20 = .ok (.iaload, 1) := by decide +kernel
theorem d_N_putsDown_21 : decode b_N_putsDown 21 = .ok (.if_icmp .ge 7, 3) := by decide +kernel
theorem d_N_putsDown_24 : decode b_N_putsDown 24 = .ok (.iconst 1, 1) := by decide +kernel
theorem d_N_putsDown_25 : decode b_N_putsDown 25 = .ok (.goto 4, 3) := by decide +kernel
theorem d_N_putsDown_28 : decode b_N_putsDown 28 = .ok (.iconst 0, 1) := by decide +kernel
theorem d_N_putsDown_29 : decode b_N_putsDown 29 = .ok (.ireturn, 1) := by decide +kernel
theorem d_N_drawnSleep_0 : decode b_N_drawnSleep 0 = .ok (.iconst 0, 1) := by decide +kernel
theorem d_N_drawnSleep_1 : decode b_N_drawnSleep 1 = .ok (.istore 5, 2) := by decide +kernel
theorem d_N_drawnSleep_3 : decode b_N_drawnSleep 3 = .ok (.iconst 0, 1) := by decide +kernel
theorem d_N_drawnSleep_4 : decode b_N_drawnSleep 4 = .ok (.istore 6, 2) := by decide +kernel
theorem d_N_drawnSleep_6 : decode b_N_drawnSleep 6 = .ok (.iload_n 2, 1) := by decide +kernel
theorem d_N_drawnSleep_7 : decode b_N_drawnSleep 7 = .ok (.istore 7, 2) := by decide +kernel
theorem d_N_drawnSleep_9 : decode b_N_drawnSleep 9 = .ok (.iconst 0, 1) := by decide +kernel
theorem d_N_drawnSleep_10 : decode b_N_drawnSleep 10 = .ok (.istore 8, 2) := by decide +kernel
theorem d_N_drawnSleep_12 : decode b_N_drawnSleep 12 = .ok (.iload 8, 2) := by decide +kernel
theorem d_N_drawnSleep_14 : decode b_N_drawnSleep 14 = .ok (.iload_n 3, 1) := by decide +kernel
theorem d_N_drawnSleep_15 : decode b_N_drawnSleep 15 = .ok (.if_icmp .ge 142, 3) := by decide +kernel
theorem d_N_drawnSleep_18 : decode b_N_drawnSleep 18 = .ok (.aload_n 0, 1) := by decide +kernel
theorem d_N_drawnSleep_19 : decode b_N_drawnSleep 19 = .ok (.aload_n 1, 1) := by decide +kernel
theorem d_N_drawnSleep_20 : decode b_N_drawnSleep 20 = .ok (.aload_n 0, 1) := by decide +kernel
theorem d_N_drawnSleep_21 : decode b_N_drawnSleep 21 = .ok (.getfield 181, 3) := by decide +kernel
theorem d_N_drawnSleep_24 : decode b_N_drawnSleep 24 = .ok (.iload 4, 2) := by decide +kernel
theorem d_N_drawnSleep_26 : decode b_N_drawnSleep 26 = .ok (.iaload, 1) := by decide +kernel
theorem d_N_drawnSleep_27 : decode b_N_drawnSleep 27 = .ok (.invokevirtual 227, 3) := by decide +kernel
theorem d_N_drawnSleep_30 : decode b_N_drawnSleep 30 = .ok (.istore 9, 2) := by decide +kernel
theorem d_N_drawnSleep_32 : decode b_N_drawnSleep 32 = .ok (.iconst 0, 1) := by decide +kernel
theorem d_N_drawnSleep_33 : decode b_N_drawnSleep 33 = .ok (.istore 10, 2) := by decide +kernel
theorem d_N_drawnSleep_35 : decode b_N_drawnSleep 35 = .ok (.iload 10, 2) := by decide +kernel
theorem d_N_drawnSleep_37 : decode b_N_drawnSleep 37 = .ok (.aload_n 0, 1) := by decide +kernel
theorem d_N_drawnSleep_38 : decode b_N_drawnSleep 38 = .ok (.getfield 147, 3) := by decide +kernel
theorem d_N_drawnSleep_41 : decode b_N_drawnSleep 41 = .ok (.if_icmp .ge 85, 3) := by decide +kernel
theorem d_N_drawnSleep_44 : decode b_N_drawnSleep 44 = .ok (.aload_n 0, 1) := by decide +kernel
theorem d_N_drawnSleep_45 : decode b_N_drawnSleep 45 = .ok (.aload_n 1, 1) := by decide +kernel
theorem d_N_drawnSleep_46 : decode b_N_drawnSleep 46 = .ok (.iload 10, 2) := by decide +kernel
theorem d_N_drawnSleep_48 : decode b_N_drawnSleep 48 = .ok (.invokevirtual 451, 3) := by decide +kernel
theorem d_N_drawnSleep_51 : decode b_N_drawnSleep 51 = .ok (.ifCond .eq 69, 3) := by decide +kernel
theorem d_N_drawnSleep_54 : decode b_N_drawnSleep 54 = .ok (.iload 7, 2) := by decide +kernel
theorem d_N_drawnSleep_56 : decode b_N_drawnSleep 56 = .ok (.invokestatic 445, 3) := by decide +kernel
theorem d_N_drawnSleep_59 : decode b_N_drawnSleep 59 = .ok (.istore 7, 2) := by decide +kernel
theorem d_N_drawnSleep_61 : decode b_N_drawnSleep 61 = .ok (.iload 9, 2) := by decide +kernel
theorem d_N_drawnSleep_63 : decode b_N_drawnSleep 63 = .ok (.aload_n 1, 1) := by decide +kernel
theorem d_N_drawnSleep_64 : decode b_N_drawnSleep 64 = .ok (.iload 10, 2) := by decide +kernel
theorem d_N_drawnSleep_66 : decode b_N_drawnSleep 66 = .ok (.iaload, 1) := by decide +kernel
theorem d_N_drawnSleep_67 : decode b_N_drawnSleep 67 = .ok (.aload_n 0, 1) := by decide +kernel
theorem d_N_drawnSleep_68 : decode b_N_drawnSleep 68 = .ok (.getfield 181, 3) := by decide +kernel
theorem d_N_drawnSleep_71 : decode b_N_drawnSleep 71 = .ok (.iload 4, 2) := by decide +kernel
theorem d_N_drawnSleep_73 : decode b_N_drawnSleep 73 = .ok (.iaload, 1) := by decide +kernel
theorem d_N_drawnSleep_74 : decode b_N_drawnSleep 74 = .ok (.if_icmp .ne 18, 3) := by decide +kernel
theorem d_N_drawnSleep_77 : decode b_N_drawnSleep 77 = .ok (.aload_n 0, 1) := by decide +kernel
theorem d_N_drawnSleep_78 : decode b_N_drawnSleep 78 = .ok (.iload 6, 2) := by decide +kernel
theorem d_N_drawnSleep_80 : decode b_N_drawnSleep 80 = .ok (.iload 7, 2) := by decide +kernel
theorem d_N_drawnSleep_82 : decode b_N_drawnSleep 82 = .ok (.invokestatic 448, 3) := by decide +kernel
theorem d_N_drawnSleep_85 : decode b_N_drawnSleep 85 = .ok (.ifCond .eq 7, 3) := by decide +kernel
theorem d_N_drawnSleep_88 : decode b_N_drawnSleep 88 = .ok (.iconst 1, 1) := by decide +kernel
theorem d_N_drawnSleep_89 : decode b_N_drawnSleep 89 = .ok (.goto 4, 3) := by decide +kernel
theorem d_N_drawnSleep_92 : decode b_N_drawnSleep 92 = .ok (.iconst 0, 1) := by decide +kernel
theorem d_N_drawnSleep_93 : decode b_N_drawnSleep 93 = .ok (.invokestatic 219, 3) := by decide +kernel
theorem d_N_drawnSleep_96 : decode b_N_drawnSleep 96 = .ok (.isub, 1) := by decide +kernel
theorem d_N_drawnSleep_97 : decode b_N_drawnSleep 97 = .ok (.istore 9, 2) := by decide +kernel
theorem d_N_drawnSleep_99 : decode b_N_drawnSleep 99 = .ok (.iload 6, 2) := by decide +kernel
theorem d_N_drawnSleep_101 : decode b_N_drawnSleep 101 = .ok (.iconst 1, 1) := by decide +kernel
theorem d_N_drawnSleep_102 : decode b_N_drawnSleep 102 = .ok (.iadd, 1) := by decide +kernel
theorem d_N_drawnSleep_103 : decode b_N_drawnSleep 103 = .ok (.aload_n 0, 1) := by decide +kernel
theorem d_N_drawnSleep_104 : decode b_N_drawnSleep 104 = .ok (.getfield 153, 3) := by decide +kernel
theorem d_N_drawnSleep_107 : decode b_N_drawnSleep 107 = .ok (.if_icmp .ge 10, 3) := by decide +kernel
theorem d_N_drawnSleep_110 : decode b_N_drawnSleep 110 = .ok (.iload 6, 2) := by decide +kernel
theorem d_N_drawnSleep_112 : decode b_N_drawnSleep 112 = .ok (.iconst 1, 1) := by decide +kernel
theorem d_N_drawnSleep_113 : decode b_N_drawnSleep 113 = .ok (.iadd, 1) := by decide +kernel
theorem d_N_drawnSleep_114 : decode b_N_drawnSleep 114 = .ok (.goto 4, 3) := by decide +kernel
theorem d_N_drawnSleep_117 : decode b_N_drawnSleep 117 = .ok (.iconst 0, 1) := by decide +kernel
theorem d_N_drawnSleep_118 : decode b_N_drawnSleep 118 = .ok (.istore 6, 2) := by decide +kernel
theorem d_N_drawnSleep_120 : decode b_N_drawnSleep 120 = .ok (.iinc 10 1, 3) := by decide +kernel
theorem d_N_drawnSleep_123 : decode b_N_drawnSleep 123 = .ok (.goto (-88), 3) := by decide +kernel
theorem d_N_drawnSleep_126 : decode b_N_drawnSleep 126 = .ok (.iload 5, 2) := by decide +kernel
theorem d_N_drawnSleep_128 : decode b_N_drawnSleep 128 = .ok (.iload 9, 2) := by decide +kernel
theorem d_N_drawnSleep_130 : decode b_N_drawnSleep 130 = .ok (.aload_n 0, 1) := by decide +kernel
theorem d_N_drawnSleep_131 : decode b_N_drawnSleep 131 = .ok (.getfield 184, 3) := by decide +kernel
theorem d_N_drawnSleep_134 : decode b_N_drawnSleep 134 = .ok (.iload 4, 2) := by decide +kernel
theorem d_N_drawnSleep_136 : decode b_N_drawnSleep 136 = .ok (.iaload, 1) := by decide +kernel
theorem d_N_drawnSleep_137 : decode b_N_drawnSleep 137 = .ok (.if_icmp .lt 7, 3) := by decide +kernel
theorem d_N_drawnSleep_140 : decode b_N_drawnSleep 140 = .ok (.iconst 1, 1) := by decide +kernel
theorem d_N_drawnSleep_141 : decode b_N_drawnSleep 141 = .ok (.goto 4, 3) := by decide +kernel
theorem d_N_drawnSleep_144 : decode b_N_drawnSleep 144 = .ok (.iconst 0, 1) := by decide +kernel
theorem d_N_drawnSleep_145 : decode b_N_drawnSleep 145 = .ok (.invokestatic 219, 3) := by decide +kernel
theorem d_N_drawnSleep_148 : decode b_N_drawnSleep 148 = .ok (.iadd, 1) := by decide +kernel
theorem d_N_drawnSleep_149 : decode b_N_drawnSleep 149 = .ok (.istore 5, 2) := by decide +kernel
theorem d_N_drawnSleep_151 : decode b_N_drawnSleep 151 = .ok (.iinc 8 1, 3) := by decide +kernel
theorem d_N_drawnSleep_154 : decode b_N_drawnSleep 154 = .ok (.goto (-142), 3) := by decide +kernel
theorem d_N_drawnSleep_157 : decode b_N_drawnSleep 157 = .ok (.iload 5, 2) := by decide +kernel
theorem d_N_drawnSleep_159 : decode b_N_drawnSleep 159 = .ok (.ireturn, 1) := by decide +kernel

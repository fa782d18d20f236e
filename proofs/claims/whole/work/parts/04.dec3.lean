theorem d_M_init_0 : decode b_M_init 0 = .ok (.aload_n 0, 1) := by decide +kernel
theorem d_M_init_1 : decode b_M_init 1 = .ok (.invokespecial 1, 3) := by decide +kernel
theorem d_M_init_4 : decode b_M_init 4 = .ok (.aload_n 0, 1) := by decide +kernel
theorem d_M_init_5 : decode b_M_init 5 = .ok (.sipush 2400, 3) := by decide +kernel
theorem d_M_init_8 : decode b_M_init 8 = .ok (.newarray .byte, 2) := by decide +kernel
theorem d_M_init_10 : decode b_M_init 10 = .ok (.putfield 7, 3) := by decide +kernel
theorem d_M_init_13 : decode b_M_init 13 = .ok (.aload_n 0, 1) := by decide +kernel
theorem d_M_init_14 : decode b_M_init 14 = .ok (.iconst 4, 1) := by decide +kernel
theorem d_M_init_15 : decode b_M_init 15 = .ok (.newarray .int, 2) := by decide +kernel
theorem d_M_init_17 : decode b_M_init 17 = .ok (.putfield 13, 3) := by decide +kernel
theorem d_M_init_20 : decode b_M_init 20 = .ok (.aload_n 0, 1) := by decide +kernel
theorem d_M_init_21 : decode b_M_init 21 = .ok (.iconst 4, 1) := by decide +kernel
theorem d_M_init_22 : decode b_M_init 22 = .ok (.newarray .int, 2) := by decide +kernel
theorem d_M_init_24 : decode b_M_init 24 = .ok (.putfield 17, 3) := by decide +kernel
theorem d_M_init_27 : decode b_M_init 27 = .ok (.aload_n 0, 1) := by decide +kernel
theorem d_M_init_28 : decode b_M_init 28 = .ok (.iconst 4, 1) := by decide +kernel
theorem d_M_init_29 : decode b_M_init 29 = .ok (.newarray .int, 2) := by decide +kernel
theorem d_M_init_31 : decode b_M_init 31 = .ok (.putfield 20, 3) := by decide +kernel
theorem d_M_init_34 : decode b_M_init 34 = .ok (.aload_n 0, 1) := by decide +kernel
theorem d_M_init_35 : decode b_M_init 35 = .ok (.bipush 20, 2) := by decide +kernel
theorem d_M_init_37 : decode b_M_init 37 = .ok (.newarray .int, 2) := by decide +kernel
theorem d_M_init_39 : decode b_M_init 39 = .ok (.putfield 23, 3) := by decide +kernel
theorem d_M_init_42 : decode b_M_init 42 = .ok (.aload_n 0, 1) := by decide +kernel
theorem d_M_init_43 : decode b_M_init 43 = .ok (.sipush 2496, 3) := by decide +kernel
theorem d_M_init_46 : decode b_M_init 46 = .ok (.newarray .int, 2) := by decide +kernel
theorem d_M_init_48 : decode b_M_init 48 = .ok (.putfield 26, 3) := by decide +kernel
theorem d_M_init_51 : decode b_M_init 51 = .ok (.aload_n 0, 1) := by decide +kernel
theorem d_M_init_52 : decode b_M_init 52 = .ok (.sipush 192, 3) := by decide +kernel
theorem d_M_init_55 : decode b_M_init 55 = .ok (.newarray .int, 2) := by decide +kernel
theorem d_M_init_57 : decode b_M_init 57 = .ok (.putfield 29, 3) := by decide +kernel
theorem d_M_init_60 : decode b_M_init 60 = .ok (.aload_n 0, 1) := by decide +kernel
theorem d_M_init_61 : decode b_M_init 61 = .ok (.sipush 488, 3) := by decide +kernel
theorem d_M_init_64 : decode b_M_init 64 = .ok (.newarray .int, 2) := by decide +kernel
theorem d_M_init_66 : decode b_M_init 66 = .ok (.putfield 32, 3) := by decide +kernel
theorem d_M_init_69 : decode b_M_init 69 = .ok (.aload_n 0, 1) := by decide +kernel
theorem d_M_init_70 : decode b_M_init 70 = .ok (.sipush 488, 3) := by decide +kernel
theorem d_M_init_73 : decode b_M_init 73 = .ok (.newarray .int, 2) := by decide +kernel
theorem d_M_init_75 : decode b_M_init 75 = .ok (.putfield 35, 3) := by decide +kernel
theorem d_M_init_78 : decode b_M_init 78 = .ok (.aload_n 0, 1) := by decide +kernel
theorem d_M_init_79 : decode b_M_init 79 = .ok (.bipush 64, 2) := by decide +kernel
theorem d_M_init_81 : decode b_M_init 81 = .ok (.newarray .int, 2) := by decide +kernel
theorem d_M_init_83 : decode b_M_init 83 = .ok (.putfield 38, 3) := by decide +kernel
theorem d_M_init_86 : decode b_M_init 86 = .ok (.aload_n 0, 1) := by decide +kernel
theorem d_M_init_87 : decode b_M_init 87 = .ok (.sipush 312, 3) := by decide +kernel
theorem d_M_init_90 : decode b_M_init 90 = .ok (.newarray .int, 2) := by decide +kernel
theorem d_M_init_92 : decode b_M_init 92 = .ok (.putfield 41, 3) := by decide +kernel
theorem d_M_init_95 : decode b_M_init 95 = .ok (.aload_n 0, 1) := by decide +kernel
theorem d_M_init_96 : decode b_M_init 96 = .ok (.iconst 4, 1) := by decide +kernel
theorem d_M_init_97 : decode b_M_init 97 = .ok (.newarray .int, 2) := by decide +kernel
theorem d_M_init_99 : decode b_M_init 99 = .ok (.putfield 44, 3) := by decide +kernel
theorem d_M_init_102 : decode b_M_init 102 = .ok (.aload_n 0, 1) := by decide +kernel
theorem d_M_init_103 : decode b_M_init 103 = .ok (.bipush 24, 2) := by decide +kernel
theorem d_M_init_105 : decode b_M_init 105 = .ok (.newarray .int, 2) := by decide +kernel
theorem d_M_init_107 : decode b_M_init 107 = .ok (.putfield 47, 3) := by decide +kernel
theorem d_M_init_110 : decode b_M_init 110 = .ok (.aload_n 0, 1) := by decide +kernel
theorem d_M_init_111 : decode b_M_init 111 = .ok (.bipush 96, 2) := by decide +kernel
theorem d_M_init_113 : decode b_M_init 113 = .ok (.newarray .int, 2) := by decide +kernel
theorem d_M_init_115 : decode b_M_init 115 = .ok (.putfield 50, 3) := by decide +kernel
theorem d_M_init_118 : decode b_M_init 118 = .ok (.aload_n 0, 1) := by decide +kernel
theorem d_M_init_119 : decode b_M_init 119 = .ok (.sipush 5000, 3) := by decide +kernel
theorem d_M_init_122 : decode b_M_init 122 = .ok (.newarray .long, 2) := by decide +kernel
theorem d_M_init_124 : decode b_M_init 124 = .ok (.putfield 53, 3) := by decide +kernel
theorem d_M_init_127 : decode b_M_init 127 = .ok (.aload_n 0, 1) := by decide +kernel
theorem d_M_init_128 : decode b_M_init 128 = .ok (.sipush 5000, 3) := by decide +kernel
theorem d_M_init_131 : decode b_M_init 131 = .ok (.newarray .long, 2) := by decide +kernel
theorem d_M_init_133 : decode b_M_init 133 = .ok (.putfield 57, 3) := by decide +kernel
theorem d_M_init_136 : decode b_M_init 136 = .ok (.aload_n 0, 1) := by decide +kernel
theorem d_M_init_137 : decode b_M_init 137 = .ok (.ldc 60, 2) := by decide +kernel
theorem d_M_init_139 : decode b_M_init 139 = .ok (.newarray .int, 2) := by decide +kernel
theorem d_M_init_141 : decode b_M_init 141 = .ok (.putfield 61, 3) := by decide +kernel
theorem d_M_init_144 : decode b_M_init 144 = .ok (.aload_n 0, 1) := by decide +kernel
theorem d_M_init_145 : decode b_M_init 145 = .ok (.bipush 48, 2) := by decide +kernel
theorem d_M_init_147 : decode b_M_init 147 = .ok (.newarray .int, 2) := by decide +kernel
theorem d_M_init_149 : decode b_M_init 149 = .ok (.putfield 64, 3) := by decide +kernel
theorem d_M_init_152 : decode b_M_init 152 = .ok (.aload_n 0, 1) := by decide +kernel
theorem d_M_init_153 : decode b_M_init 153 = .ok (.bipush 24, 2) := by decide +kernel
theorem d_M_init_155 : decode b_M_init 155 = .ok (.newarray .int, 2) := by decide +kernel
theorem d_M_init_157 : decode b_M_init 157 = .ok (.putfield 67, 3) := by decide +kernel
theorem d_M_init_160 : decode b_M_init 160 = .ok (.aload_n 0, 1) := by decide +kernel
theorem d_M_init_161 : decode b_M_init 161 = .ok (.bipush 6, 2) := by decide +kernel
theorem d_M_init_163 : decode b_M_init 163 = .ok (.newarray .int, 2) := by decide +kernel
theorem d_M_init_165 : decode b_M_init 165 = .ok (.putfield 70, 3) := by decide +kernel
theorem d_M_init_168 : decode b_M_init 168 = .ok (.aload_n 0, 1) := by decide +kernel
theorem d_M_init_169 : decode b_M_init 169 = .ok (.bipush 10, 2) := by decide +kernel
theorem d_M_init_171 : decode b_M_init 171 = .ok (.newarray .int, 2) := by decide +kernel
theorem d_M_init_173 : decode b_M_init 173 = .ok (.putfield 73, 3) := by decide +kernel
theorem d_M_init_176 : decode b_M_init 176 = .ok (.aload_n 0, 1) := by decide +kernel
theorem d_M_init_177 : decode b_M_init 177 = .ok (.iconst 3, 1) := by decide +kernel
theorem d_M_init_178 : decode b_M_init 178 = .ok (.newarray .boolean, 2) := by decide +kernel
theorem d_M_init_180 : decode b_M_init 180 = .ok (.putfield 76, 3) := by decide +kernel
theorem d_M_init_183 : decode b_M_init 183 = .ok (.aload_n 0, 1) := by decide +kernel
theorem d_M_init_184 : decode b_M_init 184 = .ok (.getfield 20, 3) := by decide +kernel
theorem d_M_init_187 : decode b_M_init 187 = .ok (.iconst 0, 1) := by decide +kernel
theorem d_M_init_188 : decode b_M_init 188 = .ok (.iconst (-1), 1) := by decide +kernel
theorem d_M_init_189 : decode b_M_init 189 = .ok (.iastore, 1) := by decide +kernel
theorem d_M_init_190 : decode b_M_init 190 = .ok (.return_, 1) := by decide +kernel
theorem d_M_feed_0 : decode b_M_feed 0 = .ok (.aload_n 0, 1) := by decide +kernel
theorem d_M_feed_1 : decode b_M_feed 1 = .ok (.iconst 0, 1) := by decide +kernel
theorem d_M_feed_2 : decode b_M_feed 2 = .ok (.putfield 80, 3) := by decide +kernel
theorem d_M_feed_5 : decode b_M_feed 5 = .ok (.aload_n 0, 1) := by decide +kernel
theorem d_M_feed_6 : decode b_M_feed 6 = .ok (.getfield 13, 3) := by decide +kernel
theorem d_M_feed_9 : decode b_M_feed 9 = .ok (.iconst 0, 1) := by decide +kernel
theorem d_M_feed_10 : decode b_M_feed 10 = .ok (.iaload, 1) := by decide +kernel
theorem d_M_feed_11 : decode b_M_feed 11 = .ok (.bipush 20, 2) := by decide +kernel
theorem d_M_feed_13 : decode b_M_feed 13 = .ok (.iadd, 1) := by decide +kernel
theorem d_M_feed_14 : decode b_M_feed 14 = .ok (.sipush 600, 3) := by decide +kernel
theorem d_M_feed_17 : decode b_M_feed 17 = .ok (.if_icmp .le 5, 3) := by decide +kernel
theorem d_M_feed_20 : decode b_M_feed 20 = .ok (.iconst (-1), 1) := by decide +kernel
theorem d_M_feed_21 : decode b_M_feed 21 = .ok (.ireturn, 1) := by decide +kernel
theorem d_M_feed_22 : decode b_M_feed 22 = .ok (.aload_n 0, 1) := by decide +kernel
theorem d_M_feed_23 : decode b_M_feed 23 = .ok (.iload_n 1, 1) := by decide +kernel
theorem d_M_feed_24 : decode b_M_feed 24 = .ok (.invokevirtual 92, 3) := by decide +kernel
theorem d_M_feed_27 : decode b_M_feed 27 = .ok (.aload_n 0, 1) := by decide +kernel
theorem d_M_feed_28 : decode b_M_feed 28 = .ok (.iload_n 2, 1) := by decide +kernel
theorem d_M_feed_29 : decode b_M_feed 29 = .ok (.invokevirtual 92, 3) := by decide +kernel
theorem d_M_feed_32 : decode b_M_feed 32 = .ok (.aload_n 0, 1) := by decide +kernel
theorem d_M_feed_33 : decode b_M_feed 33 = .ok (.iload_n 3, 1) := by decide +kernel
theorem d_M_feed_34 : decode b_M_feed 34 = .ok (.invokevirtual 92, 3) := by decide +kernel
theorem d_M_feed_37 : decode b_M_feed 37 = .ok (.aload_n 0, 1) := by decide +kernel
theorem d_M_feed_38 : decode b_M_feed 38 = .ok (.iload 4, 2) := by decide +kernel
theorem d_M_feed_40 : decode b_M_feed 40 = .ok (.invokevirtual 92, 3) := by decide +kernel
theorem d_M_feed_43 : decode b_M_feed 43 = .ok (.aload_n 0, 1) := by decide +kernel
theorem d_M_feed_44 : decode b_M_feed 44 = .ok (.iload 5, 2) := by decide +kernel
theorem d_M_feed_46 : decode b_M_feed 46 = .ok (.invokevirtual 92, 3) := by decide +kernel
theorem d_M_feed_49 : decode b_M_feed 49 = .ok (.aload_n 0, 1) := by decide +kernel
theorem d_M_feed_50 : decode b_M_feed 50 = .ok (.getfield 13, 3) := by decide +kernel
theorem d_M_feed_53 : decode b_M_feed 53 = .ok (.iconst 0, 1) := by decide +kernel
theorem d_M_feed_54 : decode b_M_feed 54 = .ok (.iaload, 1) := by decide +kernel
theorem d_M_feed_55 : decode b_M_feed 55 = .ok (.ireturn, 1) := by decide +kernel
theorem d_M_four_0 : decode b_M_four 0 = .ok (.bipush 24, 2) := by decide +kernel
theorem d_M_four_2 : decode b_M_four 2 = .ok (.istore_n 2, 1) := by decide +kernel
theorem d_M_four_3 : decode b_M_four 3 = .ok (.iload_n 2, 1) := by decide +kernel
theorem d_M_four_4 : decode b_M_four 4 = .ok (.ifCond .lt 34, 3) := by decide +kernel
theorem d_M_four_7 : decode b_M_four 7 = .ok (.aload_n 0, 1) := by decide +kernel
theorem d_M_four_8 : decode b_M_four 8 = .ok (.getfield 7, 3) := by decide +kernel
theorem d_M_four_11 : decode b_M_four 11 = .ok (.aload_n 0, 1) := by decide +kernel
theorem d_M_four_12 : decode b_M_four 12 = .ok (.getfield 13, 3) := by decide +kernel
theorem d_M_four_15 : decode b_M_four 15 = .ok (.iconst 0, 1) := by decide +kernel
theorem d_M_four_16 : decode b_M_four 16 = .ok (.iaload, 1) := by decide +kernel
theorem d_M_four_17 : decode b_M_four 17 = .ok (.iload_n 1, 1) := by decide +kernel
theorem d_M_four_18 : decode b_M_four 18 = .ok (.iload_n 2, 1) := by decide +kernel
theorem d_M_four_19 : decode b_M_four 19 = .ok (.ishr, 1) := by decide +kernel
theorem d_M_four_20 : decode b_M_four 20 = .ok (.i2b, 1) := by decide +kernel
theorem d_M_four_21 : decode b_M_four 21 = .ok (.bastore, 1) := by decide +kernel
theorem d_M_four_22 : decode b_M_four 22 = .ok (.aload_n 0, 1) := by decide +kernel
theorem d_M_four_23 : decode b_M_four 23 = .ok (.getfield 13, 3) := by decide +kernel
theorem d_M_four_26 : decode b_M_four 26 = .ok (.iconst 0, 1) := by decide +kernel
theorem d_M_four_27 : decode b_M_four 27 = .ok (.dup2, 1) := by decide +kernel
theorem d_M_four_28 : decode b_M_four 28 = .ok (.iaload, 1) := by decide +kernel
theorem d_M_four_29 : decode b_M_four 29 = .ok (.iconst 1, 1) := by decide +kernel
theorem d_M_four_30 : decode b_M_four 30 = .ok (.iadd, 1) := by decide +kernel
theorem d_M_four_31 : decode b_M_four 31 = .ok (.iastore, 1) := by decide +kernel
theorem d_M_four_32 : decode b_M_four 32 = .ok (.iinc 2 (-8), 3) := by decide +kernel
theorem d_M_four_35 : decode b_M_four 35 = .ok (.goto (-32), 3) := by decide +kernel
theorem d_M_four_38 : decode b_M_four 38 = .ok (.return_, 1) := by decide +kernel
theorem d_M_end_0 : decode b_M_end 0 = .ok (.aload_n 0, 1) := by decide +kernel
theorem d_M_end_1 : decode b_M_end 1 = .ok (.iconst 0, 1) := by decide +kernel
theorem d_M_end_2 : decode b_M_end 2 = .ok (.putfield 80, 3) := by decide +kernel
theorem d_M_end_5 : decode b_M_end 5 = .ok (.iload_n 1, 1) := by decide +kernel
theorem d_M_end_6 : decode b_M_end 6 = .ok (.iconst 0, 1) := by decide +kernel
theorem d_M_end_7 : decode b_M_end 7 = .ok (.aload_n 0, 1) := by decide +kernel
theorem d_M_end_8 : decode b_M_end 8 = .ok (.getfield 13, 3) := by decide +kernel
theorem d_M_end_11 : decode b_M_end 11 = .ok (.iconst 0, 1) := by decide +kernel
theorem d_M_end_12 : decode b_M_end 12 = .ok (.iaload, 1) := by decide +kernel
theorem d_M_end_13 : decode b_M_end 13 = .ok (.invokestatic 88, 3) := by decide +kernel
theorem d_M_end_16 : decode b_M_end 16 = .ok (.ifCond .ne 5, 3) := by decide +kernel
theorem d_M_end_19 : decode b_M_end 19 = .ok (.iconst (-1), 1) := by decide +kernel
theorem d_M_end_20 : decode b_M_end 20 = .ok (.ireturn, 1) := by decide +kernel
theorem d_M_end_21 : decode b_M_end 21 = .ok (.aload_n 0, 1) := by decide +kernel
theorem d_M_end_22 : decode b_M_end 22 = .ok (.getfield 13, 3) := by decide +kernel
theorem d_M_end_25 : decode b_M_end 25 = .ok (.iconst 0, 1) := by decide +kernel
theorem d_M_end_26 : decode b_M_end 26 = .ok (.iload_n 1, 1) := by decide +kernel
theorem d_M_end_27 : decode b_M_end 27 = .ok (.iastore, 1) := by decide +kernel
theorem d_M_end_28 : decode b_M_end 28 = .ok (.iload_n 1, 1) := by decide +kernel
theorem d_M_end_29 : decode b_M_end 29 = .ok (.ireturn, 1) := by decide +kernel
theorem d_M_in_0 : decode b_M_in 0 = .ok (.iload_n 0, 1) := by decide +kernel
theorem d_M_in_1 : decode b_M_in 1 = .ok (.iload_n 1, 1) := by decide +kernel
theorem d_M_in_2 : decode b_M_in 2 = .ok (.if_icmp .lt 12, 3) := by decide +kernel
theorem d_M_in_5 : decode b_M_in 5 = .ok (.iload_n 0, 1) := by decide +kernel
theorem d_M_in_6 : decode b_M_in 6 = .ok (.iload_n 2, 1) := by decide +kernel
theorem d_M_in_7 : decode b_M_in 7 = .ok (.if_icmp .gt 7, 3) := by decide +kernel
theorem d_M_in_10 : decode b_M_in 10 = .ok (.iconst 1, 1) := by decide +kernel
theorem d_M_in_11 : decode b_M_in 11 = .ok (.goto 4, 3) := by decide +kernel
theorem d_M_in_14 : decode b_M_in 14 = .ok (.iconst 0, 1) := by decide +kernel
theorem d_M_in_15 : decode b_M_in 15 = .ok (.ireturn, 1) := by decide +kernel
theorem d_M_text_0 : decode b_M_text 0 = .ok (.aload_n 0, 1) := by decide +kernel
theorem d_M_text_1 : decode b_M_text 1 = .ok (.iconst 0, 1) := by decide +kernel
theorem d_M_text_2 : decode b_M_text 2 = .ok (.putfield 80, 3) := by decide +kernel
theorem d_M_text_5 : decode b_M_text 5 = .ok (.aload_n 0, 1) := by decide +kernel
theorem d_M_text_6 : decode b_M_text 6 = .ok (.aload_n 0, 1) := by decide +kernel
theorem d_M_text_7 : decode b_M_text 7 = .ok (.getfield 13, 3) := by decide +kernel
theorem d_M_text_10 : decode b_M_text 10 = .ok (.iconst 0, 1) := by decide +kernel
theorem d_M_text_11 : decode b_M_text 11 = .ok (.iaload, 1) := by decide +kernel
theorem d_M_text_12 : decode b_M_text 12 = .ok (.putfield 99, 3) := by decide +kernel
theorem d_M_text_15 : decode b_M_text 15 = .ok (.aload_n 0, 1) := by decide +kernel
theorem d_M_text_16 : decode b_M_text 16 = .ok (.getfield 13, 3) := by decide +kernel
theorem d_M_text_19 : decode b_M_text 19 = .ok (.iconst 0, 1) := by decide +kernel
theorem d_M_text_20 : decode b_M_text 20 = .ok (.iconst 0, 1) := by decide +kernel
theorem d_M_text_21 : decode b_M_text 21 = .ok (.iastore, 1) := by decide +kernel
theorem d_M_text_22 : decode b_M_text 22 = .ok (.aload_n 0, 1) := by decide +kernel
theorem d_M_text_23 : decode b_M_text 23 = .ok (.getfield 17, 3) := by decide +kernel
theorem d_M_text_26 : decode b_M_text 26 = .ok (.iconst 0, 1) := by decide +kernel
theorem d_M_text_27 : decode b_M_text 27 = .ok (.iconst 0, 1) := by decide +kernel
theorem d_M_text_28 : decode b_M_text 28 = .ok (.iastore, 1) := by decide +kernel
theorem d_M_text_29 : decode b_M_text 29 = .ok (.aload_n 0, 1) := by decide +kernel
theorem d_M_text_30 : decode b_M_text 30 = .ok (.getfield 20, 3) := by decide +kernel
theorem d_M_text_33 : decode b_M_text 33 = .ok (.iconst 0, 1) := by decide +kernel
theorem d_M_text_34 : decode b_M_text 34 = .ok (.iconst (-1), 1) := by decide +kernel
theorem d_M_text_35 : decode b_M_text 35 = .ok (.iastore, 1) := by decide +kernel
theorem d_M_text_36 : decode b_M_text 36 = .ok (.iload_n 1, 1) := by decide +kernel
theorem d_M_text_37 : decode b_M_text 37 = .ok (.iconst 0, 1) := by decide +kernel
theorem d_M_text_38 : decode b_M_text 38 = .ok (.iconst 4, 1) := by decide +kernel
theorem d_M_text_39 : decode b_M_text 39 = .ok (.invokestatic 88, 3) := by decide +kernel
theorem d_M_text_42 : decode b_M_text 42 = .ok (.ifCond .eq 30, 3) := by decide +kernel
theorem d_M_text_45 : decode b_M_text 45 = .ok (.iload_n 2, 1) := by decide +kernel
theorem d_M_text_46 : decode b_M_text 46 = .ok (.iconst (-1), 1) := by decide +kernel
theorem d_M_text_47 : decode b_M_text 47 = .ok (.if_icmp .ne 16, 3) := by decide +kernel
theorem d_M_text_50 : decode b_M_text 50 = .ok (.aload_n 0, 1) := by decide +kernel
theorem d_M_text_51 : decode b_M_text 51 = .ok (.getfield 23, 3) := by decide +kernel
theorem d_M_text_54 : decode b_M_text 54 = .ok (.iload_n 1, 1) := by decide +kernel
theorem d_M_text_55 : decode b_M_text 55 = .ok (.iaload, 1) := by decide +kernel
theorem d_M_text_56 : decode b_M_text 56 = .ok (.iconst 2, 1) := by decide +kernel
theorem d_M_text_57 : decode b_M_text 57 = .ok (.if_icmp .ne 18, 3) := by decide +kernel
theorem d_M_text_60 : decode b_M_text 60 = .ok (.goto 12, 3) := by decide +kernel
theorem d_M_text_63 : decode b_M_text 63 = .ok (.aload_n 0, 1) := by decide +kernel
theorem d_M_text_64 : decode b_M_text 64 = .ok (.iload_n 1, 1) := by decide +kernel
theorem d_M_text_65 : decode b_M_text 65 = .ok (.iload_n 2, 1) := by decide +kernel
theorem d_M_text_66 : decode b_M_text 66 = .ok (.invokevirtual 227, 3) := by decide +kernel
theorem d_M_text_69 : decode b_M_text 69 = .ok (.ifCond .ne 6, 3) := by decide +kernel
theorem d_M_text_72 : decode b_M_text 72 = .ok (.bipush (-2), 2) := by decide +kernel
theorem d_M_text_74 : decode b_M_text 74 = .ok (.ireturn, 1) := by decide +kernel
theorem d_M_text_75 : decode b_M_text 75 = .ok (.aload_n 0, 1) := by decide +kernel
theorem d_M_text_76 : decode b_M_text 76 = .ok (.iload_n 1, 1) := by decide +kernel
theorem d_M_text_77 : decode b_M_text 77 = .ok (.invokevirtual 231, 3) := by decide +kernel
theorem d_M_text_80 : decode b_M_text 80 = .ok (.ifCond .ne 5, 3) := by decide +kernel
theorem d_M_text_83 : decode b_M_text 83 = .ok (.iconst (-1), 1) := by decide +kernel
theorem d_M_text_84 : decode b_M_text 84 = .ok (.ireturn, 1) := by decide +kernel
theorem d_M_text_85 : decode b_M_text 85 = .ok (.iload_n 2, 1) := by decide +kernel
theorem d_M_text_86 : decode b_M_text 86 = .ok (.iconst (-1), 1) := by decide +kernel
theorem d_M_text_87 : decode b_M_text 87 = .ok (.if_icmp .ne 12, 3) := by decide +kernel
theorem d_M_text_90 : decode b_M_text 90 = .ok (.aload_n 0, 1) := by decide +kernel
theorem d_M_text_91 : decode b_M_text 91 = .ok (.getfield 23, 3) := by decide +kernel
theorem d_M_text_94 : decode b_M_text 94 = .ok (.iload_n 1, 1) := by decide +kernel
theorem d_M_text_95 : decode b_M_text 95 = .ok (.iaload, 1) := by decide +kernel
theorem d_M_text_96 : decode b_M_text 96 = .ok (.goto 4, 3) := by decide +kernel
theorem d_M_text_99 : decode b_M_text 99 = .ok (.iload_n 2, 1) := by decide +kernel
theorem d_M_text_100 : decode b_M_text 100 = .ok (.istore_n 3, 1) := by decide +kernel
theorem d_M_text_101 : decode b_M_text 101 = .ok (.aload_n 0, 1) := by decide +kernel
theorem d_M_text_102 : decode b_M_text 102 = .ok (.getfield 23, 3) := by decide +kernel
theorem d_M_text_105 : decode b_M_text 105 = .ok (.iload_n 1, 1) := by decide +kernel
theorem d_M_text_106 : decode b_M_text 106 = .ok (.dup2, 1) := by decide +kernel
theorem d_M_text_107 : decode b_M_text 107 = .ok (.iaload, 1) := by decide +kernel
theorem d_M_text_108 : decode b_M_text 108 = .ok (.iload_n 2, 1) := by decide +kernel
theorem d_M_text_109 : decode b_M_text 109 = .ok (.iconst (-1), 1) := by decide +kernel
theorem d_M_text_110 : decode b_M_text 110 = .ok (.if_icmp .ne 7, 3) := by decide +kernel
theorem d_M_text_113 : decode b_M_text 113 = .ok (.iconst 1, 1) := by decide +kernel
theorem d_M_text_114 : decode b_M_text 114 = .ok (.goto 4, 3) := by decide +kernel
theorem d_M_text_117 : decode b_M_text 117 = .ok (.iconst 0, 1) := by decide +kernel
theorem d_M_text_118 : decode b_M_text 118 = .ok (.iadd, 1) := by decide +kernel
theorem d_M_text_119 : decode b_M_text 119 = .ok (.iastore, 1) := by decide +kernel
theorem d_M_text_120 : decode b_M_text 120 = .ok (.aload_n 0, 1) := by decide +kernel
theorem d_M_text_121 : decode b_M_text 121 = .ok (.iload_n 1, 1) := by decide +kernel
theorem d_M_text_122 : decode b_M_text 122 = .ok (.iload_n 3, 1) := by decide +kernel
theorem d_M_text_123 : decode b_M_text 123 = .ok (.invokevirtual 234, 3) := by decide +kernel
theorem d_M_text_126 : decode b_M_text 126 = .ok (.iload_n 3, 1) := by decide +kernel
theorem d_M_text_127 : decode b_M_text 127 = .ok (.ireturn, 1) := by decide +kernel
theorem d_M_is_0 : decode b_M_is 0 = .ok (.iload_n 2, 1) := by decide +kernel
theorem d_M_is_1 : decode b_M_is 1 = .ok (.iconst 0, 1) := by decide +kernel
theorem d_M_is_2 : decode b_M_is 2 = .ok (.aload_n 0, 1) := by decide +kernel
theorem d_M_is_3 : decode b_M_is 3 = .ok (.getfield 23, 3) := by decide +kernel
theorem d_M_is_6 : decode b_M_is 6 = .ok (.iload_n 1, 1) := by decide +kernel
theorem d_M_is_7 : decode b_M_is 7 = .ok (.iaload, 1) := by decide +kernel
theorem d_M_is_8 : decode b_M_is 8 = .ok (.iconst 1, 1) := by decide +kernel
theorem d_M_is_9 : decode b_M_is 9 = .ok (.isub, 1) := by decide +kernel
theorem d_M_is_10 : decode b_M_is 10 = .ok (.invokestatic 88, 3) := by decide +kernel
theorem d_M_is_13 : decode b_M_is 13 = .ok (.ireturn, 1) := by decide +kernel
theorem d_M_readText_0 : decode b_M_readText 0 = .ok (.iconst 0, 1) := by decide +kernel
theorem d_M_readText_1 : decode b_M_readText 1 = .ok (.istore_n 2, 1) := by decide +kernel
theorem d_M_readText_2 : decode b_M_readText 2 = .ok (.iload_n 2, 1) := by decide +kernel
theorem d_M_readText_3 : decode b_M_readText 3 = .ok (.sipush 312, 3) := by decide +kernel
theorem d_M_readText_6 : decode b_M_readText 6 = .ok (.if_icmp .ge 25, 3) := by decide +kernel
theorem d_M_readText_9 : decode b_M_readText 9 = .ok (.aload_n 0, 1) := by decide +kernel
theorem d_M_readText_10 : decode b_M_readText 10 = .ok (.getfield 41, 3) := by decide +kernel
theorem d_M_readText_13 : decode b_M_readText 13 = .ok (.iload_n 2, 1) := by decide +kernel
theorem d_M_readText_14 : decode b_M_readText 14 = .ok (.iload_n 1, 1) := by decide +kernel
theorem d_M_readText_15 : decode b_M_readText 15 = .ok (.iconst 1, 1) := by decide +kernel
theorem d_M_readText_16 : decode b_M_readText 16 = .ok (.if_icmp .ne 7, 3) := by decide +kernel
theorem d_M_readText_19 : decode b_M_readText 19 = .ok (.iconst 2, 1) := by decide +kernel
theorem d_M_readText_20 : decode b_M_readText 20 = .ok (.goto 4, 3) := by decide +kernel
theorem d_M_readText_23 : decode b_M_readText 23 = .ok (.iconst 0, 1) := by decide +kernel
theorem d_M_readText_24 : decode b_M_readText 24 = .ok (.iastore, 1) := by decide +kernel
theorem d_M_readText_25 : decode b_M_readText 25 = .ok (.iinc 2 1, 3) := by decide +kernel
theorem d_M_readText_28 : decode b_M_readText 28 = .ok (.goto (-26), 3) := by decide +kernel
theorem d_M_readText_31 : decode b_M_readText 31 = .ok (.iload_n 1, 1) := by decide +kernel
theorem d_M_readText_32 : decode b_M_readText 32 = .ok (.ifCond .ne 25, 3) := by decide +kernel
theorem d_M_readText_35 : decode b_M_readText 35 = .ok (.aload_n 0, 1) := by decide +kernel
theorem d_M_readText_36 : decode b_M_readText 36 = .ok (.getfield 41, 3) := by decide +kernel
theorem d_M_readText_39 : decode b_M_readText 39 = .ok (.iconst 0, 1) := by decide +kernel
theorem d_M_readText_40 : decode b_M_readText 40 = .ok (.bipush 12, 2) := by decide +kernel
theorem d_M_readText_42 : decode b_M_readText 42 = .ok (.iastore, 1) := by decide +kernel
theorem d_M_readText_43 : decode b_M_readText 43 = .ok (.aload_n 0, 1) := by decide +kernel
theorem d_M_readText_44 : decode b_M_readText 44 = .ok (.getfield 41, 3) := by decide +kernel
theorem d_M_readText_47 : decode b_M_readText 47 = .ok (.iconst 1, 1) := by decide +kernel
theorem d_M_readText_48 : decode b_M_readText 48 = .ok (.iconst 1, 1) := by decide +kernel
theorem d_M_readText_49 : decode b_M_readText 49 = .ok (.iastore, 1) := by decide +kernel
theorem d_M_readText_50 : decode b_M_readText 50 = .ok (.aload_n 0, 1) := by decide +kernel
theorem d_M_readText_51 : decode b_M_readText 51 = .ok (.getfield 41, 3) := by decide +kernel
theorem d_M_readText_54 : decode b_M_readText 54 = .ok (.iconst 3, 1) := by decide +kernel
theorem d_M_readText_55 : decode b_M_readText 55 = .ok (.iconst 1, 1) := by decide +kernel
theorem d_M_readText_56 : decode b_M_readText 56 = .ok (.iastore, 1) := by decide +kernel
theorem d_M_readText_57 : decode b_M_readText 57 = .ok (.aload_n 0, 1) := by decide +kernel
theorem d_M_readText_58 : decode b_M_readText 58 = .ok (.iconst (-1), 1) := by decide +kernel
theorem d_M_readText_59 : decode b_M_readText 59 = .ok (.putfield 146, 3) := by decide +kernel
theorem d_M_readText_62 : decode b_M_readText 62 = .ok (.aload_n 0, 1) := by decide +kernel
theorem d_M_readText_63 : decode b_M_readText 63 = .ok (.iconst (-1), 1) := by decide +kernel
theorem d_M_readText_64 : decode b_M_readText 64 = .ok (.putfield 153, 3) := by decide +kernel
theorem d_M_readText_67 : decode b_M_readText 67 = .ok (.aload_n 0, 1) := by decide +kernel
theorem d_M_readText_68 : decode b_M_readText 68 = .ok (.iconst 0, 1) := by decide +kernel
theorem d_M_readText_69 : decode b_M_readText 69 = .ok (.putfield 187, 3) := by decide +kernel
theorem d_M_readText_72 : decode b_M_readText 72 = .ok (.aload_n 0, 1) := by decide +kernel
theorem d_M_readText_73 : decode b_M_readText 73 = .ok (.iconst 0, 1) := by decide +kernel
theorem d_M_readText_74 : decode b_M_readText 74 = .ok (.putfield 96, 3) := by decide +kernel
theorem d_M_readText_77 : decode b_M_readText 77 = .ok (.aload_n 0, 1) := by decide +kernel
theorem d_M_readText_78 : decode b_M_readText 78 = .ok (.iconst 0, 1) := by decide +kernel
theorem d_M_readText_79 : decode b_M_readText 79 = .ok (.putfield 122, 3) := by decide +kernel
theorem d_M_readText_82 : decode b_M_readText 82 = .ok (.aload_n 0, 1) := by decide +kernel
theorem d_M_readText_83 : decode b_M_readText 83 = .ok (.invokevirtual 140, 3) := by decide +kernel
theorem d_M_readText_86 : decode b_M_readText 86 = .ok (.aload_n 0, 1) := by decide +kernel
theorem d_M_readText_87 : decode b_M_readText 87 = .ok (.iload_n 1, 1) := by decide +kernel
theorem d_M_readText_88 : decode b_M_readText 88 = .ok (.invokevirtual 219, 3) := by decide +kernel
theorem d_M_readText_91 : decode b_M_readText 91 = .ok (.istore_n 2, 1) := by decide +kernel
theorem d_M_readText_92 : decode b_M_readText 92 = .ok (.iload_n 2, 1) := by decide +kernel
theorem d_M_readText_93 : decode b_M_readText 93 = .ok (.ifCond .eq 63, 3) := by decide +kernel
theorem d_M_readText_96 : decode b_M_readText 96 = .ok (.aload_n 0, 1) := by decide +kernel
theorem d_M_readText_97 : decode b_M_readText 97 = .ok (.getfield 122, 3) := by decide +kernel
theorem d_M_readText_100 : decode b_M_readText 100 = .ok (.ifCond .ne 56, 3) := by decide +kernel
theorem d_M_readText_103 : decode b_M_readText 103 = .ok (.iload_n 1, 1) := by decide +kernel
theorem d_M_readText_104 : decode b_M_readText 104 = .ok (.ifCond .ne 29, 3) := by decide +kernel
theorem d_M_readText_107 : decode b_M_readText 107 = .ok (.aload_n 0, 1) := by decide +kernel
theorem d_M_readText_108 : decode b_M_readText 108 = .ok (.getfield 146, 3) := by decide +kernel
theorem d_M_readText_111 : decode b_M_readText 111 = .ok (.aload_n 0, 1) := by decide +kernel
theorem d_M_readText_112 : decode b_M_readText 112 = .ok (.getfield 41, 3) := by decide +kernel
theorem d_M_readText_115 : decode b_M_readText 115 = .ok (.iconst 4, 1) := by decide +kernel
theorem d_M_readText_116 : decode b_M_readText 116 = .ok (.iaload, 1) := by decide +kernel
theorem d_M_readText_117 : decode b_M_readText 117 = .ok (.if_icmp .ge 30, 3) := by decide +kernel
theorem d_M_readText_120 : decode b_M_readText 120 = .ok (.aload_n 0, 1) := by decide +kernel
theorem d_M_readText_121 : decode b_M_readText 121 = .ok (.getfield 153, 3) := by decide +kernel
theorem d_M_readText_124 : decode b_M_readText 124 = .ok (.aload_n 0, 1) := by decide +kernel
theorem d_M_readText_125 : decode b_M_readText 125 = .ok (.getfield 41, 3) := by decide +kernel
theorem d_M_readText_128 : decode b_M_readText 128 = .ok (.iconst 0, 1) := by decide +kernel
theorem d_M_readText_129 : decode b_M_readText 129 = .ok (.iaload, 1) := by decide +kernel
theorem d_M_readText_130 : decode b_M_readText 130 = .ok (.if_icmp .ge 17, 3) := by decide +kernel
theorem d_M_readText_133 : decode b_M_readText 133 = .ok (.iload_n 1, 1) := by decide +kernel
theorem d_M_readText_134 : decode b_M_readText 134 = .ok (.iconst 2, 1) := by decide +kernel
theorem d_M_readText_135 : decode b_M_readText 135 = .ok (.if_icmp .ne 21, 3) := by decide +kernel
theorem d_M_readText_138 : decode b_M_readText 138 = .ok (.aload_n 0, 1) := by decide +kernel
theorem d_M_readText_139 : decode b_M_readText 139 = .ok (.getfield 187, 3) := by decide +kernel
theorem d_M_readText_142 : decode b_M_readText 142 = .ok (.bipush 96, 2) := by decide +kernel
theorem d_M_readText_144 : decode b_M_readText 144 = .ok (.if_icmp .le 12, 3) := by decide +kernel
theorem d_M_readText_147 : decode b_M_readText 147 = .ok (.aload_n 0, 1) := by decide +kernel
theorem d_M_readText_148 : decode b_M_readText 148 = .ok (.iconst 4, 1) := by decide +kernel
theorem d_M_readText_149 : decode b_M_readText 149 = .ok (.aload_n 0, 1) := by decide +kernel
theorem d_M_readText_150 : decode b_M_readText 150 = .ok (.getfield 106, 3) := by decide +kernel
theorem d_M_readText_153 : decode b_M_readText 153 = .ok (.invokevirtual 132, 3) := by decide +kernel
theorem d_M_readText_156 : decode b_M_readText 156 = .ok (.aload_n 0, 1) := by decide +kernel
theorem d_M_readText_157 : decode b_M_readText 157 = .ok (.getfield 17, 3) := by decide +kernel
theorem d_M_readText_160 : decode b_M_readText 160 = .ok (.iconst 0, 1) := by decide +kernel
theorem d_M_readText_161 : decode b_M_readText 161 = .ok (.iload_n 2, 1) := by decide +kernel
theorem d_M_readText_162 : decode b_M_readText 162 = .ok (.ifCond .eq 10, 3) := by decide +kernel
theorem d_M_readText_165 : decode b_M_readText 165 = .ok (.aload_n 0, 1) := by decide +kernel
theorem d_M_readText_166 : decode b_M_readText 166 = .ok (.getfield 122, 3) := by decide +kernel
theorem d_M_readText_169 : decode b_M_readText 169 = .ok (.goto 4, 3) := by decide +kernel
theorem d_M_readText_172 : decode b_M_readText 172 = .ok (.iconst 1, 1) := by decide +kernel
theorem d_M_readText_173 : decode b_M_readText 173 = .ok (.iastore, 1) := by decide +kernel
theorem d_M_readText_174 : decode b_M_readText 174 = .ok (.aload_n 0, 1) := by decide +kernel
theorem d_M_readText_175 : decode b_M_readText 175 = .ok (.getfield 20, 3) := by decide +kernel
theorem d_M_readText_178 : decode b_M_readText 178 = .ok (.iconst 0, 1) := by decide +kernel
theorem d_M_readText_179 : decode b_M_readText 179 = .ok (.iload_n 2, 1) := by decide +kernel
theorem d_M_readText_180 : decode b_M_readText 180 = .ok (.ifCond .ne 10, 3) := by decide +kernel
theorem d_M_readText_183 : decode b_M_readText 183 = .ok (.aload_n 0, 1) := by decide +kernel
theorem d_M_readText_184 : decode b_M_readText 184 = .ok (.getfield 119, 3) := by decide +kernel
theorem d_M_readText_187 : decode b_M_readText 187 = .ok (.goto 18, 3) := by decide +kernel
theorem d_M_readText_190 : decode b_M_readText 190 = .ok (.aload_n 0, 1) := by decide +kernel
theorem d_M_readText_191 : decode b_M_readText 191 = .ok (.getfield 122, 3) := by decide +kernel
theorem d_M_readText_194 : decode b_M_readText 194 = .ok (.ifCond .le 10, 3) := by decide +kernel
theorem d_M_readText_197 : decode b_M_readText 197 = .ok (.aload_n 0, 1) := by decide +kernel
theorem d_M_readText_198 : decode b_M_readText 198 = .ok (.getfield 125, 3) := by decide +kernel
theorem d_M_readText_201 : decode b_M_readText 201 = .ok (.goto 4, 3) := by decide +kernel
theorem d_M_readText_204 : decode b_M_readText 204 = .ok (.iconst (-1), 1) := by decide +kernel
theorem d_M_readText_205 : decode b_M_readText 205 = .ok (.iastore, 1) := by decide +kernel
theorem d_M_readText_206 : decode b_M_readText 206 = .ok (.aload_n 0, 1) := by decide +kernel
theorem d_M_readText_207 : decode b_M_readText 207 = .ok (.getfield 17, 3) := by decide +kernel
theorem d_M_readText_210 : decode b_M_readText 210 = .ok (.iconst 0, 1) := by decide +kernel
theorem d_M_readText_211 : decode b_M_readText 211 = .ok (.iaload, 1) := by decide +kernel
theorem d_M_readText_212 : decode b_M_readText 212 = .ok (.ifCond .ne 7, 3) := by decide +kernel
theorem d_M_readText_215 : decode b_M_readText 215 = .ok (.iconst 1, 1) := by decide +kernel
theorem d_M_readText_216 : decode b_M_readText 216 = .ok (.goto 4, 3) := by decide +kernel
theorem d_M_readText_219 : decode b_M_readText 219 = .ok (.iconst 0, 1) := by decide +kernel
theorem d_M_readText_220 : decode b_M_readText 220 = .ok (.ireturn, 1) := by decide +kernel
theorem d_M_token_0 : decode b_M_token 0 = .ok (.aload_n 0, 1) := by decide +kernel
theorem d_M_token_1 : decode b_M_token 1 = .ok (.invokevirtual 102, 3) := by decide +kernel
theorem d_M_token_4 : decode b_M_token 4 = .ok (.bipush 10, 2) := by decide +kernel
theorem d_M_token_6 : decode b_M_token 6 = .ok (.if_icmp .eq 12, 3) := by decide +kernel
theorem d_M_token_9 : decode b_M_token 9 = .ok (.aload_n 0, 1) := by decide +kernel
theorem d_M_token_10 : decode b_M_token 10 = .ok (.invokevirtual 102, 3) := by decide +kernel
theorem d_M_token_13 : decode b_M_token 13 = .ok (.bipush 32, 2) := by decide +kernel
theorem d_M_token_15 : decode b_M_token 15 = .ok (.if_icmp .ne 16, 3) := by decide +kernel
theorem d_M_token_18 : decode b_M_token 18 = .ok (.aload_n 0, 1) := by decide +kernel
theorem d_M_token_19 : decode b_M_token 19 = .ok (.dup, 1) := by decide +kernel
theorem d_M_token_20 : decode b_M_token 20 = .ok (.getfield 96, 3) := by decide +kernel
theorem d_M_token_23 : decode b_M_token 23 = .ok (.iconst 1, 1) := by decide +kernel
theorem d_M_token_24 : decode b_M_token 24 = .ok (.iadd, 1) := by decide +kernel
theorem d_M_token_25 : decode b_M_token 25 = .ok (.putfield 96, 3) := by decide +kernel
theorem d_M_token_28 : decode b_M_token 28 = .ok (.goto (-28), 3) := by decide +kernel
theorem d_M_token_31 : decode b_M_token 31 = .ok (.aload_n 0, 1) := by decide +kernel
theorem d_M_token_32 : decode b_M_token 32 = .ok (.aload_n 0, 1) := by decide +kernel
theorem d_M_token_33 : decode b_M_token 33 = .ok (.getfield 96, 3) := by decide +kernel
theorem d_M_token_36 : decode b_M_token 36 = .ok (.putfield 106, 3) := by decide +kernel
theorem d_M_token_39 : decode b_M_token 39 = .ok (.aload_n 0, 1) := by decide +kernel
theorem d_M_token_40 : decode b_M_token 40 = .ok (.invokevirtual 102, 3) := by decide +kernel
theorem d_M_token_43 : decode b_M_token 43 = .ok (.istore_n 1, 1) := by decide +kernel
theorem d_M_token_44 : decode b_M_token 44 = .ok (.aload_n 0, 1) := by decide +kernel
theorem d_M_token_45 : decode b_M_token 45 = .ok (.lconst 0, 1) := by decide +kernel
theorem d_M_token_46 : decode b_M_token 46 = .ok (.putfield 109, 3) := by decide +kernel
theorem d_M_token_49 : decode b_M_token 49 = .ok (.iconst 0, 1) := by decide +kernel
theorem d_M_token_50 : decode b_M_token 50 = .ok (.istore_n 2, 1) := by decide +kernel
theorem d_M_token_51 : decode b_M_token 51 = .ok (.iload_n 1, 1) := by decide +kernel
theorem d_M_token_52 : decode b_M_token 52 = .ok (.ifCond .ge 11, 3) := by decide +kernel
theorem d_M_token_55 : decode b_M_token 55 = .ok (.aload_n 0, 1) := by decide +kernel
theorem d_M_token_56 : decode b_M_token 56 = .ok (.iconst 0, 1) := by decide +kernel
theorem d_M_token_57 : decode b_M_token 57 = .ok (.putfield 113, 3) := by decide +kernel
theorem d_M_token_60 : decode b_M_token 60 = .ok (.goto 206, 3) := by decide +kernel
theorem d_M_token_63 : decode b_M_token 63 = .ok (.iload_n 1, 1) := by decide +kernel
theorem d_M_token_64 : decode b_M_token 64 = .ok (.bipush 97, 2) := by decide +kernel
theorem d_M_token_66 : decode b_M_token 66 = .ok (.bipush 122, 2) := by decide +kernel
theorem d_M_token_68 : decode b_M_token 68 = .ok (.invokestatic 88, 3) := by decide +kernel
theorem d_M_token_71 : decode b_M_token 71 = .ok (.ifCond .eq 76, 3) := by decide +kernel
theorem d_M_token_74 : decode b_M_token 74 = .ok (.aload_n 0, 1) := by decide +kernel
theorem d_M_token_75 : decode b_M_token 75 = .ok (.invokevirtual 102, 3) := by decide +kernel
theorem d_M_token_78 : decode b_M_token 78 = .ok (.bipush 97, 2) := by decide +kernel
theorem d_M_token_80 : decode b_M_token 80 = .ok (.bipush 122, 2) := by decide +kernel
theorem d_M_token_82 : decode b_M_token 82 = .ok (.invokestatic 88, 3) := by decide +kernel
theorem d_M_token_85 : decode b_M_token 85 = .ok (.ifCond .eq 36, 3) := by decide +kernel
theorem d_M_token_88 : decode b_M_token 88 = .ok (.aload_n 0, 1) := by decide +kernel
theorem d_M_token_89 : decode b_M_token 89 = .ok (.aload_n 0, 1) := by decide +kernel
theorem d_M_token_90 : decode b_M_token 90 = .ok (.getfield 109, 3) := by decide +kernel
theorem d_M_token_93 : decode b_M_token 93 = .ok (.bipush 8, 2) := by decide +kernel
theorem d_M_token_95 : decode b_M_token 95 = .ok (.lshl, 1) := by decide +kernel
theorem d_M_token_96 : decode b_M_token 96 = .ok (.aload_n 0, 1) := by decide +kernel
theorem d_M_token_97 : decode b_M_token 97 = .ok (.invokevirtual 102, 3) := by decide +kernel
theorem d_M_token_100 : decode b_M_token 100 = .ok (.i2l, 1) := by decide +kernel
theorem d_M_token_101 : decode b_M_token 101 = .ok (.lor, 1) := by decide +kernel
theorem d_M_token_102 : decode b_M_token 102 = .ok (.putfield 109, 3) := by decide +kernel
theorem d_M_token_105 : decode b_M_token 105 = .ok (.aload_n 0, 1) := by decide +kernel
theorem d_M_token_106 : decode b_M_token 106 = .ok (.dup, 1) := by decide +kernel
theorem d_M_token_107 : decode b_M_token 107 = .ok (.getfield 96, 3) := by decide +kernel
theorem d_M_token_110 : decode b_M_token 110 = .ok (.iconst 1, 1) := by decide +kernel
theorem d_M_token_111 : decode b_M_token 111 = .ok (.iadd, 1) := by decide +kernel
theorem d_M_token_112 : decode b_M_token 112 = .ok (.putfield 96, 3) := by decide +kernel
theorem d_M_token_115 : decode b_M_token 115 = .ok (.iinc 2 1, 3) := by decide +kernel
theorem d_M_token_118 : decode b_M_token 118 = .ok (.goto (-44), 3) := by decide +kernel
theorem d_M_token_121 : decode b_M_token 121 = .ok (.aload_n 0, 1) := by decide +kernel
theorem d_M_token_122 : decode b_M_token 122 = .ok (.iload_n 2, 1) := by decide +kernel
theorem d_M_token_123 : decode b_M_token 123 = .ok (.bipush 8, 2) := by decide +kernel
theorem d_M_token_125 : decode b_M_token 125 = .ok (.if_icmp .le 7, 3) := by decide +kernel
theorem d_M_token_128 : decode b_M_token 128 = .ok (.lconst 0, 1) := by decide +kernel
theorem d_M_token_129 : decode b_M_token 129 = .ok (.goto 7, 3) := by decide +kernel
theorem d_M_token_132 : decode b_M_token 132 = .ok (.aload_n 0, 1) := by decide +kernel
theorem d_M_token_133 : decode b_M_token 133 = .ok (.getfield 109, 3) := by decide +kernel
theorem d_M_token_136 : decode b_M_token 136 = .ok (.putfield 109, 3) := by decide +kernel
theorem d_M_token_139 : decode b_M_token 139 = .ok (.aload_n 0, 1) := by decide +kernel
theorem d_M_token_140 : decode b_M_token 140 = .ok (.iconst 2, 1) := by decide +kernel
theorem d_M_token_141 : decode b_M_token 141 = .ok (.putfield 113, 3) := by decide +kernel
theorem d_M_token_144 : decode b_M_token 144 = .ok (.goto 122, 3) := by decide +kernel
theorem d_M_token_147 : decode b_M_token 147 = .ok (.iload_n 1, 1) := by decide +kernel
theorem d_M_token_148 : decode b_M_token 148 = .ok (.bipush 48, 2) := by decide +kernel
theorem d_M_token_150 : decode b_M_token 150 = .ok (.bipush 57, 2) := by decide +kernel
theorem d_M_token_152 : decode b_M_token 152 = .ok (.invokestatic 88, 3) := by decide +kernel
theorem d_M_token_155 : decode b_M_token 155 = .ok (.ifCond .eq 86, 3) := by decide +kernel
theorem d_M_token_158 : decode b_M_token 158 = .ok (.aload_n 0, 1) := by decide +kernel
theorem d_M_token_159 : decode b_M_token 159 = .ok (.iconst 0, 1) := by decide +kernel
theorem d_M_token_160 : decode b_M_token 160 = .ok (.putfield 116, 3) := by decide +kernel
theorem d_M_token_163 : decode b_M_token 163 = .ok (.aload_n 0, 1) := by decide +kernel
theorem d_M_token_164 : decode b_M_token 164 = .ok (.invokevirtual 102, 3) := by decide +kernel
theorem d_M_token_167 : decode b_M_token 167 = .ok (.bipush 48, 2) := by decide +kernel
theorem d_M_token_169 : decode b_M_token 169 = .ok (.bipush 57, 2) := by decide +kernel
theorem d_M_token_171 : decode b_M_token 171 = .ok (.invokestatic 88, 3) := by decide +kernel
theorem d_M_token_174 : decode b_M_token 174 = .ok (.ifCond .eq 50, 3) := by decide +kernel
theorem d_M_token_177 : decode b_M_token 177 = .ok (.aload_n 0, 1) := by decide +kernel
theorem d_M_token_178 : decode b_M_token 178 = .ok (.iload_n 2, 1) := by decide +kernel
theorem d_M_token_179 : decode b_M_token 179 = .ok (.iconst 2, 1) := by decide +kernel
theorem d_M_token_180 : decode b_M_token 180 = .ok (.if_icmp .ge 21, 3) := by decide +kernel
theorem d_M_token_183 : decode b_M_token 183 = .ok (.bipush 10, 2) := by decide +kernel
theorem d_M_token_185 : decode b_M_token 185 = .ok (.aload_n 0, 1) := by decide +kernel
theorem d_M_token_186 : decode b_M_token 186 = .ok (.getfield 116, 3) := by decide +kernel
theorem d_M_token_189 : decode b_M_token 189 = .ok (.imul, 1) := by decide +kernel
theorem d_M_token_190 : decode b_M_token 190 = .ok (.aload_n 0, 1) := by decide +kernel
theorem d_M_token_191 : decode b_M_token 191 = .ok (.invokevirtual 102, 3) := by decide +kernel
theorem d_M_token_194 : decode b_M_token 194 = .ok (.iadd, 1) := by decide +kernel
theorem d_M_token_195 : decode b_M_token 195 = .ok (.bipush 48, 2) := by decide +kernel
theorem d_M_token_197 : decode b_M_token 197 = .ok (.isub, 1) := by decide +kernel
theorem d_M_token_198 : decode b_M_token 198 = .ok (.goto 7, 3) := by decide +kernel
theorem d_M_token_201 : decode b_M_token 201 = .ok (.aload_n 0, 1) := by decide +kernel
theorem d_M_token_202 : decode b_M_token 202 = .ok (.getfield 116, 3) := by decide +kernel
theorem d_M_token_205 : decode b_M_token 205 = .ok (.putfield 116, 3) := by decide +kernel
theorem d_M_token_208 : decode b_M_token 208 = .ok (.aload_n 0, 1) := by decide +kernel
theorem d_M_token_209 : decode b_M_token 209 = .ok (.dup, 1) := by decide +kernel
theorem d_M_token_210 : decode b_M_token 210 = .ok (.getfield 96, 3) := by decide +kernel
theorem d_M_token_213 : decode b_M_token 213 = .ok (.iconst 1, 1) := by decide +kernel
theorem d_M_token_214 : decode b_M_token 214 = .ok (.iadd, 1) := by decide +kernel
theorem d_M_token_215 : decode b_M_token 215 = .ok (.putfield 96, 3) := by decide +kernel
theorem d_M_token_218 : decode b_M_token 218 = .ok (.iinc 2 1, 3) := by decide +kernel
theorem d_M_token_221 : decode b_M_token 221 = .ok (.goto (-58), 3) := by decide +kernel
theorem d_M_token_224 : decode b_M_token 224 = .ok (.aload_n 0, 1) := by decide +kernel
theorem d_M_token_225 : decode b_M_token 225 = .ok (.iload_n 2, 1) := by decide +kernel
theorem d_M_token_226 : decode b_M_token 226 = .ok (.iconst 2, 1) := by decide +kernel
theorem d_M_token_227 : decode b_M_token 227 = .ok (.if_icmp .le 7, 3) := by decide +kernel
theorem d_M_token_230 : decode b_M_token 230 = .ok (.iconst 1, 1) := by decide +kernel
theorem d_M_token_231 : decode b_M_token 231 = .ok (.goto 4, 3) := by decide +kernel
theorem d_M_token_234 : decode b_M_token 234 = .ok (.iconst 3, 1) := by decide +kernel
theorem d_M_token_235 : decode b_M_token 235 = .ok (.putfield 113, 3) := by decide +kernel
theorem d_M_token_238 : decode b_M_token 238 = .ok (.goto 28, 3) := by decide +kernel
theorem d_M_token_241 : decode b_M_token 241 = .ok (.aload_n 0, 1) := by decide +kernel
theorem d_M_token_242 : decode b_M_token 242 = .ok (.dup, 1) := by decide +kernel
theorem d_M_token_243 : decode b_M_token 243 = .ok (.getfield 96, 3) := by decide +kernel
theorem d_M_token_246 : decode b_M_token 246 = .ok (.iconst 1, 1) := by decide +kernel
theorem d_M_token_247 : decode b_M_token 247 = .ok (.iadd, 1) := by decide +kernel
theorem d_M_token_248 : decode b_M_token 248 = .ok (.putfield 96, 3) := by decide +kernel
theorem d_M_token_251 : decode b_M_token 251 = .ok (.aload_n 0, 1) := by decide +kernel
theorem d_M_token_252 : decode b_M_token 252 = .ok (.iload_n 1, 1) := by decide +kernel
theorem d_M_token_253 : decode b_M_token 253 = .ok (.bipush 59, 2) := by decide +kernel
theorem d_M_token_255 : decode b_M_token 255 = .ok (.if_icmp .ne 7, 3) := by decide +kernel
theorem d_M_token_258 : decode b_M_token 258 = .ok (.iconst 4, 1) := by decide +kernel
theorem d_M_token_259 : decode b_M_token 259 = .ok (.goto 4, 3) := by decide +kernel
theorem d_M_token_262 : decode b_M_token 262 = .ok (.iconst 1, 1) := by decide +kernel
theorem d_M_token_263 : decode b_M_token 263 = .ok (.putfield 113, 3) := by decide +kernel
theorem d_M_token_266 : decode b_M_token 266 = .ok (.return_, 1) := by decide +kernel
theorem d_M_see_0 : decode b_M_see 0 = .ok (.aload_n 0, 1) := by decide +kernel
theorem d_M_see_1 : decode b_M_see 1 = .ok (.getfield 96, 3) := by decide +kernel
theorem d_M_see_4 : decode b_M_see 4 = .ok (.aload_n 0, 1) := by decide +kernel
theorem d_M_see_5 : decode b_M_see 5 = .ok (.getfield 99, 3) := by decide +kernel
theorem d_M_see_8 : decode b_M_see 8 = .ok (.if_icmp .ge 19, 3) := by decide +kernel
theorem d_M_see_11 : decode b_M_see 11 = .ok (.aload_n 0, 1) := by decide +kernel
theorem d_M_see_12 : decode b_M_see 12 = .ok (.getfield 7, 3) := by decide +kernel
theorem d_M_see_15 : decode b_M_see 15 = .ok (.aload_n 0, 1) := by decide +kernel
theorem d_M_see_16 : decode b_M_see 16 = .ok (.getfield 96, 3) := by decide +kernel
theorem d_M_see_19 : decode b_M_see 19 = .ok (.baload, 1) := by decide +kernel
theorem d_M_see_20 : decode b_M_see 20 = .ok (.sipush 255, 3) := by decide +kernel
theorem d_M_see_23 : decode b_M_see 23 = .ok (.iand, 1) := by decide +kernel
theorem d_M_see_24 : decode b_M_see 24 = .ok (.goto 4, 3) := by decide +kernel
theorem d_M_see_27 : decode b_M_see 27 = .ok (.iconst (-1), 1) := by decide +kernel
theorem d_M_see_28 : decode b_M_see 28 = .ok (.ireturn, 1) := by decide +kernel
theorem d_M_lines_0 : decode b_M_lines 0 = .ok (.iconst 1, 1) := by decide +kernel
theorem d_M_lines_1 : decode b_M_lines 1 = .ok (.istore_n 2, 1) := by decide +kernel
theorem d_M_lines_2 : decode b_M_lines 2 = .ok (.iload_n 2, 1) := by decide +kernel
theorem d_M_lines_3 : decode b_M_lines 3 = .ok (.ifCond .eq 71, 3) := by decide +kernel
theorem d_M_lines_6 : decode b_M_lines 6 = .ok (.aload_n 0, 1) := by decide +kernel
theorem d_M_lines_7 : decode b_M_lines 7 = .ok (.getfield 113, 3) := by decide +kernel
theorem d_M_lines_10 : decode b_M_lines 10 = .ok (.ifCond .eq 64, 3) := by decide +kernel
theorem d_M_lines_13 : decode b_M_lines 13 = .ok (.aload_n 0, 1) := by decide +kernel
theorem d_M_lines_14 : decode b_M_lines 14 = .ok (.getfield 106, 3) := by decide +kernel
theorem d_M_lines_17 : decode b_M_lines 17 = .ok (.istore_n 3, 1) := by decide +kernel
theorem d_M_lines_18 : decode b_M_lines 18 = .ok (.aload_n 0, 1) := by decide +kernel
theorem d_M_lines_19 : decode b_M_lines 19 = .ok (.iconst 1, 1) := by decide +kernel
theorem d_M_lines_20 : decode b_M_lines 20 = .ok (.putfield 136, 3) := by decide +kernel
theorem d_M_lines_23 : decode b_M_lines 23 = .ok (.aload_n 0, 1) := by decide +kernel
theorem d_M_lines_24 : decode b_M_lines 24 = .ok (.iload_n 1, 1) := by decide +kernel
theorem d_M_lines_25 : decode b_M_lines 25 = .ok (.aload_n 0, 1) := by decide +kernel
theorem d_M_lines_26 : decode b_M_lines 26 = .ok (.getfield 113, 3) := by decide +kernel
theorem d_M_lines_29 : decode b_M_lines 29 = .ok (.iconst 2, 1) := by decide +kernel
theorem d_M_lines_30 : decode b_M_lines 30 = .ok (.if_icmp .ne 10, 3) := by decide +kernel
theorem d_M_lines_33 : decode b_M_lines 33 = .ok (.aload_n 0, 1) := by decide +kernel
theorem d_M_lines_34 : decode b_M_lines 34 = .ok (.getfield 109, 3) := by decide +kernel
theorem d_M_lines_37 : decode b_M_lines 37 = .ok (.goto 4, 3) := by decide +kernel
theorem d_M_lines_40 : decode b_M_lines 40 = .ok (.lconst 0, 1) := by decide +kernel
theorem d_M_lines_41 : decode b_M_lines 41 = .ok (.iload_n 3, 1) := by decide +kernel
theorem d_M_lines_42 : decode b_M_lines 42 = .ok (.invokevirtual 215, 3) := by decide +kernel
theorem d_M_lines_45 : decode b_M_lines 45 = .ok (.istore_n 2, 1) := by decide +kernel
theorem d_M_lines_46 : decode b_M_lines 46 = .ok (.iload_n 2, 1) := by decide +kernel
theorem d_M_lines_47 : decode b_M_lines 47 = .ok (.ifCond .eq 16, 3) := by decide +kernel
theorem d_M_lines_50 : decode b_M_lines 50 = .ok (.aload_n 0, 1) := by decide +kernel
theorem d_M_lines_51 : decode b_M_lines 51 = .ok (.getfield 113, 3) := by decide +kernel
theorem d_M_lines_54 : decode b_M_lines 54 = .ok (.iconst 4, 1) := by decide +kernel
theorem d_M_lines_55 : decode b_M_lines 55 = .ok (.if_icmp .eq 8, 3) := by decide +kernel
theorem d_M_lines_58 : decode b_M_lines 58 = .ok (.aload_n 0, 1) := by decide +kernel
theorem d_M_lines_59 : decode b_M_lines 59 = .ok (.invokevirtual 128, 3) := by decide +kernel
theorem d_M_lines_62 : decode b_M_lines 62 = .ok (.istore_n 2, 1) := by decide +kernel
theorem d_M_lines_63 : decode b_M_lines 63 = .ok (.iload_n 2, 1) := by decide +kernel
theorem d_M_lines_64 : decode b_M_lines 64 = .ok (.ifCond .eq 7, 3) := by decide +kernel
theorem d_M_lines_67 : decode b_M_lines 67 = .ok (.aload_n 0, 1) := by decide +kernel
theorem d_M_lines_68 : decode b_M_lines 68 = .ok (.invokevirtual 140, 3) := by decide +kernel
theorem d_M_lines_71 : decode b_M_lines 71 = .ok (.goto (-69), 3) := by decide +kernel
theorem d_M_lines_74 : decode b_M_lines 74 = .ok (.iload_n 2, 1) := by decide +kernel
theorem d_M_lines_75 : decode b_M_lines 75 = .ok (.ireturn, 1) := by decide +kernel
theorem d_M_lineOf_0 : decode b_M_lineOf 0 = .ok (.iload_n 1, 1) := by decide +kernel
theorem d_M_lineOf_1 : decode b_M_lineOf 1 = .ok (.tableswitch 61 0 3 #[31, 39, 45, 53], 31) := by decide +kernel
theorem d_M_lineOf_32 : decode b_M_lineOf 32 = .ok (.aload_n 0, 1) := by decide +kernel
theorem d_M_lineOf_33 : decode b_M_lineOf 33 = .ok (.lload_n 2, 1) := by decide +kernel
theorem d_M_lineOf_34 : decode b_M_lineOf 34 = .ok (.iload 4, 2) := by decide +kernel
theorem d_M_lineOf_36 : decode b_M_lineOf 36 = .ok (.invokevirtual 198, 3) := by decide +kernel
theorem d_M_lineOf_39 : decode b_M_lineOf 39 = .ok (.ireturn, 1) := by decide +kernel
theorem d_M_lineOf_40 : decode b_M_lineOf 40 = .ok (.aload_n 0, 1) := by decide +kernel
theorem d_M_lineOf_41 : decode b_M_lineOf 41 = .ok (.lload_n 2, 1) := by decide +kernel
theorem d_M_lineOf_42 : decode b_M_lineOf 42 = .ok (.invokevirtual 202, 3) := by decide +kernel
theorem d_M_lineOf_45 : decode b_M_lineOf 45 = .ok (.ireturn, 1) := by decide +kernel
theorem d_M_lineOf_46 : decode b_M_lineOf 46 = .ok (.aload_n 0, 1) := by decide +kernel
theorem d_M_lineOf_47 : decode b_M_lineOf 47 = .ok (.lload_n 2, 1) := by decide +kernel
theorem d_M_lineOf_48 : decode b_M_lineOf 48 = .ok (.iload 4, 2) := by decide +kernel
theorem d_M_lineOf_50 : decode b_M_lineOf 50 = .ok (.invokevirtual 206, 3) := by decide +kernel
theorem d_M_lineOf_53 : decode b_M_lineOf 53 = .ok (.ireturn, 1) := by decide +kernel
theorem d_M_lineOf_54 : decode b_M_lineOf 54 = .ok (.aload_n 0, 1) := by decide +kernel
theorem d_M_lineOf_55 : decode b_M_lineOf 55 = .ok (.lload_n 2, 1) := by decide +kernel
theorem d_M_lineOf_56 : decode b_M_lineOf 56 = .ok (.iload 4, 2) := by decide +kernel
theorem d_M_lineOf_58 : decode b_M_lineOf 58 = .ok (.invokevirtual 209, 3) := by decide +kernel
theorem d_M_lineOf_61 : decode b_M_lineOf 61 = .ok (.ireturn, 1) := by decide +kernel
theorem d_M_lineOf_62 : decode b_M_lineOf 62 = .ok (.aload_n 0, 1) := by decide +kernel
theorem d_M_lineOf_63 : decode b_M_lineOf 63 = .ok (.lload_n 2, 1) := by decide +kernel
theorem d_M_lineOf_64 : decode b_M_lineOf 64 = .ok (.invokevirtual 212, 3) := by decide +kernel
theorem d_M_lineOf_67 : decode b_M_lineOf 67 = .ok (.ireturn, 1) := by decide +kernel
theorem d_M_landLine_0 : decode b_M_landLine 0 = .ok (.lload_n 1, 1) := by decide +kernel
theorem d_M_landLine_1 : decode b_M_landLine 1 = .ok (.ldc2_w 156, 3) := by decide +kernel
theorem d_M_landLine_4 : decode b_M_landLine 4 = .ok (.lcmp, 1) := by decide +kernel
theorem d_M_landLine_5 : decode b_M_landLine 5 = .ok (.ifCond .ne 7, 3) := by decide +kernel
theorem d_M_landLine_8 : decode b_M_landLine 8 = .ok (.iconst 0, 1) := by decide +kernel
theorem d_M_landLine_9 : decode b_M_landLine 9 = .ok (.goto 40, 3) := by decide +kernel
theorem d_M_landLine_12 : decode b_M_landLine 12 = .ok (.lload_n 1, 1) := by decide +kernel
theorem d_M_landLine_13 : decode b_M_landLine 13 = .ok (.ldc2_w 158, 3) := by decide +kernel
theorem d_M_landLine_16 : decode b_M_landLine 16 = .ok (.lcmp, 1) := by decide +kernel
theorem d_M_landLine_17 : decode b_M_landLine 17 = .ok (.ifCond .ne 7, 3) := by decide +kernel
theorem d_M_landLine_20 : decode b_M_landLine 20 = .ok (.iconst 1, 1) := by decide +kernel
theorem d_M_landLine_21 : decode b_M_landLine 21 = .ok (.goto 28, 3) := by decide +kernel
theorem d_M_landLine_24 : decode b_M_landLine 24 = .ok (.lload_n 1, 1) := by decide +kernel
theorem d_M_landLine_25 : decode b_M_landLine 25 = .ok (.ldc2_w 160, 3) := by decide +kernel
theorem d_M_landLine_28 : decode b_M_landLine 28 = .ok (.lcmp, 1) := by decide +kernel
theorem d_M_landLine_29 : decode b_M_landLine 29 = .ok (.ifCond .ne 7, 3) := by decide +kernel
theorem d_M_landLine_32 : decode b_M_landLine 32 = .ok (.iconst 2, 1) := by decide +kernel
theorem d_M_landLine_33 : decode b_M_landLine 33 = .ok (.goto 16, 3) := by decide +kernel
theorem d_M_landLine_36 : decode b_M_landLine 36 = .ok (.lload_n 1, 1) := by decide +kernel
theorem d_M_landLine_37 : decode b_M_landLine 37 = .ok (.ldc2_w 162, 3) := by decide +kernel
theorem d_M_landLine_40 : decode b_M_landLine 40 = .ok (.lcmp, 1) := by decide +kernel
theorem d_M_landLine_41 : decode b_M_landLine 41 = .ok (.ifCond .ne 7, 3) := by decide +kernel
theorem d_M_landLine_44 : decode b_M_landLine 44 = .ok (.iconst 3, 1) := by decide +kernel
theorem d_M_landLine_45 : decode b_M_landLine 45 = .ok (.goto 4, 3) := by decide +kernel
theorem d_M_landLine_48 : decode b_M_landLine 48 = .ok (.iconst (-1), 1) := by decide +kernel
theorem d_M_landLine_49 : decode b_M_landLine 49 = .ok (.istore 4, 2) := by decide +kernel
theorem d_M_landLine_51 : decode b_M_landLine 51 = .ok (.iload 4, 2) := by decide +kernel
theorem d_M_landLine_53 : decode b_M_landLine 53 = .ok (.iconst (-1), 1) := by decide +kernel
theorem d_M_landLine_54 : decode b_M_landLine 54 = .ok (.if_icmp .ne 40, 3) := by decide +kernel
theorem d_M_landLine_57 : decode b_M_landLine 57 = .ok (.lload_n 1, 1) := by decide +kernel
theorem d_M_landLine_58 : decode b_M_landLine 58 = .ok (.ldc2_w 164, 3) := by decide +kernel
theorem d_M_landLine_61 : decode b_M_landLine 61 = .ok (.lcmp, 1) := by decide +kernel
theorem d_M_landLine_62 : decode b_M_landLine 62 = .ok (.ifCond .eq 32, 3) := by decide +kernel
theorem d_M_landLine_65 : decode b_M_landLine 65 = .ok (.lload_n 1, 1) := by decide +kernel
theorem d_M_landLine_66 : decode b_M_landLine 66 = .ok (.ldc2_w 166, 3) := by decide +kernel
theorem d_M_landLine_69 : decode b_M_landLine 69 = .ok (.lcmp, 1) := by decide +kernel
theorem d_M_landLine_70 : decode b_M_landLine 70 = .ok (.ifCond .eq 24, 3) := by decide +kernel
theorem d_M_landLine_73 : decode b_M_landLine 73 = .ok (.lload_n 1, 1) := by decide +kernel
theorem d_M_landLine_74 : decode b_M_landLine 74 = .ok (.ldc2_w 168, 3) := by decide +kernel
theorem d_M_landLine_77 : decode b_M_landLine 77 = .ok (.lcmp, 1) := by decide +kernel
theorem d_M_landLine_78 : decode b_M_landLine 78 = .ok (.ifCond .eq 16, 3) := by decide +kernel
theorem d_M_landLine_81 : decode b_M_landLine 81 = .ok (.lload_n 1, 1) := by decide +kernel
theorem d_M_landLine_82 : decode b_M_landLine 82 = .ok (.ldc2_w 170, 3) := by decide +kernel
theorem d_M_landLine_85 : decode b_M_landLine 85 = .ok (.lcmp, 1) := by decide +kernel
theorem d_M_landLine_86 : decode b_M_landLine 86 = .ok (.ifCond .eq 8, 3) := by decide +kernel
theorem d_M_landLine_89 : decode b_M_landLine 89 = .ok (.aload_n 0, 1) := by decide +kernel
theorem d_M_landLine_90 : decode b_M_landLine 90 = .ok (.invokevirtual 128, 3) := by decide +kernel
theorem d_M_landLine_93 : decode b_M_landLine 93 = .ok (.ireturn, 1) := by decide +kernel
theorem d_M_landLine_94 : decode b_M_landLine 94 = .ok (.lload_n 1, 1) := by decide +kernel
theorem d_M_landLine_95 : decode b_M_landLine 95 = .ok (.ldc2_w 164, 3) := by decide +kernel
theorem d_M_landLine_98 : decode b_M_landLine 98 = .ok (.lcmp, 1) := by decide +kernel
theorem d_M_landLine_99 : decode b_M_landLine 99 = .ok (.ifCond .ne 14, 3) := by decide +kernel
theorem d_M_landLine_102 : decode b_M_landLine 102 = .ok (.aload_n 0, 1) := by decide +kernel
theorem d_M_landLine_103 : decode b_M_landLine 103 = .ok (.iconst 4, 1) := by decide +kernel
theorem d_M_landLine_104 : decode b_M_landLine 104 = .ok (.bipush 10, 2) := by decide +kernel
theorem d_M_landLine_106 : decode b_M_landLine 106 = .ok (.iload_n 3, 1) := by decide +kernel
theorem d_M_landLine_107 : decode b_M_landLine 107 = .ok (.invokevirtual 172, 3) := by decide +kernel
theorem d_M_landLine_110 : decode b_M_landLine 110 = .ok (.goto 19, 3) := by decide +kernel
theorem d_M_landLine_113 : decode b_M_landLine 113 = .ok (.lload_n 1, 1) := by decide +kernel
theorem d_M_landLine_114 : decode b_M_landLine 114 = .ok (.ldc2_w 168, 3) := by decide +kernel
theorem d_M_landLine_117 : decode b_M_landLine 117 = .ok (.lcmp, 1) := by decide +kernel
theorem d_M_landLine_118 : decode b_M_landLine 118 = .ok (.ifCond .ne 11, 3) := by decide +kernel
theorem d_M_landLine_121 : decode b_M_landLine 121 = .ok (.aload_n 0, 1) := by decide +kernel
theorem d_M_landLine_122 : decode b_M_landLine 122 = .ok (.iconst 5, 1) := by decide +kernel
theorem d_M_landLine_123 : decode b_M_landLine 123 = .ok (.bipush 6, 2) := by decide +kernel
theorem d_M_landLine_125 : decode b_M_landLine 125 = .ok (.iload_n 3, 1) := by decide +kernel
theorem d_M_landLine_126 : decode b_M_landLine 126 = .ok (.invokevirtual 172, 3) := by decide +kernel
theorem d_M_landLine_129 : decode b_M_landLine 129 = .ok (.aload_n 0, 1) := by decide +kernel
theorem d_M_landLine_130 : decode b_M_landLine 130 = .ok (.invokevirtual 140, 3) := by decide +kernel
theorem d_M_landLine_133 : decode b_M_landLine 133 = .ok (.lload_n 1, 1) := by decide +kernel
theorem d_M_landLine_134 : decode b_M_landLine 134 = .ok (.ldc2_w 166, 3) := by decide +kernel
theorem d_M_landLine_137 : decode b_M_landLine 137 = .ok (.lcmp, 1) := by decide +kernel
theorem d_M_landLine_138 : decode b_M_landLine 138 = .ok (.ifCond .ne 8, 3) := by decide +kernel
theorem d_M_landLine_141 : decode b_M_landLine 141 = .ok (.aload_n 0, 1) := by decide +kernel
theorem d_M_landLine_142 : decode b_M_landLine 142 = .ok (.invokevirtual 176, 3) := by decide +kernel
theorem d_M_landLine_145 : decode b_M_landLine 145 = .ok (.ireturn, 1) := by decide +kernel
theorem d_M_landLine_146 : decode b_M_landLine 146 = .ok (.lload_n 1, 1) := by decide +kernel
theorem d_M_landLine_147 : decode b_M_landLine 147 = .ok (.ldc2_w 164, 3) := by decide +kernel
theorem d_M_landLine_150 : decode b_M_landLine 150 = .ok (.lcmp, 1) := by decide +kernel
theorem d_M_landLine_151 : decode b_M_landLine 151 = .ok (.ifCond .ne 51, 3) := by decide +kernel
theorem d_M_landLine_154 : decode b_M_landLine 154 = .ok (.aload_n 0, 1) := by decide +kernel
theorem d_M_landLine_155 : decode b_M_landLine 155 = .ok (.iconst 0, 1) := by decide +kernel
theorem d_M_landLine_156 : decode b_M_landLine 156 = .ok (.iconst 0, 1) := by decide +kernel
theorem d_M_landLine_157 : decode b_M_landLine 157 = .ok (.iconst 1, 1) := by decide +kernel
theorem d_M_landLine_158 : decode b_M_landLine 158 = .ok (.invokevirtual 143, 3) := by decide +kernel
theorem d_M_landLine_161 : decode b_M_landLine 161 = .ok (.ifCond .eq 25, 3) := by decide +kernel
theorem d_M_landLine_164 : decode b_M_landLine 164 = .ok (.aload_n 0, 1) := by decide +kernel
theorem d_M_landLine_165 : decode b_M_landLine 165 = .ok (.iconst 1, 1) := by decide +kernel
theorem d_M_landLine_166 : decode b_M_landLine 166 = .ok (.iconst 0, 1) := by decide +kernel
theorem d_M_landLine_167 : decode b_M_landLine 167 = .ok (.bipush 12, 2) := by decide +kernel
theorem d_M_landLine_169 : decode b_M_landLine 169 = .ok (.invokevirtual 143, 3) := by decide +kernel
theorem d_M_landLine_172 : decode b_M_landLine 172 = .ok (.ifCond .eq 14, 3) := by decide +kernel
theorem d_M_landLine_175 : decode b_M_landLine 175 = .ok (.aload_n 0, 1) := by decide +kernel
theorem d_M_landLine_176 : decode b_M_landLine 176 = .ok (.iconst 2, 1) := by decide +kernel
theorem d_M_landLine_177 : decode b_M_landLine 177 = .ok (.iconst 0, 1) := by decide +kernel
theorem d_M_landLine_178 : decode b_M_landLine 178 = .ok (.bipush 12, 2) := by decide +kernel
theorem d_M_landLine_180 : decode b_M_landLine 180 = .ok (.invokevirtual 143, 3) := by decide +kernel
theorem d_M_landLine_183 : decode b_M_landLine 183 = .ok (.ifCond .ne 5, 3) := by decide +kernel
theorem d_M_landLine_186 : decode b_M_landLine 186 = .ok (.iconst 0, 1) := by decide +kernel
theorem d_M_landLine_187 : decode b_M_landLine 187 = .ok (.ireturn, 1) := by decide +kernel
theorem d_M_landLine_188 : decode b_M_landLine 188 = .ok (.aload_n 0, 1) := by decide +kernel
theorem d_M_landLine_189 : decode b_M_landLine 189 = .ok (.iconst 4, 1) := by decide +kernel
theorem d_M_landLine_190 : decode b_M_landLine 190 = .ok (.bipush 42, 2) := by decide +kernel
theorem d_M_landLine_192 : decode b_M_landLine 192 = .ok (.bipush 27, 2) := by decide +kernel
theorem d_M_landLine_194 : decode b_M_landLine 194 = .ok (.iconst 3, 1) := by decide +kernel
theorem d_M_landLine_195 : decode b_M_landLine 195 = .ok (.bipush 10, 2) := by decide +kernel
theorem d_M_landLine_197 : decode b_M_landLine 197 = .ok (.invokevirtual 179, 3) := by decide +kernel
theorem d_M_landLine_200 : decode b_M_landLine 200 = .ok (.iconst 1, 1) := by decide +kernel
theorem d_M_landLine_201 : decode b_M_landLine 201 = .ok (.ireturn, 1) := by decide +kernel
theorem d_M_landLine_202 : decode b_M_landLine 202 = .ok (.lload_n 1, 1) := by decide +kernel
theorem d_M_landLine_203 : decode b_M_landLine 203 = .ok (.ldc2_w 168, 3) := by decide +kernel
theorem d_M_landLine_206 : decode b_M_landLine 206 = .ok (.lcmp, 1) := by decide +kernel
theorem d_M_landLine_207 : decode b_M_landLine 207 = .ok (.ifCond .ne 40, 3) := by decide +kernel
theorem d_M_landLine_210 : decode b_M_landLine 210 = .ok (.aload_n 0, 1) := by decide +kernel
theorem d_M_landLine_211 : decode b_M_landLine 211 = .ok (.iconst 0, 1) := by decide +kernel
theorem d_M_landLine_212 : decode b_M_landLine 212 = .ok (.iconst 0, 1) := by decide +kernel
theorem d_M_landLine_213 : decode b_M_landLine 213 = .ok (.bipush 99, 2) := by decide +kernel
theorem d_M_landLine_215 : decode b_M_landLine 215 = .ok (.invokevirtual 143, 3) := by decide +kernel
theorem d_M_landLine_218 : decode b_M_landLine 218 = .ok (.ifCond .eq 14, 3) := by decide +kernel
theorem d_M_landLine_221 : decode b_M_landLine 221 = .ok (.aload_n 0, 1) := by decide +kernel
theorem d_M_landLine_222 : decode b_M_landLine 222 = .ok (.iconst 1, 1) := by decide +kernel
theorem d_M_landLine_223 : decode b_M_landLine 223 = .ok (.iconst 0, 1) := by decide +kernel
theorem d_M_landLine_224 : decode b_M_landLine 224 = .ok (.bipush 10, 2) := by decide +kernel
theorem d_M_landLine_226 : decode b_M_landLine 226 = .ok (.invokevirtual 143, 3) := by decide +kernel
theorem d_M_landLine_229 : decode b_M_landLine 229 = .ok (.ifCond .ne 5, 3) := by decide +kernel
theorem d_M_landLine_232 : decode b_M_landLine 232 = .ok (.iconst 0, 1) := by decide +kernel
theorem d_M_landLine_233 : decode b_M_landLine 233 = .ok (.ireturn, 1) := by decide +kernel
theorem d_M_landLine_234 : decode b_M_landLine 234 = .ok (.aload_n 0, 1) := by decide +kernel
theorem d_M_landLine_235 : decode b_M_landLine 235 = .ok (.iconst 5, 1) := by decide +kernel
theorem d_M_landLine_236 : decode b_M_landLine 236 = .ok (.bipush 30, 2) := by decide +kernel
theorem d_M_landLine_238 : decode b_M_landLine 238 = .ok (.iconst 2, 1) := by decide +kernel
theorem d_M_landLine_239 : decode b_M_landLine 239 = .ok (.iconst 2, 1) := by decide +kernel
theorem d_M_landLine_240 : decode b_M_landLine 240 = .ok (.bipush 6, 2) := by decide +kernel
theorem d_M_landLine_242 : decode b_M_landLine 242 = .ok (.invokevirtual 179, 3) := by decide +kernel
theorem d_M_landLine_245 : decode b_M_landLine 245 = .ok (.iconst 1, 1) := by decide +kernel
theorem d_M_landLine_246 : decode b_M_landLine 246 = .ok (.ireturn, 1) := by decide +kernel
theorem d_M_landLine_247 : decode b_M_landLine 247 = .ok (.lload_n 1, 1) := by decide +kernel
theorem d_M_landLine_248 : decode b_M_landLine 248 = .ok (.ldc2_w 170, 3) := by decide +kernel
theorem d_M_landLine_251 : decode b_M_landLine 251 = .ok (.lcmp, 1) := by decide +kernel
theorem d_M_landLine_252 : decode b_M_landLine 252 = .ok (.ifCond .ne 73, 3) := by decide +kernel
theorem d_M_landLine_255 : decode b_M_landLine 255 = .ok (.aload_n 0, 1) := by decide +kernel
theorem d_M_landLine_256 : decode b_M_landLine 256 = .ok (.iconst 0, 1) := by decide +kernel
theorem d_M_landLine_257 : decode b_M_landLine 257 = .ok (.iconst 0, 1) := by decide +kernel
theorem d_M_landLine_258 : decode b_M_landLine 258 = .ok (.bipush 23, 2) := by decide +kernel
theorem d_M_landLine_260 : decode b_M_landLine 260 = .ok (.invokevirtual 143, 3) := by decide +kernel
theorem d_M_landLine_263 : decode b_M_landLine 263 = .ok (.ifCond .eq 14, 3) := by decide +kernel
theorem d_M_landLine_266 : decode b_M_landLine 266 = .ok (.aload_n 0, 1) := by decide +kernel
theorem d_M_landLine_267 : decode b_M_landLine 267 = .ok (.iconst 1, 1) := by decide +kernel
theorem d_M_landLine_268 : decode b_M_landLine 268 = .ok (.iconst 0, 1) := by decide +kernel
theorem d_M_landLine_269 : decode b_M_landLine 269 = .ok (.bipush 99, 2) := by decide +kernel
theorem d_M_landLine_271 : decode b_M_landLine 271 = .ok (.invokevirtual 143, 3) := by decide +kernel
theorem d_M_landLine_274 : decode b_M_landLine 274 = .ok (.ifCond .ne 5, 3) := by decide +kernel
theorem d_M_landLine_277 : decode b_M_landLine 277 = .ok (.iconst 0, 1) := by decide +kernel
theorem d_M_landLine_278 : decode b_M_landLine 278 = .ok (.ireturn, 1) := by decide +kernel
theorem d_M_landLine_279 : decode b_M_landLine 279 = .ok (.aload_n 0, 1) := by decide +kernel
theorem d_M_landLine_280 : decode b_M_landLine 280 = .ok (.aload_n 0, 1) := by decide +kernel
theorem d_M_landLine_281 : decode b_M_landLine 281 = .ok (.getfield 153, 3) := by decide +kernel
theorem d_M_landLine_284 : decode b_M_landLine 284 = .ok (.aload_n 0, 1) := by decide +kernel
theorem d_M_landLine_285 : decode b_M_landLine 285 = .ok (.getfield 44, 3) := by decide +kernel
theorem d_M_landLine_288 : decode b_M_landLine 288 = .ok (.iconst 0, 1) := by decide +kernel
theorem d_M_landLine_289 : decode b_M_landLine 289 = .ok (.iaload, 1) := by decide +kernel
theorem d_M_landLine_290 : decode b_M_landLine 290 = .ok (.invokestatic 149, 3) := by decide +kernel
theorem d_M_landLine_293 : decode b_M_landLine 293 = .ok (.putfield 153, 3) := by decide +kernel
theorem d_M_landLine_296 : decode b_M_landLine 296 = .ok (.aload_n 0, 1) := by decide +kernel
theorem d_M_landLine_297 : decode b_M_landLine 297 = .ok (.getfield 136, 3) := by decide +kernel
theorem d_M_landLine_300 : decode b_M_landLine 300 = .ok (.ifCond .eq 23, 3) := by decide +kernel
theorem d_M_landLine_303 : decode b_M_landLine 303 = .ok (.aload_n 0, 1) := by decide +kernel
theorem d_M_landLine_304 : decode b_M_landLine 304 = .ok (.getfield 41, 3) := by decide +kernel
theorem d_M_landLine_307 : decode b_M_landLine 307 = .ok (.bipush 6, 2) := by decide +kernel
theorem d_M_landLine_309 : decode b_M_landLine 309 = .ok (.aload_n 0, 1) := by decide +kernel
theorem d_M_landLine_310 : decode b_M_landLine 310 = .ok (.getfield 44, 3) := by decide +kernel
theorem d_M_landLine_313 : decode b_M_landLine 313 = .ok (.iconst 0, 1) := by decide +kernel
theorem d_M_landLine_314 : decode b_M_landLine 314 = .ok (.iaload, 1) := by decide +kernel
theorem d_M_landLine_315 : decode b_M_landLine 315 = .ok (.iadd, 1) := by decide +kernel
theorem d_M_landLine_316 : decode b_M_landLine 316 = .ok (.aload_n 0, 1) := by decide +kernel
theorem d_M_landLine_317 : decode b_M_landLine 317 = .ok (.getfield 44, 3) := by decide +kernel
theorem d_M_landLine_320 : decode b_M_landLine 320 = .ok (.iconst 1, 1) := by decide +kernel
theorem d_M_landLine_321 : decode b_M_landLine 321 = .ok (.iaload, 1) := by decide +kernel
theorem d_M_landLine_322 : decode b_M_landLine 322 = .ok (.iastore, 1) := by decide +kernel
theorem d_M_landLine_323 : decode b_M_landLine 323 = .ok (.iconst 1, 1) := by decide +kernel
theorem d_M_landLine_324 : decode b_M_landLine 324 = .ok (.ireturn, 1) := by decide +kernel
theorem d_M_landLine_325 : decode b_M_landLine 325 = .ok (.aload_n 0, 1) := by decide +kernel
theorem d_M_landLine_326 : decode b_M_landLine 326 = .ok (.iconst 0, 1) := by decide +kernel
theorem d_M_landLine_327 : decode b_M_landLine 327 = .ok (.iload 4, 2) := by decide +kernel
theorem d_M_landLine_329 : decode b_M_landLine 329 = .ok (.ifCond .ne 7, 3) := by decide +kernel
theorem d_M_landLine_332 : decode b_M_landLine 332 = .ok (.iconst 4, 1) := by decide +kernel
theorem d_M_landLine_333 : decode b_M_landLine 333 = .ok (.goto 14, 3) := by decide +kernel
theorem d_M_landLine_336 : decode b_M_landLine 336 = .ok (.iload 4, 2) := by decide +kernel
theorem d_M_landLine_338 : decode b_M_landLine 338 = .ok (.iconst 3, 1) := by decide +kernel
theorem d_M_landLine_339 : decode b_M_landLine 339 = .ok (.if_icmp .ne 7, 3) := by decide +kernel
theorem d_M_landLine_342 : decode b_M_landLine 342 = .ok (.iconst 1, 1) := by decide +kernel
theorem d_M_landLine_343 : decode b_M_landLine 343 = .ok (.goto 4, 3) := by decide +kernel
theorem d_M_landLine_346 : decode b_M_landLine 346 = .ok (.iconst 0, 1) := by decide +kernel
theorem d_M_landLine_347 : decode b_M_landLine 347 = .ok (.iload 4, 2) := by decide +kernel
theorem d_M_landLine_349 : decode b_M_landLine 349 = .ok (.ifCond .ne 8, 3) := by decide +kernel
theorem d_M_landLine_352 : decode b_M_landLine 352 = .ok (.bipush 24, 2) := by decide +kernel
theorem d_M_landLine_354 : decode b_M_landLine 354 = .ok (.goto 25, 3) := by decide +kernel
theorem d_M_landLine_357 : decode b_M_landLine 357 = .ok (.iload 4, 2) := by decide +kernel
theorem d_M_landLine_359 : decode b_M_landLine 359 = .ok (.iconst 1, 1) := by decide +kernel
theorem d_M_landLine_360 : decode b_M_landLine 360 = .ok (.if_icmp .ne 7, 3) := by decide +kernel
theorem d_M_landLine_363 : decode b_M_landLine 363 = .ok (.iconst 3, 1) := by decide +kernel
theorem d_M_landLine_364 : decode b_M_landLine 364 = .ok (.goto 15, 3) := by decide +kernel
theorem d_M_landLine_367 : decode b_M_landLine 367 = .ok (.iload 4, 2) := by decide +kernel
theorem d_M_landLine_369 : decode b_M_landLine 369 = .ok (.iconst 2, 1) := by decide +kernel
theorem d_M_landLine_370 : decode b_M_landLine 370 = .ok (.if_icmp .ne 8, 3) := by decide +kernel
theorem d_M_landLine_373 : decode b_M_landLine 373 = .ok (.bipush 9, 2) := by decide +kernel
theorem d_M_landLine_375 : decode b_M_landLine 375 = .ok (.goto 4, 3) := by decide +kernel
theorem d_M_landLine_378 : decode b_M_landLine 378 = .ok (.iconst 4, 1) := by decide +kernel
theorem d_M_landLine_379 : decode b_M_landLine 379 = .ok (.invokevirtual 143, 3) := by decide +kernel
theorem d_M_landLine_382 : decode b_M_landLine 382 = .ok (.ifCond .ne 5, 3) := by decide +kernel
theorem d_M_landLine_385 : decode b_M_landLine 385 = .ok (.iconst 0, 1) := by decide +kernel
theorem d_M_landLine_386 : decode b_M_landLine 386 = .ok (.ireturn, 1) := by decide +kernel
theorem d_M_landLine_387 : decode b_M_landLine 387 = .ok (.aload_n 0, 1) := by decide +kernel
theorem d_M_landLine_388 : decode b_M_landLine 388 = .ok (.getfield 41, 3) := by decide +kernel
theorem d_M_landLine_391 : decode b_M_landLine 391 = .ok (.iload 4, 2) := by decide +kernel
theorem d_M_landLine_393 : decode b_M_landLine 393 = .ok (.aload_n 0, 1) := by decide +kernel
theorem d_M_landLine_394 : decode b_M_landLine 394 = .ok (.getfield 44, 3) := by decide +kernel
theorem d_M_landLine_397 : decode b_M_landLine 397 = .ok (.iconst 0, 1) := by decide +kernel
theorem d_M_landLine_398 : decode b_M_landLine 398 = .ok (.iaload, 1) := by decide +kernel
theorem d_M_landLine_399 : decode b_M_landLine 399 = .ok (.iastore, 1) := by decide +kernel
theorem d_M_landLine_400 : decode b_M_landLine 400 = .ok (.iconst 1, 1) := by decide +kernel
theorem d_M_landLine_401 : decode b_M_landLine 401 = .ok (.ireturn, 1) := by decide +kernel
theorem d_M_fails_0 : decode b_M_fails 0 = .ok (.aload_n 0, 1) := by decide +kernel
theorem d_M_fails_1 : decode b_M_fails 1 = .ok (.aload_n 0, 1) := by decide +kernel
theorem d_M_fails_2 : decode b_M_fails 2 = .ok (.getfield 106, 3) := by decide +kernel
theorem d_M_fails_5 : decode b_M_fails 5 = .ok (.putfield 119, 3) := by decide +kernel
theorem d_M_fails_8 : decode b_M_fails 8 = .ok (.iconst 0, 1) := by decide +kernel
theorem d_M_fails_9 : decode b_M_fails 9 = .ok (.ireturn, 1) := by decide +kernel
theorem d_M_full_0 : decode b_M_full 0 = .ok (.aload_n 0, 1) := by decide +kernel
theorem d_M_full_1 : decode b_M_full 1 = .ok (.getfield 41, 3) := by decide +kernel
theorem d_M_full_4 : decode b_M_full 4 = .ok (.iload_n 1, 1) := by decide +kernel
theorem d_M_full_5 : decode b_M_full 5 = .ok (.iaload, 1) := by decide +kernel
theorem d_M_full_6 : decode b_M_full 6 = .ok (.iload_n 2, 1) := by decide +kernel
theorem d_M_full_7 : decode b_M_full 7 = .ok (.if_icmp .ne 9, 3) := by decide +kernel
theorem d_M_full_10 : decode b_M_full 10 = .ok (.aload_n 0, 1) := by decide +kernel
theorem d_M_full_11 : decode b_M_full 11 = .ok (.iconst 3, 1) := by decide +kernel
theorem d_M_full_12 : decode b_M_full 12 = .ok (.iload_n 3, 1) := by decide +kernel
theorem d_M_full_13 : decode b_M_full 13 = .ok (.invokevirtual 132, 3) := by decide +kernel
theorem d_M_full_16 : decode b_M_full 16 = .ok (.return_, 1) := by decide +kernel
theorem d_M_later_0 : decode b_M_later 0 = .ok (.aload_n 0, 1) := by decide +kernel
theorem d_M_later_1 : decode b_M_later 1 = .ok (.getfield 122, 3) := by decide +kernel
theorem d_M_later_4 : decode b_M_later 4 = .ok (.ifCond .eq 27, 3) := by decide +kernel
theorem d_M_later_7 : decode b_M_later 7 = .ok (.iload_n 2, 1) := by decide +kernel
theorem d_M_later_8 : decode b_M_later 8 = .ok (.aload_n 0, 1) := by decide +kernel
theorem d_M_later_9 : decode b_M_later 9 = .ok (.getfield 125, 3) := by decide +kernel
theorem d_M_later_12 : decode b_M_later 12 = .ok (.if_icmp .lt 19, 3) := by decide +kernel
theorem d_M_later_15 : decode b_M_later 15 = .ok (.iload_n 2, 1) := by decide +kernel
theorem d_M_later_16 : decode b_M_later 16 = .ok (.aload_n 0, 1) := by decide +kernel
theorem d_M_later_17 : decode b_M_later 17 = .ok (.getfield 125, 3) := by decide +kernel
theorem d_M_later_20 : decode b_M_later 20 = .ok (.if_icmp .ne 21, 3) := by decide +kernel
theorem d_M_later_23 : decode b_M_later 23 = .ok (.iload_n 1, 1) := by decide +kernel
theorem d_M_later_24 : decode b_M_later 24 = .ok (.aload_n 0, 1) := by decide +kernel
theorem d_M_later_25 : decode b_M_later 25 = .ok (.getfield 122, 3) := by decide +kernel
theorem d_M_later_28 : decode b_M_later 28 = .ok (.if_icmp .ge 13, 3) := by decide +kernel
theorem d_M_later_31 : decode b_M_later 31 = .ok (.aload_n 0, 1) := by decide +kernel
theorem d_M_later_32 : decode b_M_later 32 = .ok (.iload_n 1, 1) := by decide +kernel
theorem d_M_later_33 : decode b_M_later 33 = .ok (.putfield 122, 3) := by decide +kernel
theorem d_M_later_36 : decode b_M_later 36 = .ok (.aload_n 0, 1) := by decide +kernel
theorem d_M_later_37 : decode b_M_later 37 = .ok (.iload_n 2, 1) := by decide +kernel
theorem d_M_later_38 : decode b_M_later 38 = .ok (.putfield 125, 3) := by decide +kernel
theorem d_M_later_41 : decode b_M_later 41 = .ok (.return_, 1) := by decide +kernel
theorem d_M_likesLine_0 : decode b_M_likesLine 0 = .ok (.aload_n 0, 1) := by decide +kernel
theorem d_M_likesLine_1 : decode b_M_likesLine 1 = .ok (.iconst 0, 1) := by decide +kernel
theorem d_M_likesLine_2 : decode b_M_likesLine 2 = .ok (.iconst 0, 1) := by decide +kernel
theorem d_M_likesLine_3 : decode b_M_likesLine 3 = .ok (.bipush 9, 2) := by decide +kernel
theorem d_M_likesLine_5 : decode b_M_likesLine 5 = .ok (.invokevirtual 143, 3) := by decide +kernel
theorem d_M_likesLine_8 : decode b_M_likesLine 8 = .ok (.ifCond .ne 5, 3) := by decide +kernel
theorem d_M_likesLine_11 : decode b_M_likesLine 11 = .ok (.iconst 0, 1) := by decide +kernel
theorem d_M_likesLine_12 : decode b_M_likesLine 12 = .ok (.ireturn, 1) := by decide +kernel
theorem d_M_likesLine_13 : decode b_M_likesLine 13 = .ok (.aload_n 0, 1) := by decide +kernel
theorem d_M_likesLine_14 : decode b_M_likesLine 14 = .ok (.aload_n 0, 1) := by decide +kernel
theorem d_M_likesLine_15 : decode b_M_likesLine 15 = .ok (.getfield 146, 3) := by decide +kernel
theorem d_M_likesLine_18 : decode b_M_likesLine 18 = .ok (.aload_n 0, 1) := by decide +kernel
theorem d_M_likesLine_19 : decode b_M_likesLine 19 = .ok (.getfield 44, 3) := by decide +kernel
theorem d_M_likesLine_22 : decode b_M_likesLine 22 = .ok (.iconst 0, 1) := by decide +kernel
theorem d_M_likesLine_23 : decode b_M_likesLine 23 = .ok (.iaload, 1) := by decide +kernel
theorem d_M_likesLine_24 : decode b_M_likesLine 24 = .ok (.invokestatic 149, 3) := by decide +kernel
theorem d_M_likesLine_27 : decode b_M_likesLine 27 = .ok (.putfield 146, 3) := by decide +kernel
theorem d_M_likesLine_30 : decode b_M_likesLine 30 = .ok (.aload_n 0, 1) := by decide +kernel
theorem d_M_likesLine_31 : decode b_M_likesLine 31 = .ok (.iconst 1, 1) := by decide +kernel
theorem d_M_likesLine_32 : decode b_M_likesLine 32 = .ok (.iconst 0, 1) := by decide +kernel
theorem d_M_likesLine_33 : decode b_M_likesLine 33 = .ok (.bipush 23, 2) := by decide +kernel
theorem d_M_likesLine_35 : decode b_M_likesLine 35 = .ok (.invokevirtual 143, 3) := by decide +kernel
theorem d_M_likesLine_38 : decode b_M_likesLine 38 = .ok (.ifCond .eq 30, 3) := by decide +kernel
theorem d_M_likesLine_41 : decode b_M_likesLine 41 = .ok (.aload_n 0, 1) := by decide +kernel
theorem d_M_likesLine_42 : decode b_M_likesLine 42 = .ok (.iconst 2, 1) := by decide +kernel
theorem d_M_likesLine_43 : decode b_M_likesLine 43 = .ok (.aload_n 0, 1) := by decide +kernel
theorem d_M_likesLine_44 : decode b_M_likesLine 44 = .ok (.getfield 44, 3) := by decide +kernel
theorem d_M_likesLine_47 : decode b_M_likesLine 47 = .ok (.iconst 1, 1) := by decide +kernel
theorem d_M_likesLine_48 : decode b_M_likesLine 48 = .ok (.iaload, 1) := by decide +kernel
theorem d_M_likesLine_49 : decode b_M_likesLine 49 = .ok (.bipush 23, 2) := by decide +kernel
theorem d_M_likesLine_51 : decode b_M_likesLine 51 = .ok (.invokevirtual 143, 3) := by decide +kernel
theorem d_M_likesLine_54 : decode b_M_likesLine 54 = .ok (.ifCond .eq 14, 3) := by decide +kernel
theorem d_M_likesLine_57 : decode b_M_likesLine 57 = .ok (.aload_n 0, 1) := by decide +kernel
theorem d_M_likesLine_58 : decode b_M_likesLine 58 = .ok (.iconst 3, 1) := by decide +kernel
theorem d_M_likesLine_59 : decode b_M_likesLine 59 = .ok (.iconst 0, 1) := by decide +kernel
theorem d_M_likesLine_60 : decode b_M_likesLine 60 = .ok (.bipush 9, 2) := by decide +kernel
theorem d_M_likesLine_62 : decode b_M_likesLine 62 = .ok (.invokevirtual 143, 3) := by decide +kernel
theorem d_M_likesLine_65 : decode b_M_likesLine 65 = .ok (.ifCond .ne 5, 3) := by decide +kernel
theorem d_M_likesLine_68 : decode b_M_likesLine 68 = .ok (.iconst 0, 1) := by decide +kernel
theorem d_M_likesLine_69 : decode b_M_likesLine 69 = .ok (.ireturn, 1) := by decide +kernel
theorem d_M_likesLine_70 : decode b_M_likesLine 70 = .ok (.aload_n 0, 1) := by decide +kernel
theorem d_M_likesLine_71 : decode b_M_likesLine 71 = .ok (.aload_n 0, 1) := by decide +kernel
theorem d_M_likesLine_72 : decode b_M_likesLine 72 = .ok (.getfield 153, 3) := by decide +kernel
theorem d_M_likesLine_75 : decode b_M_likesLine 75 = .ok (.aload_n 0, 1) := by decide +kernel
theorem d_M_likesLine_76 : decode b_M_likesLine 76 = .ok (.getfield 44, 3) := by decide +kernel
theorem d_M_likesLine_79 : decode b_M_likesLine 79 = .ok (.iconst 1, 1) := by decide +kernel
theorem d_M_likesLine_80 : decode b_M_likesLine 80 = .ok (.iaload, 1) := by decide +kernel
theorem d_M_likesLine_81 : decode b_M_likesLine 81 = .ok (.aload_n 0, 1) := by decide +kernel
theorem d_M_likesLine_82 : decode b_M_likesLine 82 = .ok (.getfield 44, 3) := by decide +kernel
theorem d_M_likesLine_85 : decode b_M_likesLine 85 = .ok (.iconst 2, 1) := by decide +kernel
theorem d_M_likesLine_86 : decode b_M_likesLine 86 = .ok (.iaload, 1) := by decide +kernel
theorem d_M_likesLine_87 : decode b_M_likesLine 87 = .ok (.invokestatic 149, 3) := by decide +kernel
theorem d_M_likesLine_90 : decode b_M_likesLine 90 = .ok (.invokestatic 149, 3) := by decide +kernel
theorem d_M_likesLine_93 : decode b_M_likesLine 93 = .ok (.putfield 153, 3) := by decide +kernel
theorem d_M_likesLine_96 : decode b_M_likesLine 96 = .ok (.aload_n 0, 1) := by decide +kernel
theorem d_M_likesLine_97 : decode b_M_likesLine 97 = .ok (.getfield 44, 3) := by decide +kernel
theorem d_M_likesLine_100 : decode b_M_likesLine 100 = .ok (.iconst 1, 1) := by decide +kernel
theorem d_M_likesLine_101 : decode b_M_likesLine 101 = .ok (.iaload, 1) := by decide +kernel
theorem d_M_likesLine_102 : decode b_M_likesLine 102 = .ok (.istore_n 1, 1) := by decide +kernel
theorem d_M_likesLine_103 : decode b_M_likesLine 103 = .ok (.aload_n 0, 1) := by decide +kernel
theorem d_M_likesLine_104 : decode b_M_likesLine 104 = .ok (.getfield 136, 3) := by decide +kernel
theorem d_M_likesLine_107 : decode b_M_likesLine 107 = .ok (.ifCond .eq 46, 3) := by decide +kernel
theorem d_M_likesLine_110 : decode b_M_likesLine 110 = .ok (.iload_n 1, 1) := by decide +kernel
theorem d_M_likesLine_111 : decode b_M_likesLine 111 = .ok (.aload_n 0, 1) := by decide +kernel
theorem d_M_likesLine_112 : decode b_M_likesLine 112 = .ok (.getfield 44, 3) := by decide +kernel
theorem d_M_likesLine_115 : decode b_M_likesLine 115 = .ok (.iconst 2, 1) := by decide +kernel
theorem d_M_likesLine_116 : decode b_M_likesLine 116 = .ok (.iaload, 1) := by decide +kernel
theorem d_M_likesLine_117 : decode b_M_likesLine 117 = .ok (.if_icmp .gt 36, 3) := by decide +kernel
theorem d_M_likesLine_120 : decode b_M_likesLine 120 = .ok (.aload_n 0, 1) := by decide +kernel
theorem d_M_likesLine_121 : decode b_M_likesLine 121 = .ok (.getfield 41, 3) := by decide +kernel
theorem d_M_likesLine_124 : decode b_M_likesLine 124 = .ok (.bipush 42, 2) := by decide +kernel
theorem d_M_likesLine_126 : decode b_M_likesLine 126 = .ok (.bipush 27, 2) := by decide +kernel
theorem d_M_likesLine_128 : decode b_M_likesLine 128 = .ok (.aload_n 0, 1) := by decide +kernel
theorem d_M_likesLine_129 : decode b_M_likesLine 129 = .ok (.getfield 44, 3) := by decide +kernel
theorem d_M_likesLine_132 : decode b_M_likesLine 132 = .ok (.iconst 0, 1) := by decide +kernel
theorem d_M_likesLine_133 : decode b_M_likesLine 133 = .ok (.iaload, 1) := by decide +kernel
theorem d_M_likesLine_134 : decode b_M_likesLine 134 = .ok (.imul, 1) := by decide +kernel
theorem d_M_likesLine_135 : decode b_M_likesLine 135 = .ok (.iadd, 1) := by decide +kernel
theorem d_M_likesLine_136 : decode b_M_likesLine 136 = .ok (.iconst 3, 1) := by decide +kernel
theorem d_M_likesLine_137 : decode b_M_likesLine 137 = .ok (.iadd, 1) := by decide +kernel
theorem d_M_likesLine_138 : decode b_M_likesLine 138 = .ok (.iload_n 1, 1) := by decide +kernel
theorem d_M_likesLine_139 : decode b_M_likesLine 139 = .ok (.iadd, 1) := by decide +kernel
theorem d_M_likesLine_140 : decode b_M_likesLine 140 = .ok (.aload_n 0, 1) := by decide +kernel
theorem d_M_likesLine_141 : decode b_M_likesLine 141 = .ok (.getfield 44, 3) := by decide +kernel
theorem d_M_likesLine_144 : decode b_M_likesLine 144 = .ok (.iconst 3, 1) := by decide +kernel
theorem d_M_likesLine_145 : decode b_M_likesLine 145 = .ok (.iaload, 1) := by decide +kernel
theorem d_M_likesLine_146 : decode b_M_likesLine 146 = .ok (.iastore, 1) := by decide +kernel
theorem d_M_likesLine_147 : decode b_M_likesLine 147 = .ok (.iinc 1 1, 3) := by decide +kernel
theorem d_M_likesLine_150 : decode b_M_likesLine 150 = .ok (.goto (-47), 3) := by decide +kernel
theorem d_M_likesLine_153 : decode b_M_likesLine 153 = .ok (.iconst 1, 1) := by decide +kernel
theorem d_M_likesLine_154 : decode b_M_likesLine 154 = .ok (.ireturn, 1) := by decide +kernel
theorem d_M_take_0 : decode b_M_take 0 = .ok (.aload_n 0, 1) := by decide +kernel
theorem d_M_take_1 : decode b_M_take 1 = .ok (.getfield 113, 3) := by decide +kernel
theorem d_M_take_4 : decode b_M_take 4 = .ok (.iconst 3, 1) := by decide +kernel
theorem d_M_take_5 : decode b_M_take 5 = .ok (.if_icmp .eq 8, 3) := by decide +kernel
theorem d_M_take_8 : decode b_M_take 8 = .ok (.aload_n 0, 1) := by decide +kernel
theorem d_M_take_9 : decode b_M_take 9 = .ok (.invokevirtual 128, 3) := by decide +kernel
theorem d_M_take_12 : decode b_M_take 12 = .ok (.ireturn, 1) := by decide +kernel
theorem d_M_take_13 : decode b_M_take 13 = .ok (.aload_n 0, 1) := by decide +kernel
theorem d_M_take_14 : decode b_M_take 14 = .ok (.getfield 44, 3) := by decide +kernel
theorem d_M_take_17 : decode b_M_take 17 = .ok (.iload_n 1, 1) := by decide +kernel
theorem d_M_take_18 : decode b_M_take 18 = .ok (.aload_n 0, 1) := by decide +kernel
theorem d_M_take_19 : decode b_M_take 19 = .ok (.getfield 116, 3) := by decide +kernel
theorem d_M_take_22 : decode b_M_take 22 = .ok (.iastore, 1) := by decide +kernel
theorem d_M_take_23 : decode b_M_take 23 = .ok (.aload_n 0, 1) := by decide +kernel
theorem d_M_take_24 : decode b_M_take 24 = .ok (.getfield 116, 3) := by decide +kernel
theorem d_M_take_27 : decode b_M_take 27 = .ok (.iload_n 2, 1) := by decide +kernel
theorem d_M_take_28 : decode b_M_take 28 = .ok (.iload_n 3, 1) := by decide +kernel
theorem d_M_take_29 : decode b_M_take 29 = .ok (.invokestatic 88, 3) := by decide +kernel
theorem d_M_take_32 : decode b_M_take 32 = .ok (.ifCond .ne 17, 3) := by decide +kernel
theorem d_M_take_35 : decode b_M_take 35 = .ok (.aload_n 0, 1) := by decide +kernel
theorem d_M_take_36 : decode b_M_take 36 = .ok (.iconst 2, 1) := by decide +kernel
theorem d_M_take_37 : decode b_M_take 37 = .ok (.aload_n 0, 1) := by decide +kernel
theorem d_M_take_38 : decode b_M_take 38 = .ok (.getfield 106, 3) := by decide +kernel
theorem d_M_take_41 : decode b_M_take 41 = .ok (.invokevirtual 132, 3) := by decide +kernel
theorem d_M_take_44 : decode b_M_take 44 = .ok (.aload_n 0, 1) := by decide +kernel
theorem d_M_take_45 : decode b_M_take 45 = .ok (.iconst 0, 1) := by decide +kernel
theorem d_M_take_46 : decode b_M_take 46 = .ok (.putfield 136, 3) := by decide +kernel
theorem d_M_take_49 : decode b_M_take 49 = .ok (.aload_n 0, 1) := by decide +kernel
theorem d_M_take_50 : decode b_M_take 50 = .ok (.invokevirtual 140, 3) := by decide +kernel
theorem d_M_take_53 : decode b_M_take 53 = .ok (.iconst 1, 1) := by decide +kernel
theorem d_M_take_54 : decode b_M_take 54 = .ok (.ireturn, 1) := by decide +kernel
theorem d_M_greater_0 : decode b_M_greater 0 = .ok (.iload_n 0, 1) := by decide +kernel
theorem d_M_greater_1 : decode b_M_greater 1 = .ok (.iload_n 1, 1) := by decide +kernel
theorem d_M_greater_2 : decode b_M_greater 2 = .ok (.if_icmp .le 7, 3) := by decide +kernel
theorem d_M_greater_5 : decode b_M_greater 5 = .ok (.iload_n 0, 1) := by decide +kernel
theorem d_M_greater_6 : decode b_M_greater 6 = .ok (.goto 4, 3) := by decide +kernel
theorem d_M_greater_9 : decode b_M_greater 9 = .ok (.iload_n 1, 1) := by decide +kernel
theorem d_M_greater_10 : decode b_M_greater 10 = .ok (.ireturn, 1) := by decide +kernel
theorem d_M_keep_0 : decode b_M_keep 0 = .ok (.aload_n 0, 1) := by decide +kernel
theorem d_M_keep_1 : decode b_M_keep 1 = .ok (.getfield 41, 3) := by decide +kernel
theorem d_M_keep_4 : decode b_M_keep 4 = .ok (.iload_n 1, 1) := by decide +kernel
theorem d_M_keep_5 : decode b_M_keep 5 = .ok (.iaload, 1) := by decide +kernel
theorem d_M_keep_6 : decode b_M_keep 6 = .ok (.istore 6, 2) := by decide +kernel
theorem d_M_keep_8 : decode b_M_keep 8 = .ok (.iload 6, 2) := by decide +kernel
theorem d_M_keep_10 : decode b_M_keep 10 = .ok (.iload 5, 2) := by decide +kernel
theorem d_M_keep_12 : decode b_M_keep 12 = .ok (.if_icmp .ne 4, 3) := by decide +kernel
theorem d_M_keep_15 : decode b_M_keep 15 = .ok (.return_, 1) := by decide +kernel
theorem d_M_keep_16 : decode b_M_keep 16 = .ok (.iconst 0, 1) := by decide +kernel
theorem d_M_keep_17 : decode b_M_keep 17 = .ok (.istore 7, 2) := by decide +kernel
theorem d_M_keep_19 : decode b_M_keep 19 = .ok (.iload 7, 2) := by decide +kernel
theorem d_M_keep_21 : decode b_M_keep 21 = .ok (.iload 4, 2) := by decide +kernel
theorem d_M_keep_23 : decode b_M_keep 23 = .ok (.if_icmp .ge 30, 3) := by decide +kernel
theorem d_M_keep_26 : decode b_M_keep 26 = .ok (.aload_n 0, 1) := by decide +kernel
theorem d_M_keep_27 : decode b_M_keep 27 = .ok (.getfield 41, 3) := by decide +kernel
theorem d_M_keep_30 : decode b_M_keep 30 = .ok (.iload_n 2, 1) := by decide +kernel
theorem d_M_keep_31 : decode b_M_keep 31 = .ok (.iload_n 3, 1) := by decide +kernel
theorem d_M_keep_32 : decode b_M_keep 32 = .ok (.iload 6, 2) := by decide +kernel
theorem d_M_keep_34 : decode b_M_keep 34 = .ok (.imul, 1) := by decide +kernel
theorem d_M_keep_35 : decode b_M_keep 35 = .ok (.iadd, 1) := by decide +kernel
theorem d_M_keep_36 : decode b_M_keep 36 = .ok (.iload 7, 2) := by decide +kernel
theorem d_M_keep_38 : decode b_M_keep 38 = .ok (.iadd, 1) := by decide +kernel
theorem d_M_keep_39 : decode b_M_keep 39 = .ok (.aload_n 0, 1) := by decide +kernel
theorem d_M_keep_40 : decode b_M_keep 40 = .ok (.getfield 44, 3) := by decide +kernel
theorem d_M_keep_43 : decode b_M_keep 43 = .ok (.iload 7, 2) := by decide +kernel
theorem d_M_keep_45 : decode b_M_keep 45 = .ok (.iaload, 1) := by decide +kernel
theorem d_M_keep_46 : decode b_M_keep 46 = .ok (.iastore, 1) := by decide +kernel
theorem d_M_keep_47 : decode b_M_keep 47 = .ok (.iinc 7 1, 3) := by decide +kernel
theorem d_M_keep_50 : decode b_M_keep 50 = .ok (.goto (-31), 3) := by decide +kernel
theorem d_M_keep_53 : decode b_M_keep 53 = .ok (.aload_n 0, 1) := by decide +kernel
theorem d_M_keep_54 : decode b_M_keep 54 = .ok (.getfield 41, 3) := by decide +kernel
theorem d_M_keep_57 : decode b_M_keep 57 = .ok (.iload_n 1, 1) := by decide +kernel
theorem d_M_keep_58 : decode b_M_keep 58 = .ok (.dup2, 1) := by decide +kernel
theorem d_M_keep_59 : decode b_M_keep 59 = .ok (.iaload, 1) := by decide +kernel
theorem d_M_keep_60 : decode b_M_keep 60 = .ok (.iconst 1, 1) := by decide +kernel
theorem d_M_keep_61 : decode b_M_keep 61 = .ok (.iadd, 1) := by decide +kernel
theorem d_M_keep_62 : decode b_M_keep 62 = .ok (.iastore, 1) := by decide +kernel
theorem d_M_keep_63 : decode b_M_keep 63 = .ok (.return_, 1) := by decide +kernel
theorem d_M_treatyLine_0 : decode b_M_treatyLine 0 = .ok (.lload_n 1, 1) := by decide +kernel
theorem d_M_treatyLine_1 : decode b_M_treatyLine 1 = .ok (.ldc2_w 183, 3) := by decide +kernel
theorem d_M_treatyLine_4 : decode b_M_treatyLine 4 = .ok (.lcmp, 1) := by decide +kernel
theorem d_M_treatyLine_5 : decode b_M_treatyLine 5 = .ok (.ifCond .eq 8, 3) := by decide +kernel
theorem d_M_treatyLine_8 : decode b_M_treatyLine 8 = .ok (.aload_n 0, 1) := by decide +kernel
theorem d_M_treatyLine_9 : decode b_M_treatyLine 9 = .ok (.invokevirtual 128, 3) := by decide +kernel
theorem d_M_treatyLine_12 : decode b_M_treatyLine 12 = .ok (.ireturn, 1) := by decide +kernel
theorem d_M_treatyLine_13 : decode b_M_treatyLine 13 = .ok (.aload_n 0, 1) := by decide +kernel
theorem d_M_treatyLine_14 : decode b_M_treatyLine 14 = .ok (.invokevirtual 140, 3) := by decide +kernel
theorem d_M_treatyLine_17 : decode b_M_treatyLine 17 = .ok (.aload_n 0, 1) := by decide +kernel
theorem d_M_treatyLine_18 : decode b_M_treatyLine 18 = .ok (.iconst 0, 1) := by decide +kernel
theorem d_M_treatyLine_19 : decode b_M_treatyLine 19 = .ok (.iconst 0, 1) := by decide +kernel
theorem d_M_treatyLine_20 : decode b_M_treatyLine 20 = .ok (.iconst 2, 1) := by decide +kernel
theorem d_M_treatyLine_21 : decode b_M_treatyLine 21 = .ok (.invokevirtual 143, 3) := by decide +kernel
theorem d_M_treatyLine_24 : decode b_M_treatyLine 24 = .ok (.ifCond .eq 30, 3) := by decide +kernel
theorem d_M_treatyLine_27 : decode b_M_treatyLine 27 = .ok (.aload_n 0, 1) := by decide +kernel
theorem d_M_treatyLine_28 : decode b_M_treatyLine 28 = .ok (.iconst 1, 1) := by decide +kernel
theorem d_M_treatyLine_29 : decode b_M_treatyLine 29 = .ok (.iconst 0, 1) := by decide +kernel
theorem d_M_treatyLine_30 : decode b_M_treatyLine 30 = .ok (.bipush 23, 2) := by decide +kernel
theorem d_M_treatyLine_32 : decode b_M_treatyLine 32 = .ok (.invokevirtual 143, 3) := by decide +kernel
theorem d_M_treatyLine_35 : decode b_M_treatyLine 35 = .ok (.ifCond .eq 19, 3) := by decide +kernel
theorem d_M_treatyLine_38 : decode b_M_treatyLine 38 = .ok (.aload_n 0, 1) := by decide +kernel
theorem d_M_treatyLine_39 : decode b_M_treatyLine 39 = .ok (.iconst 2, 1) := by decide +kernel
theorem d_M_treatyLine_40 : decode b_M_treatyLine 40 = .ok (.aload_n 0, 1) := by decide +kernel
theorem d_M_treatyLine_41 : decode b_M_treatyLine 41 = .ok (.getfield 44, 3) := by decide +kernel
theorem d_M_treatyLine_44 : decode b_M_treatyLine 44 = .ok (.iconst 1, 1) := by decide +kernel
theorem d_M_treatyLine_45 : decode b_M_treatyLine 45 = .ok (.iaload, 1) := by decide +kernel
theorem d_M_treatyLine_46 : decode b_M_treatyLine 46 = .ok (.bipush 23, 2) := by decide +kernel
theorem d_M_treatyLine_48 : decode b_M_treatyLine 48 = .ok (.invokevirtual 143, 3) := by decide +kernel
theorem d_M_treatyLine_51 : decode b_M_treatyLine 51 = .ok (.ifCond .ne 5, 3) := by decide +kernel
theorem d_M_treatyLine_54 : decode b_M_treatyLine 54 = .ok (.iconst 0, 1) := by decide +kernel
theorem d_M_treatyLine_55 : decode b_M_treatyLine 55 = .ok (.ireturn, 1) := by decide +kernel
theorem d_M_treatyLine_56 : decode b_M_treatyLine 56 = .ok (.aload_n 0, 1) := by decide +kernel
theorem d_M_treatyLine_57 : decode b_M_treatyLine 57 = .ok (.getfield 44, 3) := by decide +kernel
theorem d_M_treatyLine_60 : decode b_M_treatyLine 60 = .ok (.iconst 1, 1) := by decide +kernel
theorem d_M_treatyLine_61 : decode b_M_treatyLine 61 = .ok (.iaload, 1) := by decide +kernel
theorem d_M_treatyLine_62 : decode b_M_treatyLine 62 = .ok (.istore_n 3, 1) := by decide +kernel
theorem d_M_treatyLine_63 : decode b_M_treatyLine 63 = .ok (.aload_n 0, 1) := by decide +kernel
theorem d_M_treatyLine_64 : decode b_M_treatyLine 64 = .ok (.getfield 136, 3) := by decide +kernel
theorem d_M_treatyLine_67 : decode b_M_treatyLine 67 = .ok (.ifCond .eq 31, 3) := by decide +kernel
theorem d_M_treatyLine_70 : decode b_M_treatyLine 70 = .ok (.iload_n 3, 1) := by decide +kernel
theorem d_M_treatyLine_71 : decode b_M_treatyLine 71 = .ok (.aload_n 0, 1) := by decide +kernel
theorem d_M_treatyLine_72 : decode b_M_treatyLine 72 = .ok (.getfield 44, 3) := by decide +kernel
theorem d_M_treatyLine_75 : decode b_M_treatyLine 75 = .ok (.iconst 2, 1) := by decide +kernel
theorem d_M_treatyLine_76 : decode b_M_treatyLine 76 = .ok (.iaload, 1) := by decide +kernel
theorem d_M_treatyLine_77 : decode b_M_treatyLine 77 = .ok (.if_icmp .gt 21, 3) := by decide +kernel
theorem d_M_treatyLine_80 : decode b_M_treatyLine 80 = .ok (.aload_n 0, 1) := by decide +kernel
theorem d_M_treatyLine_81 : decode b_M_treatyLine 81 = .ok (.getfield 41, 3) := by decide +kernel
theorem d_M_treatyLine_84 : decode b_M_treatyLine 84 = .ok (.iload_n 3, 1) := by decide +kernel
theorem d_M_treatyLine_85 : decode b_M_treatyLine 85 = .ok (.aload_n 0, 1) := by decide +kernel
theorem d_M_treatyLine_86 : decode b_M_treatyLine 86 = .ok (.getfield 44, 3) := by decide +kernel
theorem d_M_treatyLine_89 : decode b_M_treatyLine 89 = .ok (.iconst 0, 1) := by decide +kernel
theorem d_M_treatyLine_90 : decode b_M_treatyLine 90 = .ok (.iaload, 1) := by decide +kernel
theorem d_M_treatyLine_91 : decode b_M_treatyLine 91 = .ok (.iastore, 1) := by decide +kernel
theorem d_M_treatyLine_92 : decode b_M_treatyLine 92 = .ok (.iinc 3 1, 3) := by decide +kernel
theorem d_M_treatyLine_95 : decode b_M_treatyLine 95 = .ok (.goto (-32), 3) := by decide +kernel
theorem d_M_treatyLine_98 : decode b_M_treatyLine 98 = .ok (.iconst 1, 1) := by decide +kernel
theorem d_M_treatyLine_99 : decode b_M_treatyLine 99 = .ok (.ireturn, 1) := by decide +kernel
theorem d_M_bookLine_0 : decode b_M_bookLine 0 = .ok (.lload_n 1, 1) := by decide +kernel
theorem d_M_bookLine_1 : decode b_M_bookLine 1 = .ok (.ldc2_w 185, 3) := by decide +kernel
theorem d_M_bookLine_4 : decode b_M_bookLine 4 = .ok (.lcmp, 1) := by decide +kernel
theorem d_M_bookLine_5 : decode b_M_bookLine 5 = .ok (.ifCond .eq 8, 3) := by decide +kernel
theorem d_M_bookLine_8 : decode b_M_bookLine 8 = .ok (.aload_n 0, 1) := by decide +kernel
theorem d_M_bookLine_9 : decode b_M_bookLine 9 = .ok (.invokevirtual 128, 3) := by decide +kernel
theorem d_M_bookLine_12 : decode b_M_bookLine 12 = .ok (.ireturn, 1) := by decide +kernel
theorem d_M_bookLine_13 : decode b_M_bookLine 13 = .ok (.aload_n 0, 1) := by decide +kernel
theorem d_M_bookLine_14 : decode b_M_bookLine 14 = .ok (.iconst 0, 1) := by decide +kernel
theorem d_M_bookLine_15 : decode b_M_bookLine 15 = .ok (.bipush 30, 2) := by decide +kernel
theorem d_M_bookLine_17 : decode b_M_bookLine 17 = .ok (.iload_n 3, 1) := by decide +kernel
theorem d_M_bookLine_18 : decode b_M_bookLine 18 = .ok (.invokevirtual 172, 3) := by decide +kernel
theorem d_M_bookLine_21 : decode b_M_bookLine 21 = .ok (.aload_n 0, 1) := by decide +kernel
theorem d_M_bookLine_22 : decode b_M_bookLine 22 = .ok (.invokevirtual 140, 3) := by decide +kernel
theorem d_M_bookLine_25 : decode b_M_bookLine 25 = .ok (.aload_n 0, 1) := by decide +kernel
theorem d_M_bookLine_26 : decode b_M_bookLine 26 = .ok (.iconst 0, 1) := by decide +kernel
theorem d_M_bookLine_27 : decode b_M_bookLine 27 = .ok (.iconst 0, 1) := by decide +kernel
theorem d_M_bookLine_28 : decode b_M_bookLine 28 = .ok (.iconst 2, 1) := by decide +kernel
theorem d_M_bookLine_29 : decode b_M_bookLine 29 = .ok (.invokevirtual 143, 3) := by decide +kernel
theorem d_M_bookLine_32 : decode b_M_bookLine 32 = .ok (.ifCond .eq 14, 3) := by decide +kernel
theorem d_M_bookLine_35 : decode b_M_bookLine 35 = .ok (.aload_n 0, 1) := by decide +kernel
theorem d_M_bookLine_36 : decode b_M_bookLine 36 = .ok (.iconst 1, 1) := by decide +kernel
theorem d_M_bookLine_37 : decode b_M_bookLine 37 = .ok (.iconst 1, 1) := by decide +kernel
theorem d_M_bookLine_38 : decode b_M_bookLine 38 = .ok (.bipush 24, 2) := by decide +kernel
theorem d_M_bookLine_40 : decode b_M_bookLine 40 = .ok (.invokevirtual 143, 3) := by decide +kernel
theorem d_M_bookLine_43 : decode b_M_bookLine 43 = .ok (.ifCond .ne 5, 3) := by decide +kernel
theorem d_M_bookLine_46 : decode b_M_bookLine 46 = .ok (.iconst 0, 1) := by decide +kernel
theorem d_M_bookLine_47 : decode b_M_bookLine 47 = .ok (.ireturn, 1) := by decide +kernel
theorem d_M_bookLine_48 : decode b_M_bookLine 48 = .ok (.aload_n 0, 1) := by decide +kernel
theorem d_M_bookLine_49 : decode b_M_bookLine 49 = .ok (.dup, 1) := by decide +kernel
theorem d_M_bookLine_50 : decode b_M_bookLine 50 = .ok (.getfield 187, 3) := by decide +kernel
theorem d_M_bookLine_53 : decode b_M_bookLine 53 = .ok (.aload_n 0, 1) := by decide +kernel
theorem d_M_bookLine_54 : decode b_M_bookLine 54 = .ok (.getfield 44, 3) := by decide +kernel
theorem d_M_bookLine_57 : decode b_M_bookLine 57 = .ok (.iconst 1, 1) := by decide +kernel
theorem d_M_bookLine_58 : decode b_M_bookLine 58 = .ok (.iaload, 1) := by decide +kernel
theorem d_M_bookLine_59 : decode b_M_bookLine 59 = .ok (.iadd, 1) := by decide +kernel
theorem d_M_bookLine_60 : decode b_M_bookLine 60 = .ok (.putfield 187, 3) := by decide +kernel
theorem d_M_bookLine_63 : decode b_M_bookLine 63 = .ok (.aload_n 0, 1) := by decide +kernel
theorem d_M_bookLine_64 : decode b_M_bookLine 64 = .ok (.iconst 0, 1) := by decide +kernel
theorem d_M_bookLine_65 : decode b_M_bookLine 65 = .ok (.iconst 1, 1) := by decide +kernel
theorem d_M_bookLine_66 : decode b_M_bookLine 66 = .ok (.iconst 2, 1) := by decide +kernel
theorem d_M_bookLine_67 : decode b_M_bookLine 67 = .ok (.iconst 2, 1) := by decide +kernel
theorem d_M_bookLine_68 : decode b_M_bookLine 68 = .ok (.bipush 30, 2) := by decide +kernel
theorem d_M_bookLine_70 : decode b_M_bookLine 70 = .ok (.invokevirtual 179, 3) := by decide +kernel
theorem d_M_bookLine_73 : decode b_M_bookLine 73 = .ok (.iconst 1, 1) := by decide +kernel
theorem d_M_bookLine_74 : decode b_M_bookLine 74 = .ok (.ireturn, 1) := by decide +kernel
theorem d_M_sightLine_0 : decode b_M_sightLine 0 = .ok (.lload_n 1, 1) := by decide +kernel
theorem d_M_sightLine_1 : decode b_M_sightLine 1 = .ok (.ldc2_w 190, 3) := by decide +kernel
theorem d_M_sightLine_4 : decode b_M_sightLine 4 = .ok (.lcmp, 1) := by decide +kernel
theorem d_M_sightLine_5 : decode b_M_sightLine 5 = .ok (.ifCond .eq 8, 3) := by decide +kernel
theorem d_M_sightLine_8 : decode b_M_sightLine 8 = .ok (.aload_n 0, 1) := by decide +kernel
theorem d_M_sightLine_9 : decode b_M_sightLine 9 = .ok (.invokevirtual 128, 3) := by decide +kernel
theorem d_M_sightLine_12 : decode b_M_sightLine 12 = .ok (.ireturn, 1) := by decide +kernel
theorem d_M_sightLine_13 : decode b_M_sightLine 13 = .ok (.aload_n 0, 1) := by decide +kernel
theorem d_M_sightLine_14 : decode b_M_sightLine 14 = .ok (.iconst 0, 1) := by decide +kernel
theorem d_M_sightLine_15 : decode b_M_sightLine 15 = .ok (.bipush 20, 2) := by decide +kernel
theorem d_M_sightLine_17 : decode b_M_sightLine 17 = .ok (.iload_n 3, 1) := by decide +kernel
theorem d_M_sightLine_18 : decode b_M_sightLine 18 = .ok (.invokevirtual 172, 3) := by decide +kernel
theorem d_M_sightLine_21 : decode b_M_sightLine 21 = .ok (.aload_n 0, 1) := by decide +kernel
theorem d_M_sightLine_22 : decode b_M_sightLine 22 = .ok (.invokevirtual 140, 3) := by decide +kernel
theorem d_M_sightLine_25 : decode b_M_sightLine 25 = .ok (.aload_n 0, 1) := by decide +kernel
theorem d_M_sightLine_26 : decode b_M_sightLine 26 = .ok (.iconst 0, 1) := by decide +kernel
theorem d_M_sightLine_27 : decode b_M_sightLine 27 = .ok (.iconst 0, 1) := by decide +kernel
theorem d_M_sightLine_28 : decode b_M_sightLine 28 = .ok (.bipush 9, 2) := by decide +kernel
theorem d_M_sightLine_30 : decode b_M_sightLine 30 = .ok (.invokevirtual 143, 3) := by decide +kernel
theorem d_M_sightLine_33 : decode b_M_sightLine 33 = .ok (.ifCond .eq 14, 3) := by decide +kernel
theorem d_M_sightLine_36 : decode b_M_sightLine 36 = .ok (.aload_n 0, 1) := by decide +kernel
theorem d_M_sightLine_37 : decode b_M_sightLine 37 = .ok (.iconst 1, 1) := by decide +kernel
theorem d_M_sightLine_38 : decode b_M_sightLine 38 = .ok (.iconst 0, 1) := by decide +kernel
theorem d_M_sightLine_39 : decode b_M_sightLine 39 = .ok (.bipush 23, 2) := by decide +kernel
theorem d_M_sightLine_41 : decode b_M_sightLine 41 = .ok (.invokevirtual 143, 3) := by decide +kernel
theorem d_M_sightLine_44 : decode b_M_sightLine 44 = .ok (.ifCond .ne 5, 3) := by decide +kernel
theorem d_M_sightLine_47 : decode b_M_sightLine 47 = .ok (.iconst 0, 1) := by decide +kernel
theorem d_M_sightLine_48 : decode b_M_sightLine 48 = .ok (.ireturn, 1) := by decide +kernel
theorem d_M_sightLine_49 : decode b_M_sightLine 49 = .ok (.aload_n 0, 1) := by decide +kernel
theorem d_M_sightLine_50 : decode b_M_sightLine 50 = .ok (.getfield 113, 3) := by decide +kernel
theorem d_M_sightLine_53 : decode b_M_sightLine 53 = .ok (.iconst 2, 1) := by decide +kernel
theorem d_M_sightLine_54 : decode b_M_sightLine 54 = .ok (.if_icmp .ne 10, 3) := by decide +kernel
theorem d_M_sightLine_57 : decode b_M_sightLine 57 = .ok (.aload_n 0, 1) := by decide +kernel
theorem d_M_sightLine_58 : decode b_M_sightLine 58 = .ok (.getfield 109, 3) := by decide +kernel
theorem d_M_sightLine_61 : decode b_M_sightLine 61 = .ok (.goto 4, 3) := by decide +kernel
theorem d_M_sightLine_64 : decode b_M_sightLine 64 = .ok (.lconst 0, 1) := by decide +kernel
theorem d_M_sightLine_65 : decode b_M_sightLine 65 = .ok (.lstore 4, 2) := by decide +kernel
theorem d_M_sightLine_67 : decode b_M_sightLine 67 = .ok (.lload 4, 2) := by decide +kernel
theorem d_M_sightLine_69 : decode b_M_sightLine 69 = .ok (.ldc2_w 192, 3) := by decide +kernel
theorem d_M_sightLine_72 : decode b_M_sightLine 72 = .ok (.lcmp, 1) := by decide +kernel
theorem d_M_sightLine_73 : decode b_M_sightLine 73 = .ok (.ifCond .eq 17, 3) := by decide +kernel
theorem d_M_sightLine_76 : decode b_M_sightLine 76 = .ok (.lload 4, 2) := by decide +kernel
theorem d_M_sightLine_78 : decode b_M_sightLine 78 = .ok (.ldc2_w 194, 3) := by decide +kernel
theorem d_M_sightLine_81 : decode b_M_sightLine 81 = .ok (.lcmp, 1) := by decide +kernel
theorem d_M_sightLine_82 : decode b_M_sightLine 82 = .ok (.ifCond .eq 8, 3) := by decide +kernel
theorem d_M_sightLine_85 : decode b_M_sightLine 85 = .ok (.aload_n 0, 1) := by decide +kernel
theorem d_M_sightLine_86 : decode b_M_sightLine 86 = .ok (.invokevirtual 128, 3) := by decide +kernel
theorem d_M_sightLine_89 : decode b_M_sightLine 89 = .ok (.ireturn, 1) := by decide +kernel
theorem d_M_sightLine_90 : decode b_M_sightLine 90 = .ok (.aload_n 0, 1) := by decide +kernel
theorem d_M_sightLine_91 : decode b_M_sightLine 91 = .ok (.invokevirtual 140, 3) := by decide +kernel
theorem d_M_sightLine_94 : decode b_M_sightLine 94 = .ok (.aload_n 0, 1) := by decide +kernel
theorem d_M_sightLine_95 : decode b_M_sightLine 95 = .ok (.getfield 44, 3) := by decide +kernel
theorem d_M_sightLine_98 : decode b_M_sightLine 98 = .ok (.iconst 2, 1) := by decide +kernel
theorem d_M_sightLine_99 : decode b_M_sightLine 99 = .ok (.lload 4, 2) := by decide +kernel
theorem d_M_sightLine_101 : decode b_M_sightLine 101 = .ok (.ldc2_w 192, 3) := by decide +kernel
theorem d_M_sightLine_104 : decode b_M_sightLine 104 = .ok (.lcmp, 1) := by decide +kernel
theorem d_M_sightLine_105 : decode b_M_sightLine 105 = .ok (.ifCond .ne 7, 3) := by decide +kernel
theorem d_M_sightLine_108 : decode b_M_sightLine 108 = .ok (.iconst 1, 1) := by decide +kernel
theorem d_M_sightLine_109 : decode b_M_sightLine 109 = .ok (.goto 4, 3) := by decide +kernel
theorem d_M_sightLine_112 : decode b_M_sightLine 112 = .ok (.iconst 0, 1) := by decide +kernel
theorem d_M_sightLine_113 : decode b_M_sightLine 113 = .ok (.iastore, 1) := by decide +kernel
theorem d_M_sightLine_114 : decode b_M_sightLine 114 = .ok (.aload_n 0, 1) := by decide +kernel
theorem d_M_sightLine_115 : decode b_M_sightLine 115 = .ok (.iconst 0, 1) := by decide +kernel
theorem d_M_sightLine_116 : decode b_M_sightLine 116 = .ok (.iconst 1, 1) := by decide +kernel
theorem d_M_sightLine_117 : decode b_M_sightLine 117 = .ok (.iconst 3, 1) := by decide +kernel
theorem d_M_sightLine_118 : decode b_M_sightLine 118 = .ok (.iconst 3, 1) := by decide +kernel
theorem d_M_sightLine_119 : decode b_M_sightLine 119 = .ok (.bipush 20, 2) := by decide +kernel
theorem d_M_sightLine_121 : decode b_M_sightLine 121 = .ok (.invokevirtual 179, 3) := by decide +kernel
theorem d_M_sightLine_124 : decode b_M_sightLine 124 = .ok (.iconst 1, 1) := by decide +kernel
theorem d_M_sightLine_125 : decode b_M_sightLine 125 = .ok (.ireturn, 1) := by decide +kernel
theorem d_M_gameLine_0 : decode b_M_gameLine 0 = .ok (.lload_n 1, 1) := by decide +kernel
theorem d_M_gameLine_1 : decode b_M_gameLine 1 = .ok (.ldc2_w 196, 3) := by decide +kernel
theorem d_M_gameLine_4 : decode b_M_gameLine 4 = .ok (.lcmp, 1) := by decide +kernel
theorem d_M_gameLine_5 : decode b_M_gameLine 5 = .ok (.ifCond .eq 8, 3) := by decide +kernel
theorem d_M_gameLine_8 : decode b_M_gameLine 8 = .ok (.aload_n 0, 1) := by decide +kernel
theorem d_M_gameLine_9 : decode b_M_gameLine 9 = .ok (.invokevirtual 128, 3) := by decide +kernel
theorem d_M_gameLine_12 : decode b_M_gameLine 12 = .ok (.ireturn, 1) := by decide +kernel
theorem d_M_gameLine_13 : decode b_M_gameLine 13 = .ok (.aload_n 0, 1) := by decide +kernel
theorem d_M_gameLine_14 : decode b_M_gameLine 14 = .ok (.invokevirtual 140, 3) := by decide +kernel
theorem d_M_gameLine_17 : decode b_M_gameLine 17 = .ok (.aload_n 0, 1) := by decide +kernel
theorem d_M_gameLine_18 : decode b_M_gameLine 18 = .ok (.iconst 0, 1) := by decide +kernel
theorem d_M_gameLine_19 : decode b_M_gameLine 19 = .ok (.iconst 1, 1) := by decide +kernel
theorem d_M_gameLine_20 : decode b_M_gameLine 20 = .ok (.bipush 7, 2) := by decide +kernel
theorem d_M_gameLine_22 : decode b_M_gameLine 22 = .ok (.invokevirtual 143, 3) := by decide +kernel
theorem d_M_gameLine_25 : decode b_M_gameLine 25 = .ok (.ifCond .eq 14, 3) := by decide +kernel
theorem d_M_gameLine_28 : decode b_M_gameLine 28 = .ok (.aload_n 0, 1) := by decide +kernel
theorem d_M_gameLine_29 : decode b_M_gameLine 29 = .ok (.iconst 1, 1) := by decide +kernel
theorem d_M_gameLine_30 : decode b_M_gameLine 30 = .ok (.iconst 0, 1) := by decide +kernel
theorem d_M_gameLine_31 : decode b_M_gameLine 31 = .ok (.bipush 60, 2) := by decide +kernel
theorem d_M_gameLine_33 : decode b_M_gameLine 33 = .ok (.invokevirtual 143, 3) := by decide +kernel
theorem d_M_gameLine_36 : decode b_M_gameLine 36 = .ok (.ifCond .ne 5, 3) := by decide +kernel
theorem d_M_gameLine_39 : decode b_M_gameLine 39 = .ok (.iconst 0, 1) := by decide +kernel
theorem d_M_gameLine_40 : decode b_M_gameLine 40 = .ok (.ireturn, 1) := by decide +kernel
theorem d_M_gameLine_41 : decode b_M_gameLine 41 = .ok (.aload_n 0, 1) := by decide +kernel
theorem d_M_gameLine_42 : decode b_M_gameLine 42 = .ok (.getfield 136, 3) := by decide +kernel
theorem d_M_gameLine_45 : decode b_M_gameLine 45 = .ok (.ifCond .eq 20, 3) := by decide +kernel
theorem d_M_gameLine_48 : decode b_M_gameLine 48 = .ok (.aload_n 0, 1) := by decide +kernel
theorem d_M_gameLine_49 : decode b_M_gameLine 49 = .ok (.getfield 41, 3) := by decide +kernel
theorem d_M_gameLine_52 : decode b_M_gameLine 52 = .ok (.aload_n 0, 1) := by decide +kernel
theorem d_M_gameLine_53 : decode b_M_gameLine 53 = .ok (.getfield 44, 3) := by decide +kernel
theorem d_M_gameLine_56 : decode b_M_gameLine 56 = .ok (.iconst 0, 1) := by decide +kernel
theorem d_M_gameLine_57 : decode b_M_gameLine 57 = .ok (.iaload, 1) := by decide +kernel
theorem d_M_gameLine_58 : decode b_M_gameLine 58 = .ok (.aload_n 0, 1) := by decide +kernel
theorem d_M_gameLine_59 : decode b_M_gameLine 59 = .ok (.getfield 44, 3) := by decide +kernel
theorem d_M_gameLine_62 : decode b_M_gameLine 62 = .ok (.iconst 1, 1) := by decide +kernel
theorem d_M_gameLine_63 : decode b_M_gameLine 63 = .ok (.iaload, 1) := by decide +kernel
theorem d_M_gameLine_64 : decode b_M_gameLine 64 = .ok (.iastore, 1) := by decide +kernel
theorem d_M_gameLine_65 : decode b_M_gameLine 65 = .ok (.iconst 1, 1) := by decide +kernel
theorem d_M_gameLine_66 : decode b_M_gameLine 66 = .ok (.ireturn, 1) := by decide +kernel
theorem d_M_storeAll_0 : decode b_M_storeAll 0 = .ok (.iload_n 1, 1) := by decide +kernel
theorem d_M_storeAll_1 : decode b_M_storeAll 1 = .ok (.tableswitch 80 0 3 #[31, 44, 56, 68], 31) := by decide +kernel
theorem d_M_storeAll_32 : decode b_M_storeAll 32 = .ok (.aload_n 0, 1) := by decide +kernel
theorem d_M_storeAll_33 : decode b_M_storeAll 33 = .ok (.aload_n 0, 1) := by decide +kernel
theorem d_M_storeAll_34 : decode b_M_storeAll 34 = .ok (.getfield 26, 3) := by decide +kernel
theorem d_M_storeAll_37 : decode b_M_storeAll 37 = .ok (.sipush 312, 3) := by decide +kernel
theorem d_M_storeAll_40 : decode b_M_storeAll 40 = .ok (.iload_n 2, 1) := by decide +kernel
theorem d_M_storeAll_41 : decode b_M_storeAll 41 = .ok (.invokevirtual 223, 3) := by decide +kernel
theorem d_M_storeAll_44 : decode b_M_storeAll 44 = .ok (.return_, 1) := by decide +kernel
theorem d_M_storeAll_45 : decode b_M_storeAll 45 = .ok (.aload_n 0, 1) := by decide +kernel
theorem d_M_storeAll_46 : decode b_M_storeAll 46 = .ok (.aload_n 0, 1) := by decide +kernel
theorem d_M_storeAll_47 : decode b_M_storeAll 47 = .ok (.getfield 29, 3) := by decide +kernel
theorem d_M_storeAll_50 : decode b_M_storeAll 50 = .ok (.bipush 24, 2) := by decide +kernel
theorem d_M_storeAll_52 : decode b_M_storeAll 52 = .ok (.iload_n 2, 1) := by decide +kernel
theorem d_M_storeAll_53 : decode b_M_storeAll 53 = .ok (.invokevirtual 223, 3) := by decide +kernel
theorem d_M_storeAll_56 : decode b_M_storeAll 56 = .ok (.return_, 1) := by decide +kernel
theorem d_M_storeAll_57 : decode b_M_storeAll 57 = .ok (.aload_n 0, 1) := by decide +kernel
theorem d_M_storeAll_58 : decode b_M_storeAll 58 = .ok (.aload_n 0, 1) := by decide +kernel
theorem d_M_storeAll_59 : decode b_M_storeAll 59 = .ok (.getfield 32, 3) := by decide +kernel
theorem d_M_storeAll_62 : decode b_M_storeAll 62 = .ok (.bipush 61, 2) := by decide +kernel
theorem d_M_storeAll_64 : decode b_M_storeAll 64 = .ok (.iload_n 2, 1) := by decide +kernel
theorem d_M_storeAll_65 : decode b_M_storeAll 65 = .ok (.invokevirtual 223, 3) := by decide +kernel
theorem d_M_storeAll_68 : decode b_M_storeAll 68 = .ok (.return_, 1) := by decide +kernel
theorem d_M_storeAll_69 : decode b_M_storeAll 69 = .ok (.aload_n 0, 1) := by decide +kernel
theorem d_M_storeAll_70 : decode b_M_storeAll 70 = .ok (.aload_n 0, 1) := by decide +kernel
theorem d_M_storeAll_71 : decode b_M_storeAll 71 = .ok (.getfield 35, 3) := by decide +kernel
theorem d_M_storeAll_74 : decode b_M_storeAll 74 = .ok (.bipush 61, 2) := by decide +kernel
theorem d_M_storeAll_76 : decode b_M_storeAll 76 = .ok (.iload_n 2, 1) := by decide +kernel
theorem d_M_storeAll_77 : decode b_M_storeAll 77 = .ok (.invokevirtual 223, 3) := by decide +kernel
theorem d_M_storeAll_80 : decode b_M_storeAll 80 = .ok (.return_, 1) := by decide +kernel
theorem d_M_storeAll_81 : decode b_M_storeAll 81 = .ok (.aload_n 0, 1) := by decide +kernel
theorem d_M_storeAll_82 : decode b_M_storeAll 82 = .ok (.aload_n 0, 1) := by decide +kernel
theorem d_M_storeAll_83 : decode b_M_storeAll 83 = .ok (.getfield 38, 3) := by decide +kernel
theorem d_M_storeAll_86 : decode b_M_storeAll 86 = .ok (.bipush 8, 2) := by decide +kernel
theorem d_M_storeAll_88 : decode b_M_storeAll 88 = .ok (.iload_n 2, 1) := by decide +kernel
theorem d_M_storeAll_89 : decode b_M_storeAll 89 = .ok (.invokevirtual 223, 3) := by decide +kernel
theorem d_M_storeAll_92 : decode b_M_storeAll 92 = .ok (.return_, 1) := by decide +kernel
theorem d_M_store_0 : decode b_M_store 0 = .ok (.iconst 0, 1) := by decide +kernel
theorem d_M_store_1 : decode b_M_store 1 = .ok (.istore 4, 2) := by decide +kernel
theorem d_M_store_3 : decode b_M_store 3 = .ok (.iload 4, 2) := by decide +kernel
theorem d_M_store_5 : decode b_M_store 5 = .ok (.iload_n 2, 1) := by decide +kernel
theorem d_M_store_6 : decode b_M_store 6 = .ok (.if_icmp .ge 24, 3) := by decide +kernel
theorem d_M_store_9 : decode b_M_store 9 = .ok (.aload_n 1, 1) := by decide +kernel
theorem d_M_store_10 : decode b_M_store 10 = .ok (.iload_n 2, 1) := by decide +kernel
theorem d_M_store_11 : decode b_M_store 11 = .ok (.iload_n 3, 1) := by decide +kernel
theorem d_M_store_12 : decode b_M_store 12 = .ok (.imul, 1) := by decide +kernel
theorem d_M_store_13 : decode b_M_store 13 = .ok (.iload 4, 2) := by decide +kernel
theorem d_M_store_15 : decode b_M_store 15 = .ok (.iadd, 1) := by decide +kernel
theorem d_M_store_16 : decode b_M_store 16 = .ok (.aload_n 0, 1) := by decide +kernel
theorem d_M_store_17 : decode b_M_store 17 = .ok (.getfield 41, 3) := by decide +kernel
theorem d_M_store_20 : decode b_M_store 20 = .ok (.iload 4, 2) := by decide +kernel
theorem d_M_store_22 : decode b_M_store 22 = .ok (.iaload, 1) := by decide +kernel
theorem d_M_store_23 : decode b_M_store 23 = .ok (.iastore, 1) := by decide +kernel
theorem d_M_store_24 : decode b_M_store 24 = .ok (.iinc 4 1, 3) := by decide +kernel
theorem d_M_store_27 : decode b_M_store 27 = .ok (.goto (-24), 3) := by decide +kernel
theorem d_M_store_30 : decode b_M_store 30 = .ok (.return_, 1) := by decide +kernel
theorem d_M_fault_0 : decode b_M_fault 0 = .ok (.aload_n 0, 1) := by decide +kernel
theorem d_M_fault_1 : decode b_M_fault 1 = .ok (.iconst 0, 1) := by decide +kernel
theorem d_M_fault_2 : decode b_M_fault 2 = .ok (.putfield 80, 3) := by decide +kernel
theorem d_M_fault_5 : decode b_M_fault 5 = .ok (.iload_n 1, 1) := by decide +kernel
theorem d_M_fault_6 : decode b_M_fault 6 = .ok (.ifCond .ne 12, 3) := by decide +kernel
theorem d_M_fault_9 : decode b_M_fault 9 = .ok (.aload_n 0, 1) := by decide +kernel
theorem d_M_fault_10 : decode b_M_fault 10 = .ok (.getfield 17, 3) := by decide +kernel
theorem d_M_fault_13 : decode b_M_fault 13 = .ok (.iconst 0, 1) := by decide +kernel
theorem d_M_fault_14 : decode b_M_fault 14 = .ok (.iaload, 1) := by decide +kernel
theorem d_M_fault_15 : decode b_M_fault 15 = .ok (.goto 18, 3) := by decide +kernel
theorem d_M_fault_18 : decode b_M_fault 18 = .ok (.iload_n 1, 1) := by decide +kernel
theorem d_M_fault_19 : decode b_M_fault 19 = .ok (.iconst 1, 1) := by decide +kernel
theorem d_M_fault_20 : decode b_M_fault 20 = .ok (.if_icmp .ne 12, 3) := by decide +kernel
theorem d_M_fault_23 : decode b_M_fault 23 = .ok (.aload_n 0, 1) := by decide +kernel
theorem d_M_fault_24 : decode b_M_fault 24 = .ok (.getfield 20, 3) := by decide +kernel
theorem d_M_fault_27 : decode b_M_fault 27 = .ok (.iconst 0, 1) := by decide +kernel
theorem d_M_fault_28 : decode b_M_fault 28 = .ok (.iaload, 1) := by decide +kernel
theorem d_M_fault_29 : decode b_M_fault 29 = .ok (.goto 4, 3) := by decide +kernel
theorem d_M_fault_32 : decode b_M_fault 32 = .ok (.iconst (-1), 1) := by decide +kernel
theorem d_M_fault_33 : decode b_M_fault 33 = .ok (.ireturn, 1) := by decide +kernel
theorem d_M_land_0 : decode b_M_land 0 = .ok (.aload_n 0, 1) := by decide +kernel
theorem d_M_land_1 : decode b_M_land 1 = .ok (.iconst 0, 1) := by decide +kernel
theorem d_M_land_2 : decode b_M_land 2 = .ok (.putfield 80, 3) := by decide +kernel
theorem d_M_land_5 : decode b_M_land 5 = .ok (.aload_n 0, 1) := by decide +kernel
theorem d_M_land_6 : decode b_M_land 6 = .ok (.iload_n 1, 1) := by decide +kernel
theorem d_M_land_7 : decode b_M_land 7 = .ok (.invokevirtual 259, 3) := by decide +kernel
theorem d_M_land_10 : decode b_M_land 10 = .ok (.ifCond .ne 5, 3) := by decide +kernel
theorem d_M_land_13 : decode b_M_land 13 = .ok (.iconst (-1), 1) := by decide +kernel
theorem d_M_land_14 : decode b_M_land 14 = .ok (.ireturn, 1) := by decide +kernel
theorem d_M_land_15 : decode b_M_land 15 = .ok (.iload_n 2, 1) := by decide +kernel
theorem d_M_land_16 : decode b_M_land 16 = .ok (.iconst 0, 1) := by decide +kernel
theorem d_M_land_17 : decode b_M_land 17 = .ok (.iconst 5, 1) := by decide +kernel
theorem d_M_land_18 : decode b_M_land 18 = .ok (.invokestatic 88, 3) := by decide +kernel
theorem d_M_land_21 : decode b_M_land 21 = .ok (.ifCond .eq 9, 3) := by decide +kernel
theorem d_M_land_24 : decode b_M_land 24 = .ok (.aload_n 0, 1) := by decide +kernel
theorem d_M_land_25 : decode b_M_land 25 = .ok (.iload_n 2, 1) := by decide +kernel
theorem d_M_land_26 : decode b_M_land 26 = .ok (.invokevirtual 240, 3) := by decide +kernel
theorem d_M_land_29 : decode b_M_land 29 = .ok (.ireturn, 1) := by decide +kernel
theorem d_M_land_30 : decode b_M_land 30 = .ok (.iload_n 2, 1) := by decide +kernel
theorem d_M_land_31 : decode b_M_land 31 = .ok (.bipush 10, 2) := by decide +kernel
theorem d_M_land_33 : decode b_M_land 33 = .ok (.bipush 9, 2) := by decide +kernel
theorem d_M_land_35 : decode b_M_land 35 = .ok (.aload_n 0, 1) := by decide +kernel
theorem d_M_land_36 : decode b_M_land 36 = .ok (.getfield 247, 3) := by decide +kernel
theorem d_M_land_39 : decode b_M_land 39 = .ok (.iadd, 1) := by decide +kernel
theorem d_M_land_40 : decode b_M_land 40 = .ok (.invokestatic 88, 3) := by decide +kernel
theorem d_M_land_43 : decode b_M_land 43 = .ok (.ifCond .eq 15, 3) := by decide +kernel
theorem d_M_land_46 : decode b_M_land 46 = .ok (.aload_n 0, 1) := by decide +kernel
theorem d_M_land_47 : decode b_M_land 47 = .ok (.bipush 6, 2) := by decide +kernel
theorem d_M_land_49 : decode b_M_land 49 = .ok (.iload_n 2, 1) := by decide +kernel
theorem d_M_land_50 : decode b_M_land 50 = .ok (.iadd, 1) := by decide +kernel
theorem d_M_land_51 : decode b_M_land 51 = .ok (.bipush 10, 2) := by decide +kernel
theorem d_M_land_53 : decode b_M_land 53 = .ok (.isub, 1) := by decide +kernel
theorem d_M_land_54 : decode b_M_land 54 = .ok (.invokevirtual 240, 3) := by decide +kernel
theorem d_M_land_57 : decode b_M_land 57 = .ok (.ireturn, 1) := by decide +kernel
theorem d_M_land_58 : decode b_M_land 58 = .ok (.iload_n 2, 1) := by decide +kernel
theorem d_M_land_59 : decode b_M_land 59 = .ok (.bipush 50, 2) := by decide +kernel
theorem d_M_land_61 : decode b_M_land 61 = .ok (.bipush 49, 2) := by decide +kernel
theorem d_M_land_63 : decode b_M_land 63 = .ok (.aload_n 0, 1) := by decide +kernel
theorem d_M_land_64 : decode b_M_land 64 = .ok (.getfield 256, 3) := by decide +kernel
theorem d_M_land_67 : decode b_M_land 67 = .ok (.iadd, 1) := by decide +kernel
theorem d_M_land_68 : decode b_M_land 68 = .ok (.invokestatic 88, 3) := by decide +kernel
theorem d_M_land_71 : decode b_M_land 71 = .ok (.ifCond .eq 19, 3) := by decide +kernel
theorem d_M_land_74 : decode b_M_land 74 = .ok (.aload_n 0, 1) := by decide +kernel
theorem d_M_land_75 : decode b_M_land 75 = .ok (.bipush 30, 2) := by decide +kernel
theorem d_M_land_77 : decode b_M_land 77 = .ok (.iconst 2, 1) := by decide +kernel
theorem d_M_land_78 : decode b_M_land 78 = .ok (.iload_n 2, 1) := by decide +kernel
theorem d_M_land_79 : decode b_M_land 79 = .ok (.bipush 50, 2) := by decide +kernel
theorem d_M_land_81 : decode b_M_land 81 = .ok (.isub, 1) := by decide +kernel
theorem d_M_land_82 : decode b_M_land 82 = .ok (.imul, 1) := by decide +kernel
theorem d_M_land_83 : decode b_M_land 83 = .ok (.iadd, 1) := by decide +kernel
theorem d_M_land_84 : decode b_M_land 84 = .ok (.invokevirtual 240, 3) := by decide +kernel
theorem d_M_land_87 : decode b_M_land 87 = .ok (.goto 38, 3) := by decide +kernel
theorem d_M_land_90 : decode b_M_land 90 = .ok (.iload_n 2, 1) := by decide +kernel
theorem d_M_land_91 : decode b_M_land 91 = .ok (.bipush 60, 2) := by decide +kernel
theorem d_M_land_93 : decode b_M_land 93 = .ok (.bipush 59, 2) := by decide +kernel
theorem d_M_land_95 : decode b_M_land 95 = .ok (.aload_n 0, 1) := by decide +kernel
theorem d_M_land_96 : decode b_M_land 96 = .ok (.getfield 256, 3) := by decide +kernel
theorem d_M_land_99 : decode b_M_land 99 = .ok (.iadd, 1) := by decide +kernel
theorem d_M_land_100 : decode b_M_land 100 = .ok (.invokestatic 88, 3) := by decide +kernel
theorem d_M_land_103 : decode b_M_land 103 = .ok (.ifCond .eq 21, 3) := by decide +kernel
theorem d_M_land_106 : decode b_M_land 106 = .ok (.aload_n 0, 1) := by decide +kernel
theorem d_M_land_107 : decode b_M_land 107 = .ok (.bipush 30, 2) := by decide +kernel
theorem d_M_land_109 : decode b_M_land 109 = .ok (.iconst 2, 1) := by decide +kernel
theorem d_M_land_110 : decode b_M_land 110 = .ok (.iload_n 2, 1) := by decide +kernel
theorem d_M_land_111 : decode b_M_land 111 = .ok (.bipush 60, 2) := by decide +kernel
theorem d_M_land_113 : decode b_M_land 113 = .ok (.isub, 1) := by decide +kernel
theorem d_M_land_114 : decode b_M_land 114 = .ok (.imul, 1) := by decide +kernel
theorem d_M_land_115 : decode b_M_land 115 = .ok (.iadd, 1) := by decide +kernel
theorem d_M_land_116 : decode b_M_land 116 = .ok (.iconst 1, 1) := by decide +kernel
theorem d_M_land_117 : decode b_M_land 117 = .ok (.iadd, 1) := by decide +kernel
theorem d_M_land_118 : decode b_M_land 118 = .ok (.invokevirtual 240, 3) := by decide +kernel
theorem d_M_land_121 : decode b_M_land 121 = .ok (.goto 4, 3) := by decide +kernel
theorem d_M_land_124 : decode b_M_land 124 = .ok (.iconst (-1), 1) := by decide +kernel
theorem d_M_land_125 : decode b_M_land 125 = .ok (.ireturn, 1) := by decide +kernel
theorem d_M_hand_0 : decode b_M_hand 0 = .ok (.aload_n 0, 1) := by decide +kernel
theorem d_M_hand_1 : decode b_M_hand 1 = .ok (.iconst 0, 1) := by decide +kernel
theorem d_M_hand_2 : decode b_M_hand 2 = .ok (.iload_n 1, 1) := by decide +kernel
theorem d_M_hand_3 : decode b_M_hand 3 = .ok (.invokevirtual 227, 3) := by decide +kernel
theorem d_M_hand_6 : decode b_M_hand 6 = .ok (.ifCond .ne 5, 3) := by decide +kernel
theorem d_M_hand_9 : decode b_M_hand 9 = .ok (.iconst 0, 1) := by decide +kernel
theorem d_M_hand_10 : decode b_M_hand 10 = .ok (.ireturn, 1) := by decide +kernel
theorem d_M_hand_11 : decode b_M_hand 11 = .ok (.aload_n 0, 1) := by decide +kernel
theorem d_M_hand_12 : decode b_M_hand 12 = .ok (.iload_n 1, 1) := by decide +kernel
theorem d_M_hand_13 : decode b_M_hand 13 = .ok (.putfield 237, 3) := by decide +kernel
theorem d_M_hand_16 : decode b_M_hand 16 = .ok (.aload_n 0, 1) := by decide +kernel
theorem d_M_hand_17 : decode b_M_hand 17 = .ok (.aload_n 0, 1) := by decide +kernel
theorem d_M_hand_18 : decode b_M_hand 18 = .ok (.iconst 0, 1) := by decide +kernel
theorem d_M_hand_19 : decode b_M_hand 19 = .ok (.invokevirtual 240, 3) := by decide +kernel
theorem d_M_hand_22 : decode b_M_hand 22 = .ok (.putfield 247, 3) := by decide +kernel
theorem d_M_hand_25 : decode b_M_hand 25 = .ok (.aload_n 0, 1) := by decide +kernel
theorem d_M_hand_26 : decode b_M_hand 26 = .ok (.aload_n 0, 1) := by decide +kernel
theorem d_M_hand_27 : decode b_M_hand 27 = .ok (.iconst 1, 1) := by decide +kernel
theorem d_M_hand_28 : decode b_M_hand 28 = .ok (.invokevirtual 240, 3) := by decide +kernel
theorem d_M_hand_31 : decode b_M_hand 31 = .ok (.putfield 250, 3) := by decide +kernel
theorem d_M_hand_34 : decode b_M_hand 34 = .ok (.aload_n 0, 1) := by decide +kernel
theorem d_M_hand_35 : decode b_M_hand 35 = .ok (.aload_n 0, 1) := by decide +kernel
theorem d_M_hand_36 : decode b_M_hand 36 = .ok (.iconst 4, 1) := by decide +kernel
theorem d_M_hand_37 : decode b_M_hand 37 = .ok (.invokevirtual 240, 3) := by decide +kernel
theorem d_M_hand_40 : decode b_M_hand 40 = .ok (.putfield 253, 3) := by decide +kernel
theorem d_M_hand_43 : decode b_M_hand 43 = .ok (.aload_n 0, 1) := by decide +kernel
theorem d_M_hand_44 : decode b_M_hand 44 = .ok (.aload_n 0, 1) := by decide +kernel
theorem d_M_hand_45 : decode b_M_hand 45 = .ok (.iconst 5, 1) := by decide +kernel
theorem d_M_hand_46 : decode b_M_hand 46 = .ok (.invokevirtual 240, 3) := by decide +kernel
theorem d_M_hand_49 : decode b_M_hand 49 = .ok (.putfield 256, 3) := by decide +kernel
theorem d_M_hand_52 : decode b_M_hand 52 = .ok (.iconst 1, 1) := by decide +kernel
theorem d_M_hand_53 : decode b_M_hand 53 = .ok (.ireturn, 1) := by decide +kernel
theorem d_M_of_0 : decode b_M_of 0 = .ok (.aload_n 0, 1) := by decide +kernel
theorem d_M_of_1 : decode b_M_of 1 = .ok (.getfield 26, 3) := by decide +kernel
theorem d_M_of_4 : decode b_M_of 4 = .ok (.sipush 312, 3) := by decide +kernel
theorem d_M_of_7 : decode b_M_of 7 = .ok (.aload_n 0, 1) := by decide +kernel
theorem d_M_of_8 : decode b_M_of 8 = .ok (.getfield 237, 3) := by decide +kernel
theorem d_M_of_11 : decode b_M_of 11 = .ok (.imul, 1) := by decide +kernel
theorem d_M_of_12 : decode b_M_of 12 = .ok (.iload_n 1, 1) := by decide +kernel
theorem d_M_of_13 : decode b_M_of 13 = .ok (.iadd, 1) := by decide +kernel
theorem d_M_of_14 : decode b_M_of 14 = .ok (.iaload, 1) := by decide +kernel
theorem d_M_of_15 : decode b_M_of 15 = .ok (.ireturn, 1) := by decide +kernel
theorem d_M_person_0 : decode b_M_person 0 = .ok (.aload_n 0, 1) := by decide +kernel
theorem d_M_person_1 : decode b_M_person 1 = .ok (.iconst 0, 1) := by decide +kernel
theorem d_M_person_2 : decode b_M_person 2 = .ok (.putfield 80, 3) := by decide +kernel
theorem d_M_person_5 : decode b_M_person 5 = .ok (.aload_n 0, 1) := by decide +kernel
theorem d_M_person_6 : decode b_M_person 6 = .ok (.iload_n 1, 1) := by decide +kernel
theorem d_M_person_7 : decode b_M_person 7 = .ok (.invokevirtual 259, 3) := by decide +kernel
theorem d_M_person_10 : decode b_M_person 10 = .ok (.ifCond .eq 11, 3) := by decide +kernel
theorem d_M_person_13 : decode b_M_person 13 = .ok (.aload_n 0, 1) := by decide +kernel
theorem d_M_person_14 : decode b_M_person 14 = .ok (.iload_n 2, 1) := by decide +kernel
theorem d_M_person_15 : decode b_M_person 15 = .ok (.invokevirtual 262, 3) := by decide +kernel
theorem d_M_person_18 : decode b_M_person 18 = .ok (.ifCond .ne 5, 3) := by decide +kernel
theorem d_M_person_21 : decode b_M_person 21 = .ok (.iconst (-1), 1) := by decide +kernel
theorem d_M_person_22 : decode b_M_person 22 = .ok (.ireturn, 1) := by decide +kernel
theorem d_M_person_23 : decode b_M_person 23 = .ok (.iload_n 3, 1) := by decide +kernel
theorem d_M_person_24 : decode b_M_person 24 = .ok (.iconst 0, 1) := by decide +kernel
theorem d_M_person_25 : decode b_M_person 25 = .ok (.iconst 2, 1) := by decide +kernel
theorem d_M_person_26 : decode b_M_person 26 = .ok (.invokestatic 88, 3) := by decide +kernel
theorem d_M_person_29 : decode b_M_person 29 = .ok (.ifCond .eq 12, 3) := by decide +kernel
theorem d_M_person_32 : decode b_M_person 32 = .ok (.aload_n 0, 1) := by decide +kernel
theorem d_M_person_33 : decode b_M_person 33 = .ok (.iload_n 2, 1) := by decide +kernel
theorem d_M_person_34 : decode b_M_person 34 = .ok (.iload_n 3, 1) := by decide +kernel
theorem d_M_person_35 : decode b_M_person 35 = .ok (.invokevirtual 244, 3) := by decide +kernel
theorem d_M_person_38 : decode b_M_person 38 = .ok (.goto 32, 3) := by decide +kernel
theorem d_M_person_41 : decode b_M_person 41 = .ok (.iload_n 3, 1) := by decide +kernel
theorem d_M_person_42 : decode b_M_person 42 = .ok (.bipush 10, 2) := by decide +kernel
theorem d_M_person_44 : decode b_M_person 44 = .ok (.bipush 9, 2) := by decide +kernel
theorem d_M_person_46 : decode b_M_person 46 = .ok (.aload_n 0, 1) := by decide +kernel
theorem d_M_person_47 : decode b_M_person 47 = .ok (.getfield 247, 3) := by decide +kernel
theorem d_M_person_50 : decode b_M_person 50 = .ok (.iadd, 1) := by decide +kernel
theorem d_M_person_51 : decode b_M_person 51 = .ok (.invokestatic 88, 3) := by decide +kernel
theorem d_M_person_54 : decode b_M_person 54 = .ok (.ifCond .eq 15, 3) := by decide +kernel
theorem d_M_person_57 : decode b_M_person 57 = .ok (.aload_n 0, 1) := by decide +kernel
theorem d_M_person_58 : decode b_M_person 58 = .ok (.iload_n 2, 1) := by decide +kernel
theorem d_M_person_59 : decode b_M_person 59 = .ok (.iload_n 3, 1) := by decide +kernel
theorem d_M_person_60 : decode b_M_person 60 = .ok (.bipush 10, 2) := by decide +kernel
theorem d_M_person_62 : decode b_M_person 62 = .ok (.isub, 1) := by decide +kernel
theorem d_M_person_63 : decode b_M_person 63 = .ok (.invokevirtual 265, 3) := by decide +kernel
theorem d_M_person_66 : decode b_M_person 66 = .ok (.goto 4, 3) := by decide +kernel
theorem d_M_person_69 : decode b_M_person 69 = .ok (.iconst (-1), 1) := by decide +kernel
theorem d_M_person_70 : decode b_M_person 70 = .ok (.ireturn, 1) := by decide +kernel
theorem d_M_isOne_0 : decode b_M_isOne 0 = .ok (.iload_n 1, 1) := by decide +kernel
theorem d_M_isOne_1 : decode b_M_isOne 1 = .ok (.iconst 0, 1) := by decide +kernel
theorem d_M_isOne_2 : decode b_M_isOne 2 = .ok (.aload_n 0, 1) := by decide +kernel
theorem d_M_isOne_3 : decode b_M_isOne 3 = .ok (.getfield 253, 3) := by decide +kernel
theorem d_M_isOne_6 : decode b_M_isOne 6 = .ok (.iconst 1, 1) := by decide +kernel
theorem d_M_isOne_7 : decode b_M_isOne 7 = .ok (.isub, 1) := by decide +kernel
theorem d_M_isOne_8 : decode b_M_isOne 8 = .ok (.invokestatic 88, 3) := by decide +kernel
theorem d_M_isOne_11 : decode b_M_isOne 11 = .ok (.ireturn, 1) := by decide +kernel
theorem d_M_ofOne_0 : decode b_M_ofOne 0 = .ok (.aload_n 0, 1) := by decide +kernel
theorem d_M_ofOne_1 : decode b_M_ofOne 1 = .ok (.bipush 42, 2) := by decide +kernel
theorem d_M_ofOne_3 : decode b_M_ofOne 3 = .ok (.bipush 27, 2) := by decide +kernel
theorem d_M_ofOne_5 : decode b_M_ofOne 5 = .ok (.iload_n 1, 1) := by decide +kernel
theorem d_M_ofOne_6 : decode b_M_ofOne 6 = .ok (.imul, 1) := by decide +kernel
theorem d_M_ofOne_7 : decode b_M_ofOne 7 = .ok (.iadd, 1) := by decide +kernel
theorem d_M_ofOne_8 : decode b_M_ofOne 8 = .ok (.iload_n 2, 1) := by decide +kernel
theorem d_M_ofOne_9 : decode b_M_ofOne 9 = .ok (.iadd, 1) := by decide +kernel
theorem d_M_ofOne_10 : decode b_M_ofOne 10 = .ok (.invokevirtual 240, 3) := by decide +kernel
theorem d_M_ofOne_13 : decode b_M_ofOne 13 = .ok (.ireturn, 1) := by decide +kernel
theorem d_M_likeOf_0 : decode b_M_likeOf 0 = .ok (.aload_n 0, 1) := by decide +kernel
theorem d_M_likeOf_1 : decode b_M_likeOf 1 = .ok (.iload_n 1, 1) := by decide +kernel
theorem d_M_likeOf_2 : decode b_M_likeOf 2 = .ok (.iconst 3, 1) := by decide +kernel
theorem d_M_likeOf_3 : decode b_M_likeOf 3 = .ok (.iload_n 2, 1) := by decide +kernel
theorem d_M_likeOf_4 : decode b_M_likeOf 4 = .ok (.iadd, 1) := by decide +kernel
theorem d_M_likeOf_5 : decode b_M_likeOf 5 = .ok (.invokevirtual 244, 3) := by decide +kernel
theorem d_M_likeOf_8 : decode b_M_likeOf 8 = .ok (.ireturn, 1) := by decide +kernel
theorem d_M_night_0 : decode b_M_night 0 = .ok (.aload_n 0, 1) := by decide +kernel
theorem d_M_night_1 : decode b_M_night 1 = .ok (.iconst 0, 1) := by decide +kernel
theorem d_M_night_2 : decode b_M_night 2 = .ok (.putfield 80, 3) := by decide +kernel
theorem d_M_night_5 : decode b_M_night 5 = .ok (.aload_n 0, 1) := by decide +kernel
theorem d_M_night_6 : decode b_M_night 6 = .ok (.iconst 1, 1) := by decide +kernel
theorem d_M_night_7 : decode b_M_night 7 = .ok (.iload_n 1, 1) := by decide +kernel
theorem d_M_night_8 : decode b_M_night 8 = .ok (.invokevirtual 227, 3) := by decide +kernel
theorem d_M_night_11 : decode b_M_night 11 = .ok (.ifCond .eq 27, 3) := by decide +kernel
theorem d_M_night_14 : decode b_M_night 14 = .ok (.iload_n 2, 1) := by decide +kernel
theorem d_M_night_15 : decode b_M_night 15 = .ok (.iconst 0, 1) := by decide +kernel
theorem d_M_night_16 : decode b_M_night 16 = .ok (.bipush 23, 2) := by decide +kernel
theorem d_M_night_18 : decode b_M_night 18 = .ok (.invokestatic 88, 3) := by decide +kernel
theorem d_M_night_21 : decode b_M_night 21 = .ok (.ifCond .eq 17, 3) := by decide +kernel
theorem d_M_night_24 : decode b_M_night 24 = .ok (.aload_n 0, 1) := by decide +kernel
theorem d_M_night_25 : decode b_M_night 25 = .ok (.getfield 29, 3) := by decide +kernel
theorem d_M_night_28 : decode b_M_night 28 = .ok (.bipush 24, 2) := by decide +kernel
theorem d_M_night_30 : decode b_M_night 30 = .ok (.iload_n 1, 1) := by decide +kernel
theorem d_M_night_31 : decode b_M_night 31 = .ok (.imul, 1) := by decide +kernel
theorem d_M_night_32 : decode b_M_night 32 = .ok (.iload_n 2, 1) := by decide +kernel
theorem d_M_night_33 : decode b_M_night 33 = .ok (.iadd, 1) := by decide +kernel
theorem d_M_night_34 : decode b_M_night 34 = .ok (.iaload, 1) := by decide +kernel
theorem d_M_night_35 : decode b_M_night 35 = .ok (.goto 4, 3) := by decide +kernel
theorem d_M_night_38 : decode b_M_night 38 = .ok (.iconst (-1), 1) := by decide +kernel
theorem d_M_night_39 : decode b_M_night 39 = .ok (.ireturn, 1) := by decide +kernel
theorem d_M_row_0 : decode b_M_row 0 = .ok (.aload_n 0, 1) := by decide +kernel
theorem d_M_row_1 : decode b_M_row 1 = .ok (.iconst 0, 1) := by decide +kernel
theorem d_M_row_2 : decode b_M_row 2 = .ok (.putfield 80, 3) := by decide +kernel
theorem d_M_row_5 : decode b_M_row 5 = .ok (.aload_n 0, 1) := by decide +kernel
theorem d_M_row_6 : decode b_M_row 6 = .ok (.iload_n 1, 1) := by decide +kernel
theorem d_M_row_7 : decode b_M_row 7 = .ok (.iload_n 2, 1) := by decide +kernel
theorem d_M_row_8 : decode b_M_row 8 = .ok (.invokevirtual 293, 3) := by decide +kernel
theorem d_M_row_11 : decode b_M_row 11 = .ok (.ifCond .ne 5, 3) := by decide +kernel
theorem d_M_row_14 : decode b_M_row 14 = .ok (.iconst (-1), 1) := by decide +kernel
theorem d_M_row_15 : decode b_M_row 15 = .ok (.ireturn, 1) := by decide +kernel
theorem d_M_row_16 : decode b_M_row 16 = .ok (.iconst 0, 1) := by decide +kernel
theorem d_M_row_17 : decode b_M_row 17 = .ok (.istore 4, 2) := by decide +kernel
theorem d_M_row_19 : decode b_M_row 19 = .ok (.iconst 0, 1) := by decide +kernel
theorem d_M_row_20 : decode b_M_row 20 = .ok (.istore 5, 2) := by decide +kernel
theorem d_M_row_22 : decode b_M_row 22 = .ok (.iconst 0, 1) := by decide +kernel
theorem d_M_row_23 : decode b_M_row 23 = .ok (.istore 6, 2) := by decide +kernel
theorem d_M_row_25 : decode b_M_row 25 = .ok (.iload 6, 2) := by decide +kernel
theorem d_M_row_27 : decode b_M_row 27 = .ok (.aload_n 0, 1) := by decide +kernel
theorem d_M_row_28 : decode b_M_row 28 = .ok (.getfield 247, 3) := by decide +kernel
theorem d_M_row_31 : decode b_M_row 31 = .ok (.if_icmp .ge 74, 3) := by decide +kernel
theorem d_M_row_34 : decode b_M_row 34 = .ok (.iload 4, 2) := by decide +kernel
theorem d_M_row_36 : decode b_M_row 36 = .ok (.aload_n 0, 1) := by decide +kernel
theorem d_M_row_37 : decode b_M_row 37 = .ok (.getfield 47, 3) := by decide +kernel
theorem d_M_row_40 : decode b_M_row 40 = .ok (.iload 6, 2) := by decide +kernel
theorem d_M_row_42 : decode b_M_row 42 = .ok (.iaload, 1) := by decide +kernel
theorem d_M_row_43 : decode b_M_row 43 = .ok (.iconst 2, 1) := by decide +kernel
theorem d_M_row_44 : decode b_M_row 44 = .ok (.if_icmp .ne 7, 3) := by decide +kernel
theorem d_M_row_47 : decode b_M_row 47 = .ok (.iconst 0, 1) := by decide +kernel
theorem d_M_row_48 : decode b_M_row 48 = .ok (.goto 16, 3) := by decide +kernel
theorem d_M_row_51 : decode b_M_row 51 = .ok (.aload_n 0, 1) := by decide +kernel
theorem d_M_row_52 : decode b_M_row 52 = .ok (.aload_n 0, 1) := by decide +kernel
theorem d_M_row_53 : decode b_M_row 53 = .ok (.getfield 47, 3) := by decide +kernel
theorem d_M_row_56 : decode b_M_row 56 = .ok (.iload 6, 2) := by decide +kernel
theorem d_M_row_58 : decode b_M_row 58 = .ok (.iaload, 1) := by decide +kernel
theorem d_M_row_59 : decode b_M_row 59 = .ok (.iload 6, 2) := by decide +kernel
theorem d_M_row_61 : decode b_M_row 61 = .ok (.invokevirtual 296, 3) := by decide +kernel
theorem d_M_row_64 : decode b_M_row 64 = .ok (.iadd, 1) := by decide +kernel
theorem d_M_row_65 : decode b_M_row 65 = .ok (.istore 4, 2) := by decide +kernel
theorem d_M_row_67 : decode b_M_row 67 = .ok (.iload 5, 2) := by decide +kernel
theorem d_M_row_69 : decode b_M_row 69 = .ok (.aload_n 0, 1) := by decide +kernel
theorem d_M_row_70 : decode b_M_row 70 = .ok (.iload 6, 2) := by decide +kernel
theorem d_M_row_72 : decode b_M_row 72 = .ok (.invokevirtual 280, 3) := by decide +kernel
theorem d_M_row_75 : decode b_M_row 75 = .ok (.ifCond .eq 20, 3) := by decide +kernel
theorem d_M_row_78 : decode b_M_row 78 = .ok (.aload_n 0, 1) := by decide +kernel
theorem d_M_row_79 : decode b_M_row 79 = .ok (.bipush 6, 2) := by decide +kernel
theorem d_M_row_81 : decode b_M_row 81 = .ok (.iload 6, 2) := by decide +kernel
theorem d_M_row_83 : decode b_M_row 83 = .ok (.iadd, 1) := by decide +kernel
theorem d_M_row_84 : decode b_M_row 84 = .ok (.invokevirtual 240, 3) := by decide +kernel
theorem d_M_row_87 : decode b_M_row 87 = .ok (.aload_n 0, 1) := by decide +kernel
theorem d_M_row_88 : decode b_M_row 88 = .ok (.invokevirtual 299, 3) := by decide +kernel
theorem d_M_row_91 : decode b_M_row 91 = .ok (.iadd, 1) := by decide +kernel
theorem d_M_row_92 : decode b_M_row 92 = .ok (.goto 4, 3) := by decide +kernel
theorem d_M_row_95 : decode b_M_row 95 = .ok (.iconst 0, 1) := by decide +kernel
theorem d_M_row_96 : decode b_M_row 96 = .ok (.iadd, 1) := by decide +kernel
theorem d_M_row_97 : decode b_M_row 97 = .ok (.istore 5, 2) := by decide +kernel
theorem d_M_row_99 : decode b_M_row 99 = .ok (.iinc 6 1, 3) := by decide +kernel
theorem d_M_row_102 : decode b_M_row 102 = .ok (.goto (-77), 3) := by decide +kernel
theorem d_M_row_105 : decode b_M_row 105 = .ok (.iload_n 3, 1) := by decide +kernel
theorem d_M_row_106 : decode b_M_row 106 = .ok (.tableswitch 96 0 7 #[46, 59, 64, 64, 72, 85, 88, 91], 46) := by decide +kernel
theorem d_M_row_152 : decode b_M_row 152 = .ok (.aload_n 0, 1) := by decide +kernel
theorem d_M_row_153 : decode b_M_row 153 = .ok (.invokevirtual 302, 3) := by decide +kernel
theorem d_M_row_156 : decode b_M_row 156 = .ok (.ifCond .eq 7, 3) := by decide +kernel
theorem d_M_row_159 : decode b_M_row 159 = .ok (.iconst 1, 1) := by decide +kernel
theorem d_M_row_160 : decode b_M_row 160 = .ok (.goto 4, 3) := by decide +kernel
theorem d_M_row_163 : decode b_M_row 163 = .ok (.iconst 0, 1) := by decide +kernel
theorem d_M_row_164 : decode b_M_row 164 = .ok (.ireturn, 1) := by decide +kernel
theorem d_M_row_165 : decode b_M_row 165 = .ok (.aload_n 0, 1) := by decide +kernel
theorem d_M_row_166 : decode b_M_row 166 = .ok (.invokevirtual 305, 3) := by decide +kernel
theorem d_M_row_169 : decode b_M_row 169 = .ok (.ireturn, 1) := by decide +kernel
theorem d_M_row_170 : decode b_M_row 170 = .ok (.aload_n 0, 1) := by decide +kernel
theorem d_M_row_171 : decode b_M_row 171 = .ok (.iload_n 3, 1) := by decide +kernel
theorem d_M_row_172 : decode b_M_row 172 = .ok (.iconst 2, 1) := by decide +kernel
theorem d_M_row_173 : decode b_M_row 173 = .ok (.isub, 1) := by decide +kernel
theorem d_M_row_174 : decode b_M_row 174 = .ok (.invokevirtual 283, 3) := by decide +kernel
theorem d_M_row_177 : decode b_M_row 177 = .ok (.ireturn, 1) := by decide +kernel
theorem d_M_row_178 : decode b_M_row 178 = .ok (.aload_n 0, 1) := by decide +kernel
theorem d_M_row_179 : decode b_M_row 179 = .ok (.invokevirtual 308, 3) := by decide +kernel
theorem d_M_row_182 : decode b_M_row 182 = .ok (.ifCond .ne 7, 3) := by decide +kernel
theorem d_M_row_185 : decode b_M_row 185 = .ok (.iconst 1, 1) := by decide +kernel
theorem d_M_row_186 : decode b_M_row 186 = .ok (.goto 4, 3) := by decide +kernel
theorem d_M_row_189 : decode b_M_row 189 = .ok (.iconst 0, 1) := by decide +kernel
theorem d_M_row_190 : decode b_M_row 190 = .ok (.ireturn, 1) := by decide +kernel
theorem d_M_row_191 : decode b_M_row 191 = .ok (.iload 4, 2) := by decide +kernel
theorem d_M_row_193 : decode b_M_row 193 = .ok (.ireturn, 1) := by decide +kernel
theorem d_M_row_194 : decode b_M_row 194 = .ok (.iload 5, 2) := by decide +kernel
theorem d_M_row_196 : decode b_M_row 196 = .ok (.ireturn, 1) := by decide +kernel
theorem d_M_row_197 : decode b_M_row 197 = .ok (.aload_n 0, 1) := by decide +kernel
theorem d_M_row_198 : decode b_M_row 198 = .ok (.invokevirtual 308, 3) := by decide +kernel
theorem d_M_row_201 : decode b_M_row 201 = .ok (.ireturn, 1) := by decide +kernel
theorem d_M_row_202 : decode b_M_row 202 = .ok (.iconst (-1), 1) := by decide +kernel
theorem d_M_row_203 : decode b_M_row 203 = .ok (.ireturn, 1) := by decide +kernel
theorem d_M_layRow_0 : decode b_M_layRow 0 = .ok (.aload_n 0, 1) := by decide +kernel
theorem d_M_layRow_1 : decode b_M_layRow 1 = .ok (.iconst 1, 1) := by decide +kernel
theorem d_M_layRow_2 : decode b_M_layRow 2 = .ok (.iload_n 2, 1) := by decide +kernel
theorem d_M_layRow_3 : decode b_M_layRow 3 = .ok (.invokevirtual 227, 3) := by decide +kernel
theorem d_M_layRow_6 : decode b_M_layRow 6 = .ok (.ifCond .eq 11, 3) := by decide +kernel
theorem d_M_layRow_9 : decode b_M_layRow 9 = .ok (.aload_n 0, 1) := by decide +kernel
theorem d_M_layRow_10 : decode b_M_layRow 10 = .ok (.iload_n 1, 1) := by decide +kernel
theorem d_M_layRow_11 : decode b_M_layRow 11 = .ok (.invokevirtual 259, 3) := by decide +kernel
theorem d_M_layRow_14 : decode b_M_layRow 14 = .ok (.ifCond .ne 5, 3) := by decide +kernel
theorem d_M_layRow_17 : decode b_M_layRow 17 = .ok (.iconst 0, 1) := by decide +kernel
theorem d_M_layRow_18 : decode b_M_layRow 18 = .ok (.ireturn, 1) := by decide +kernel
theorem d_M_layRow_19 : decode b_M_layRow 19 = .ok (.iconst 0, 1) := by decide +kernel
theorem d_M_layRow_20 : decode b_M_layRow 20 = .ok (.istore_n 3, 1) := by decide +kernel
theorem d_M_layRow_21 : decode b_M_layRow 21 = .ok (.iload_n 3, 1) := by decide +kernel
theorem d_M_layRow_22 : decode b_M_layRow 22 = .ok (.aload_n 0, 1) := by decide +kernel
theorem d_M_layRow_23 : decode b_M_layRow 23 = .ok (.getfield 247, 3) := by decide +kernel
theorem d_M_layRow_26 : decode b_M_layRow 26 = .ok (.if_icmp .ge 26, 3) := by decide +kernel
theorem d_M_layRow_29 : decode b_M_layRow 29 = .ok (.aload_n 0, 1) := by decide +kernel
theorem d_M_layRow_30 : decode b_M_layRow 30 = .ok (.getfield 47, 3) := by decide +kernel
theorem d_M_layRow_33 : decode b_M_layRow 33 = .ok (.iload_n 3, 1) := by decide +kernel
theorem d_M_layRow_34 : decode b_M_layRow 34 = .ok (.aload_n 0, 1) := by decide +kernel
theorem d_M_layRow_35 : decode b_M_layRow 35 = .ok (.getfield 29, 3) := by decide +kernel
theorem d_M_layRow_38 : decode b_M_layRow 38 = .ok (.bipush 24, 2) := by decide +kernel
theorem d_M_layRow_40 : decode b_M_layRow 40 = .ok (.iload_n 2, 1) := by decide +kernel
theorem d_M_layRow_41 : decode b_M_layRow 41 = .ok (.imul, 1) := by decide +kernel
theorem d_M_layRow_42 : decode b_M_layRow 42 = .ok (.iload_n 3, 1) := by decide +kernel
theorem d_M_layRow_43 : decode b_M_layRow 43 = .ok (.iadd, 1) := by decide +kernel
theorem d_M_layRow_44 : decode b_M_layRow 44 = .ok (.iaload, 1) := by decide +kernel
theorem d_M_layRow_45 : decode b_M_layRow 45 = .ok (.iastore, 1) := by decide +kernel
theorem d_M_layRow_46 : decode b_M_layRow 46 = .ok (.iinc 3 1, 3) := by decide +kernel
theorem d_M_layRow_49 : decode b_M_layRow 49 = .ok (.goto (-28), 3) := by decide +kernel
theorem d_M_layRow_52 : decode b_M_layRow 52 = .ok (.aload_n 0, 1) := by decide +kernel
theorem d_M_layRow_53 : decode b_M_layRow 53 = .ok (.invokevirtual 274, 3) := by decide +kernel
theorem d_M_layRow_56 : decode b_M_layRow 56 = .ok (.iconst 1, 1) := by decide +kernel
theorem d_M_layRow_57 : decode b_M_layRow 57 = .ok (.ireturn, 1) := by decide +kernel
theorem d_M_countDark_0 : decode b_M_countDark 0 = .ok (.aload_n 0, 1) := by decide +kernel
theorem d_M_countDark_1 : decode b_M_countDark 1 = .ok (.iconst 0, 1) := by decide +kernel
theorem d_M_countDark_2 : decode b_M_countDark 2 = .ok (.putfield 268, 3) := by decide +kernel
theorem d_M_countDark_5 : decode b_M_countDark 5 = .ok (.aload_n 0, 1) := by decide +kernel
theorem d_M_countDark_6 : decode b_M_countDark 6 = .ok (.iconst 0, 1) := by decide +kernel
theorem d_M_countDark_7 : decode b_M_countDark 7 = .ok (.putfield 271, 3) := by decide +kernel
theorem d_M_countDark_10 : decode b_M_countDark 10 = .ok (.iconst 0, 1) := by decide +kernel
theorem d_M_countDark_11 : decode b_M_countDark 11 = .ok (.istore_n 1, 1) := by decide +kernel
theorem d_M_countDark_12 : decode b_M_countDark 12 = .ok (.iload_n 1, 1) := by decide +kernel
theorem d_M_countDark_13 : decode b_M_countDark 13 = .ok (.aload_n 0, 1) := by decide +kernel
theorem d_M_countDark_14 : decode b_M_countDark 14 = .ok (.getfield 247, 3) := by decide +kernel
theorem d_M_countDark_17 : decode b_M_countDark 17 = .ok (.if_icmp .ge 56, 3) := by decide +kernel
theorem d_M_countDark_20 : decode b_M_countDark 20 = .ok (.aload_n 0, 1) := by decide +kernel
theorem d_M_countDark_21 : decode b_M_countDark 21 = .ok (.dup, 1) := by decide +kernel
theorem d_M_countDark_22 : decode b_M_countDark 22 = .ok (.getfield 268, 3) := by decide +kernel
theorem d_M_countDark_25 : decode b_M_countDark 25 = .ok (.aload_n 0, 1) := by decide +kernel
theorem d_M_countDark_26 : decode b_M_countDark 26 = .ok (.getfield 47, 3) := by decide +kernel
theorem d_M_countDark_29 : decode b_M_countDark 29 = .ok (.iload_n 1, 1) := by decide +kernel
theorem d_M_countDark_30 : decode b_M_countDark 30 = .ok (.iaload, 1) := by decide +kernel
theorem d_M_countDark_31 : decode b_M_countDark 31 = .ok (.ifCond .ne 7, 3) := by decide +kernel
theorem d_M_countDark_34 : decode b_M_countDark 34 = .ok (.iconst 1, 1) := by decide +kernel
theorem d_M_countDark_35 : decode b_M_countDark 35 = .ok (.goto 4, 3) := by decide +kernel
theorem d_M_countDark_38 : decode b_M_countDark 38 = .ok (.iconst 0, 1) := by decide +kernel
theorem d_M_countDark_39 : decode b_M_countDark 39 = .ok (.iadd, 1) := by decide +kernel
theorem d_M_countDark_40 : decode b_M_countDark 40 = .ok (.putfield 268, 3) := by decide +kernel
theorem d_M_countDark_43 : decode b_M_countDark 43 = .ok (.aload_n 0, 1) := by decide +kernel
theorem d_M_countDark_44 : decode b_M_countDark 44 = .ok (.dup, 1) := by decide +kernel
theorem d_M_countDark_45 : decode b_M_countDark 45 = .ok (.getfield 271, 3) := by decide +kernel
theorem d_M_countDark_48 : decode b_M_countDark 48 = .ok (.aload_n 0, 1) := by decide +kernel
theorem d_M_countDark_49 : decode b_M_countDark 49 = .ok (.getfield 47, 3) := by decide +kernel
theorem d_M_countDark_52 : decode b_M_countDark 52 = .ok (.iload_n 1, 1) := by decide +kernel
theorem d_M_countDark_53 : decode b_M_countDark 53 = .ok (.iaload, 1) := by decide +kernel
theorem d_M_countDark_54 : decode b_M_countDark 54 = .ok (.iconst 1, 1) := by decide +kernel
theorem d_M_countDark_55 : decode b_M_countDark 55 = .ok (.if_icmp .ne 7, 3) := by decide +kernel
theorem d_M_countDark_58 : decode b_M_countDark 58 = .ok (.iconst 1, 1) := by decide +kernel
theorem d_M_countDark_59 : decode b_M_countDark 59 = .ok (.goto 4, 3) := by decide +kernel
theorem d_M_countDark_62 : decode b_M_countDark 62 = .ok (.iconst 0, 1) := by decide +kernel
theorem d_M_countDark_63 : decode b_M_countDark 63 = .ok (.iadd, 1) := by decide +kernel
theorem d_M_countDark_64 : decode b_M_countDark 64 = .ok (.putfield 271, 3) := by decide +kernel
theorem d_M_countDark_67 : decode b_M_countDark 67 = .ok (.iinc 1 1, 3) := by decide +kernel
theorem d_M_countDark_70 : decode b_M_countDark 70 = .ok (.goto (-58), 3) := by decide +kernel
theorem d_M_countDark_73 : decode b_M_countDark 73 = .ok (.return_, 1) := by decide +kernel
theorem d_M_likedIn_0 : decode b_M_likedIn 0 = .ok (.iconst 0, 1) := by decide +kernel
theorem d_M_likedIn_1 : decode b_M_likedIn 1 = .ok (.istore_n 3, 1) := by decide +kernel
theorem d_M_likedIn_2 : decode b_M_likedIn 2 = .ok (.iconst 0, 1) := by decide +kernel
theorem d_M_likedIn_3 : decode b_M_likedIn 3 = .ok (.istore 4, 2) := by decide +kernel
theorem d_M_likedIn_5 : decode b_M_likedIn 5 = .ok (.iload 4, 2) := by decide +kernel
theorem d_M_likedIn_7 : decode b_M_likedIn 7 = .ok (.aload_n 0, 1) := by decide +kernel
theorem d_M_likedIn_8 : decode b_M_likedIn 8 = .ok (.getfield 253, 3) := by decide +kernel
theorem d_M_likedIn_11 : decode b_M_likedIn 11 = .ok (.if_icmp .ge 34, 3) := by decide +kernel
theorem d_M_likedIn_14 : decode b_M_likedIn 14 = .ok (.iload_n 3, 1) := by decide +kernel
theorem d_M_likedIn_15 : decode b_M_likedIn 15 = .ok (.aload_n 0, 1) := by decide +kernel
theorem d_M_likedIn_16 : decode b_M_likedIn 16 = .ok (.iload 4, 2) := by decide +kernel
theorem d_M_likedIn_18 : decode b_M_likedIn 18 = .ok (.iconst 0, 1) := by decide +kernel
theorem d_M_likedIn_19 : decode b_M_likedIn 19 = .ok (.invokevirtual 244, 3) := by decide +kernel
theorem d_M_likedIn_22 : decode b_M_likedIn 22 = .ok (.iload_n 1, 1) := by decide +kernel
theorem d_M_likedIn_23 : decode b_M_likedIn 23 = .ok (.if_icmp .ne 13, 3) := by decide +kernel
theorem d_M_likedIn_26 : decode b_M_likedIn 26 = .ok (.aload_n 0, 1) := by decide +kernel
theorem d_M_likedIn_27 : decode b_M_likedIn 27 = .ok (.iload 4, 2) := by decide +kernel
theorem d_M_likedIn_29 : decode b_M_likedIn 29 = .ok (.iload_n 2, 1) := by decide +kernel
theorem d_M_likedIn_30 : decode b_M_likedIn 30 = .ok (.invokevirtual 265, 3) := by decide +kernel
theorem d_M_likedIn_33 : decode b_M_likedIn 33 = .ok (.goto 4, 3) := by decide +kernel
theorem d_M_likedIn_36 : decode b_M_likedIn 36 = .ok (.iconst 0, 1) := by decide +kernel
theorem d_M_likedIn_37 : decode b_M_likedIn 37 = .ok (.iadd, 1) := by decide +kernel
theorem d_M_likedIn_38 : decode b_M_likedIn 38 = .ok (.istore_n 3, 1) := by decide +kernel
theorem d_M_likedIn_39 : decode b_M_likedIn 39 = .ok (.iinc 4 1, 3) := by decide +kernel
theorem d_M_likedIn_42 : decode b_M_likedIn 42 = .ok (.goto (-37), 3) := by decide +kernel
theorem d_M_likedIn_45 : decode b_M_likedIn 45 = .ok (.iload_n 3, 1) := by decide +kernel
theorem d_M_likedIn_46 : decode b_M_likedIn 46 = .ok (.ireturn, 1) := by decide +kernel
theorem d_M_comesAt_0 : decode b_M_comesAt 0 = .ok (.aload_n 0, 1) := by decide +kernel
theorem d_M_comesAt_1 : decode b_M_comesAt 1 = .ok (.getfield 47, 3) := by decide +kernel
theorem d_M_comesAt_4 : decode b_M_comesAt 4 = .ok (.iload_n 1, 1) := by decide +kernel
theorem d_M_comesAt_5 : decode b_M_comesAt 5 = .ok (.iaload, 1) := by decide +kernel
theorem d_M_comesAt_6 : decode b_M_comesAt 6 = .ok (.iconst 2, 1) := by decide +kernel
theorem d_M_comesAt_7 : decode b_M_comesAt 7 = .ok (.if_icmp .eq 23, 3) := by decide +kernel
theorem d_M_comesAt_10 : decode b_M_comesAt 10 = .ok (.aload_n 0, 1) := by decide +kernel
theorem d_M_comesAt_11 : decode b_M_comesAt 11 = .ok (.iload_n 1, 1) := by decide +kernel
theorem d_M_comesAt_12 : decode b_M_comesAt 12 = .ok (.invokevirtual 277, 3) := by decide +kernel
theorem d_M_comesAt_15 : decode b_M_comesAt 15 = .ok (.iconst 1, 1) := by decide +kernel
theorem d_M_comesAt_16 : decode b_M_comesAt 16 = .ok (.aload_n 0, 1) := by decide +kernel
theorem d_M_comesAt_17 : decode b_M_comesAt 17 = .ok (.getfield 47, 3) := by decide +kernel
theorem d_M_comesAt_20 : decode b_M_comesAt 20 = .ok (.iload_n 1, 1) := by decide +kernel
theorem d_M_comesAt_21 : decode b_M_comesAt 21 = .ok (.iaload, 1) := by decide +kernel
theorem d_M_comesAt_22 : decode b_M_comesAt 22 = .ok (.isub, 1) := by decide +kernel
theorem d_M_comesAt_23 : decode b_M_comesAt 23 = .ok (.if_icmp .ne 7, 3) := by decide +kernel
theorem d_M_comesAt_26 : decode b_M_comesAt 26 = .ok (.iconst 1, 1) := by decide +kernel
theorem d_M_comesAt_27 : decode b_M_comesAt 27 = .ok (.goto 4, 3) := by decide +kernel
theorem d_M_comesAt_30 : decode b_M_comesAt 30 = .ok (.iconst 0, 1) := by decide +kernel
theorem d_M_comesAt_31 : decode b_M_comesAt 31 = .ok (.ireturn, 1) := by decide +kernel
theorem d_M_cityAhead_0 : decode b_M_cityAhead 0 = .ok (.iconst 1, 1) := by decide +kernel
theorem d_M_cityAhead_1 : decode b_M_cityAhead 1 = .ok (.istore_n 2, 1) := by decide +kernel
theorem d_M_cityAhead_2 : decode b_M_cityAhead 2 = .ok (.iload_n 2, 1) := by decide +kernel
theorem d_M_cityAhead_3 : decode b_M_cityAhead 3 = .ok (.aload_n 0, 1) := by decide +kernel
theorem d_M_cityAhead_4 : decode b_M_cityAhead 4 = .ok (.getfield 247, 3) := by decide +kernel
theorem d_M_cityAhead_7 : decode b_M_cityAhead 7 = .ok (.if_icmp .gt 35, 3) := by decide +kernel
theorem d_M_cityAhead_10 : decode b_M_cityAhead 10 = .ok (.aload_n 0, 1) := by decide +kernel
theorem d_M_cityAhead_11 : decode b_M_cityAhead 11 = .ok (.getfield 47, 3) := by decide +kernel
theorem d_M_cityAhead_14 : decode b_M_cityAhead 14 = .ok (.iload_n 1, 1) := by decide +kernel
theorem d_M_cityAhead_15 : decode b_M_cityAhead 15 = .ok (.aload_n 0, 1) := by decide +kernel
theorem d_M_cityAhead_16 : decode b_M_cityAhead 16 = .ok (.getfield 247, 3) := by decide +kernel
theorem d_M_cityAhead_19 : decode b_M_cityAhead 19 = .ok (.iadd, 1) := by decide +kernel
theorem d_M_cityAhead_20 : decode b_M_cityAhead 20 = .ok (.iload_n 2, 1) := by decide +kernel
theorem d_M_cityAhead_21 : decode b_M_cityAhead 21 = .ok (.isub, 1) := by decide +kernel
theorem d_M_cityAhead_22 : decode b_M_cityAhead 22 = .ok (.aload_n 0, 1) := by decide +kernel
theorem d_M_cityAhead_23 : decode b_M_cityAhead 23 = .ok (.getfield 247, 3) := by decide +kernel
theorem d_M_cityAhead_26 : decode b_M_cityAhead 26 = .ok (.irem, 1) := by decide +kernel
theorem d_M_cityAhead_27 : decode b_M_cityAhead 27 = .ok (.iaload, 1) := by decide +kernel
theorem d_M_cityAhead_28 : decode b_M_cityAhead 28 = .ok (.istore_n 3, 1) := by decide +kernel
theorem d_M_cityAhead_29 : decode b_M_cityAhead 29 = .ok (.iload_n 3, 1) := by decide +kernel
theorem d_M_cityAhead_30 : decode b_M_cityAhead 30 = .ok (.iconst 2, 1) := by decide +kernel
theorem d_M_cityAhead_31 : decode b_M_cityAhead 31 = .ok (.if_icmp .eq 5, 3) := by decide +kernel
theorem d_M_cityAhead_34 : decode b_M_cityAhead 34 = .ok (.iload_n 3, 1) := by decide +kernel
theorem d_M_cityAhead_35 : decode b_M_cityAhead 35 = .ok (.ireturn, 1) := by decide +kernel
theorem d_M_cityAhead_36 : decode b_M_cityAhead 36 = .ok (.iinc 2 1, 3) := by decide +kernel
theorem d_M_cityAhead_39 : decode b_M_cityAhead 39 = .ok (.goto (-37), 3) := by decide +kernel
theorem d_M_cityAhead_42 : decode b_M_cityAhead 42 = .ok (.iconst (-1), 1) := by decide +kernel
theorem d_M_cityAhead_43 : decode b_M_cityAhead 43 = .ok (.ireturn, 1) := by decide +kernel
theorem d_M_cheapest_0 : decode b_M_cheapest 0 = .ok (.aload_n 0, 1) := by decide +kernel
theorem d_M_cheapest_1 : decode b_M_cheapest 1 = .ok (.getfield 256, 3) := by decide +kernel
theorem d_M_cheapest_4 : decode b_M_cheapest 4 = .ok (.ifCond .ne 7, 3) := by decide +kernel
theorem d_M_cheapest_7 : decode b_M_cheapest 7 = .ok (.iconst 0, 1) := by decide +kernel
theorem d_M_cheapest_8 : decode b_M_cheapest 8 = .ok (.goto 6, 3) := by decide +kernel
theorem d_M_cheapest_11 : decode b_M_cheapest 11 = .ok (.ldc_w 289, 3) := by decide +kernel
theorem d_M_cheapest_14 : decode b_M_cheapest 14 = .ok (.istore_n 1, 1) := by decide +kernel
theorem d_M_cheapest_15 : decode b_M_cheapest 15 = .ok (.iconst 0, 1) := by decide +kernel
theorem d_M_cheapest_16 : decode b_M_cheapest 16 = .ok (.istore_n 2, 1) := by decide +kernel
theorem d_M_cheapest_17 : decode b_M_cheapest 17 = .ok (.iload_n 2, 1) := by decide +kernel
theorem d_M_cheapest_18 : decode b_M_cheapest 18 = .ok (.aload_n 0, 1) := by decide +kernel
theorem d_M_cheapest_19 : decode b_M_cheapest 19 = .ok (.getfield 256, 3) := by decide +kernel
theorem d_M_cheapest_22 : decode b_M_cheapest 22 = .ok (.if_icmp .ge 24, 3) := by decide +kernel
theorem d_M_cheapest_25 : decode b_M_cheapest 25 = .ok (.iload_n 1, 1) := by decide +kernel
theorem d_M_cheapest_26 : decode b_M_cheapest 26 = .ok (.aload_n 0, 1) := by decide +kernel
theorem d_M_cheapest_27 : decode b_M_cheapest 27 = .ok (.bipush 30, 2) := by decide +kernel
theorem d_M_cheapest_29 : decode b_M_cheapest 29 = .ok (.iconst 2, 1) := by decide +kernel
theorem d_M_cheapest_30 : decode b_M_cheapest 30 = .ok (.iload_n 2, 1) := by decide +kernel
theorem d_M_cheapest_31 : decode b_M_cheapest 31 = .ok (.imul, 1) := by decide +kernel
theorem d_M_cheapest_32 : decode b_M_cheapest 32 = .ok (.iadd, 1) := by decide +kernel
theorem d_M_cheapest_33 : decode b_M_cheapest 33 = .ok (.invokevirtual 240, 3) := by decide +kernel
theorem d_M_cheapest_36 : decode b_M_cheapest 36 = .ok (.invokestatic 290, 3) := by decide +kernel
theorem d_M_cheapest_39 : decode b_M_cheapest 39 = .ok (.istore_n 1, 1) := by decide +kernel
theorem d_M_cheapest_40 : decode b_M_cheapest 40 = .ok (.iinc 2 1, 3) := by decide +kernel
theorem d_M_cheapest_43 : decode b_M_cheapest 43 = .ok (.goto (-26), 3) := by decide +kernel
theorem d_M_cheapest_46 : decode b_M_cheapest 46 = .ok (.iload_n 1, 1) := by decide +kernel
theorem d_M_cheapest_47 : decode b_M_cheapest 47 = .ok (.ireturn, 1) := by decide +kernel
theorem d_M_lesser_0 : decode b_M_lesser 0 = .ok (.iload_n 0, 1) := by decide +kernel
theorem d_M_lesser_1 : decode b_M_lesser 1 = .ok (.iload_n 1, 1) := by decide +kernel
theorem d_M_lesser_2 : decode b_M_lesser 2 = .ok (.if_icmp .ge 7, 3) := by decide +kernel
theorem d_M_lesser_5 : decode b_M_lesser 5 = .ok (.iload_n 0, 1) := by decide +kernel
theorem d_M_lesser_6 : decode b_M_lesser 6 = .ok (.goto 4, 3) := by decide +kernel
theorem d_M_lesser_9 : decode b_M_lesser 9 = .ok (.iload_n 1, 1) := by decide +kernel
theorem d_M_lesser_10 : decode b_M_lesser 10 = .ok (.ireturn, 1) := by decide +kernel
theorem d_M_isLegal_0 : decode b_M_isLegal 0 = .ok (.aload_n 0, 1) := by decide +kernel
theorem d_M_isLegal_1 : decode b_M_isLegal 1 = .ok (.getfield 268, 3) := by decide +kernel
theorem d_M_isLegal_4 : decode b_M_isLegal 4 = .ok (.ifCond .ne 12, 3) := by decide +kernel
theorem d_M_isLegal_7 : decode b_M_isLegal 7 = .ok (.aload_n 0, 1) := by decide +kernel
theorem d_M_isLegal_8 : decode b_M_isLegal 8 = .ok (.getfield 271, 3) := by decide +kernel
theorem d_M_isLegal_11 : decode b_M_isLegal 11 = .ok (.ifCond .ne 5, 3) := by decide +kernel
theorem d_M_isLegal_14 : decode b_M_isLegal 14 = .ok (.iconst 0, 1) := by decide +kernel
theorem d_M_isLegal_15 : decode b_M_isLegal 15 = .ok (.ireturn, 1) := by decide +kernel
theorem d_M_isLegal_16 : decode b_M_isLegal 16 = .ok (.iconst 0, 1) := by decide +kernel
theorem d_M_isLegal_17 : decode b_M_isLegal 17 = .ok (.istore_n 1, 1) := by decide +kernel
theorem d_M_isLegal_18 : decode b_M_isLegal 18 = .ok (.iload_n 1, 1) := by decide +kernel
theorem d_M_isLegal_19 : decode b_M_isLegal 19 = .ok (.aload_n 0, 1) := by decide +kernel
theorem d_M_isLegal_20 : decode b_M_isLegal 20 = .ok (.getfield 247, 3) := by decide +kernel
theorem d_M_isLegal_23 : decode b_M_isLegal 23 = .ok (.if_icmp .ge 91, 3) := by decide +kernel
theorem d_M_isLegal_26 : decode b_M_isLegal 26 = .ok (.aload_n 0, 1) := by decide +kernel
theorem d_M_isLegal_27 : decode b_M_isLegal 27 = .ok (.getfield 47, 3) := by decide +kernel
theorem d_M_isLegal_30 : decode b_M_isLegal 30 = .ok (.iload_n 1, 1) := by decide +kernel
theorem d_M_isLegal_31 : decode b_M_isLegal 31 = .ok (.iaload, 1) := by decide +kernel
theorem d_M_isLegal_32 : decode b_M_isLegal 32 = .ok (.iconst 2, 1) := by decide +kernel
theorem d_M_isLegal_33 : decode b_M_isLegal 33 = .ok (.if_icmp .eq 75, 3) := by decide +kernel
theorem d_M_isLegal_36 : decode b_M_isLegal 36 = .ok (.iconst 0, 1) := by decide +kernel
theorem d_M_isLegal_37 : decode b_M_isLegal 37 = .ok (.istore_n 2, 1) := by decide +kernel
theorem d_M_isLegal_38 : decode b_M_isLegal 38 = .ok (.aload_n 0, 1) := by decide +kernel
theorem d_M_isLegal_39 : decode b_M_isLegal 39 = .ok (.getfield 47, 3) := by decide +kernel
theorem d_M_isLegal_42 : decode b_M_isLegal 42 = .ok (.iload_n 1, 1) := by decide +kernel
theorem d_M_isLegal_43 : decode b_M_isLegal 43 = .ok (.aload_n 0, 1) := by decide +kernel
theorem d_M_isLegal_44 : decode b_M_isLegal 44 = .ok (.getfield 247, 3) := by decide +kernel
theorem d_M_isLegal_47 : decode b_M_isLegal 47 = .ok (.iadd, 1) := by decide +kernel
theorem d_M_isLegal_48 : decode b_M_isLegal 48 = .ok (.iconst 1, 1) := by decide +kernel
theorem d_M_isLegal_49 : decode b_M_isLegal 49 = .ok (.isub, 1) := by decide +kernel
theorem d_M_isLegal_50 : decode b_M_isLegal 50 = .ok (.iload_n 2, 1) := by decide +kernel
theorem d_M_isLegal_51 : decode b_M_isLegal 51 = .ok (.isub, 1) := by decide +kernel
theorem d_M_isLegal_52 : decode b_M_isLegal 52 = .ok (.aload_n 0, 1) := by decide +kernel
theorem d_M_isLegal_53 : decode b_M_isLegal 53 = .ok (.getfield 247, 3) := by decide +kernel
theorem d_M_isLegal_56 : decode b_M_isLegal 56 = .ok (.irem, 1) := by decide +kernel
theorem d_M_isLegal_57 : decode b_M_isLegal 57 = .ok (.iaload, 1) := by decide +kernel
theorem d_M_isLegal_58 : decode b_M_isLegal 58 = .ok (.iconst 2, 1) := by decide +kernel
theorem d_M_isLegal_59 : decode b_M_isLegal 59 = .ok (.if_icmp .ne 9, 3) := by decide +kernel
theorem d_M_isLegal_62 : decode b_M_isLegal 62 = .ok (.iinc 2 1, 3) := by decide +kernel
theorem d_M_isLegal_65 : decode b_M_isLegal 65 = .ok (.goto (-27), 3) := by decide +kernel
theorem d_M_isLegal_68 : decode b_M_isLegal 68 = .ok (.aload_n 0, 1) := by decide +kernel
theorem d_M_isLegal_69 : decode b_M_isLegal 69 = .ok (.iload_n 1, 1) := by decide +kernel
theorem d_M_isLegal_70 : decode b_M_isLegal 70 = .ok (.invokevirtual 277, 3) := by decide +kernel
theorem d_M_isLegal_73 : decode b_M_isLegal 73 = .ok (.iconst 1, 1) := by decide +kernel
theorem d_M_isLegal_74 : decode b_M_isLegal 74 = .ok (.aload_n 0, 1) := by decide +kernel
theorem d_M_isLegal_75 : decode b_M_isLegal 75 = .ok (.getfield 47, 3) := by decide +kernel
theorem d_M_isLegal_78 : decode b_M_isLegal 78 = .ok (.iload_n 1, 1) := by decide +kernel
theorem d_M_isLegal_79 : decode b_M_isLegal 79 = .ok (.iaload, 1) := by decide +kernel
theorem d_M_isLegal_80 : decode b_M_isLegal 80 = .ok (.isub, 1) := by decide +kernel
theorem d_M_isLegal_81 : decode b_M_isLegal 81 = .ok (.if_icmp .ne 7, 3) := by decide +kernel
theorem d_M_isLegal_84 : decode b_M_isLegal 84 = .ok (.iconst 1, 1) := by decide +kernel
theorem d_M_isLegal_85 : decode b_M_isLegal 85 = .ok (.goto 4, 3) := by decide +kernel
theorem d_M_isLegal_88 : decode b_M_isLegal 88 = .ok (.iconst 0, 1) := by decide +kernel
theorem d_M_isLegal_89 : decode b_M_isLegal 89 = .ok (.istore_n 3, 1) := by decide +kernel
theorem d_M_isLegal_90 : decode b_M_isLegal 90 = .ok (.iload_n 2, 1) := by decide +kernel
theorem d_M_isLegal_91 : decode b_M_isLegal 91 = .ok (.iload_n 3, 1) := by decide +kernel
theorem d_M_isLegal_92 : decode b_M_isLegal 92 = .ok (.ifCond .eq 10, 3) := by decide +kernel
theorem d_M_isLegal_95 : decode b_M_isLegal 95 = .ok (.aload_n 0, 1) := by decide +kernel
theorem d_M_isLegal_96 : decode b_M_isLegal 96 = .ok (.getfield 250, 3) := by decide +kernel
theorem d_M_isLegal_99 : decode b_M_isLegal 99 = .ok (.goto 4, 3) := by decide +kernel
theorem d_M_isLegal_102 : decode b_M_isLegal 102 = .ok (.iconst 0, 1) := by decide +kernel
theorem d_M_isLegal_103 : decode b_M_isLegal 103 = .ok (.if_icmp .eq 5, 3) := by decide +kernel
theorem d_M_isLegal_106 : decode b_M_isLegal 106 = .ok (.iconst 0, 1) := by decide +kernel
theorem d_M_isLegal_107 : decode b_M_isLegal 107 = .ok (.ireturn, 1) := by decide +kernel
theorem d_M_isLegal_108 : decode b_M_isLegal 108 = .ok (.iinc 1 1, 3) := by decide +kernel
theorem d_M_isLegal_111 : decode b_M_isLegal 111 = .ok (.goto (-93), 3) := by decide +kernel
theorem d_M_isLegal_114 : decode b_M_isLegal 114 = .ok (.iconst 1, 1) := by decide +kernel
theorem d_M_isLegal_115 : decode b_M_isLegal 115 = .ok (.ireturn, 1) := by decide +kernel
theorem d_M_carryings_0 : decode b_M_carryings 0 = .ok (.iconst 0, 1) := by decide +kernel
theorem d_M_carryings_1 : decode b_M_carryings 1 = .ok (.istore_n 1, 1) := by decide +kernel
theorem d_M_carryings_2 : decode b_M_carryings 2 = .ok (.iconst 0, 1) := by decide +kernel
theorem d_M_carryings_3 : decode b_M_carryings 3 = .ok (.istore_n 2, 1) := by decide +kernel
theorem d_M_carryings_4 : decode b_M_carryings 4 = .ok (.iload_n 2, 1) := by decide +kernel
theorem d_M_carryings_5 : decode b_M_carryings 5 = .ok (.aload_n 0, 1) := by decide +kernel
theorem d_M_carryings_6 : decode b_M_carryings 6 = .ok (.getfield 247, 3) := by decide +kernel
theorem d_M_carryings_9 : decode b_M_carryings 9 = .ok (.if_icmp .ge 25, 3) := by decide +kernel
theorem d_M_carryings_12 : decode b_M_carryings 12 = .ok (.iload_n 1, 1) := by decide +kernel
theorem d_M_carryings_13 : decode b_M_carryings 13 = .ok (.aload_n 0, 1) := by decide +kernel
theorem d_M_carryings_14 : decode b_M_carryings 14 = .ok (.iload_n 2, 1) := by decide +kernel
theorem d_M_carryings_15 : decode b_M_carryings 15 = .ok (.invokevirtual 280, 3) := by decide +kernel
theorem d_M_carryings_18 : decode b_M_carryings 18 = .ok (.ifCond .eq 7, 3) := by decide +kernel
theorem d_M_carryings_21 : decode b_M_carryings 21 = .ok (.iconst 1, 1) := by decide +kernel
theorem d_M_carryings_22 : decode b_M_carryings 22 = .ok (.goto 4, 3) := by decide +kernel
theorem d_M_carryings_25 : decode b_M_carryings 25 = .ok (.iconst 0, 1) := by decide +kernel
theorem d_M_carryings_26 : decode b_M_carryings 26 = .ok (.iadd, 1) := by decide +kernel
theorem d_M_carryings_27 : decode b_M_carryings 27 = .ok (.istore_n 1, 1) := by decide +kernel
theorem d_M_carryings_28 : decode b_M_carryings 28 = .ok (.iinc 2 1, 3) := by decide +kernel
theorem d_M_carryings_31 : decode b_M_carryings 31 = .ok (.goto (-27), 3) := by decide +kernel
theorem d_M_carryings_34 : decode b_M_carryings 34 = .ok (.iload_n 1, 1) := by decide +kernel
theorem d_M_carryings_35 : decode b_M_carryings 35 = .ok (.ireturn, 1) := by decide +kernel
theorem d_M_darkOf_0 : decode b_M_darkOf 0 = .ok (.iload_n 1, 1) := by decide +kernel
theorem d_M_darkOf_1 : decode b_M_darkOf 1 = .ok (.ifCond .ne 10, 3) := by decide +kernel
theorem d_M_darkOf_4 : decode b_M_darkOf 4 = .ok (.aload_n 0, 1) := by decide +kernel
theorem d_M_darkOf_5 : decode b_M_darkOf 5 = .ok (.getfield 268, 3) := by decide +kernel
theorem d_M_darkOf_8 : decode b_M_darkOf 8 = .ok (.goto 7, 3) := by decide +kernel
theorem d_M_darkOf_11 : decode b_M_darkOf 11 = .ok (.aload_n 0, 1) := by decide +kernel
theorem d_M_darkOf_12 : decode b_M_darkOf 12 = .ok (.getfield 271, 3) := by decide +kernel
theorem d_M_darkOf_15 : decode b_M_darkOf 15 = .ok (.ireturn, 1) := by decide +kernel
theorem d_M_awake_0 : decode b_M_awake 0 = .ok (.iconst 0, 1) := by decide +kernel
theorem d_M_awake_1 : decode b_M_awake 1 = .ok (.istore_n 1, 1) := by decide +kernel
theorem d_M_awake_2 : decode b_M_awake 2 = .ok (.iconst 0, 1) := by decide +kernel
theorem d_M_awake_3 : decode b_M_awake 3 = .ok (.istore_n 2, 1) := by decide +kernel
theorem d_M_awake_4 : decode b_M_awake 4 = .ok (.iload_n 2, 1) := by decide +kernel
theorem d_M_awake_5 : decode b_M_awake 5 = .ok (.aload_n 0, 1) := by decide +kernel
theorem d_M_awake_6 : decode b_M_awake 6 = .ok (.getfield 253, 3) := by decide +kernel
theorem d_M_awake_9 : decode b_M_awake 9 = .ok (.if_icmp .ge 37, 3) := by decide +kernel
theorem d_M_awake_12 : decode b_M_awake 12 = .ok (.iload_n 1, 1) := by decide +kernel
theorem d_M_awake_13 : decode b_M_awake 13 = .ok (.aload_n 0, 1) := by decide +kernel
theorem d_M_awake_14 : decode b_M_awake 14 = .ok (.iload_n 2, 1) := by decide +kernel
theorem d_M_awake_15 : decode b_M_awake 15 = .ok (.aload_n 0, 1) := by decide +kernel
theorem d_M_awake_16 : decode b_M_awake 16 = .ok (.aload_n 0, 1) := by decide +kernel
theorem d_M_awake_17 : decode b_M_awake 17 = .ok (.iload_n 2, 1) := by decide +kernel
theorem d_M_awake_18 : decode b_M_awake 18 = .ok (.iconst 0, 1) := by decide +kernel
theorem d_M_awake_19 : decode b_M_awake 19 = .ok (.invokevirtual 244, 3) := by decide +kernel
theorem d_M_awake_22 : decode b_M_awake 22 = .ok (.invokevirtual 283, 3) := by decide +kernel
theorem d_M_awake_25 : decode b_M_awake 25 = .ok (.invokevirtual 286, 3) := by decide +kernel
theorem d_M_awake_28 : decode b_M_awake 28 = .ok (.ifCond .eq 7, 3) := by decide +kernel
theorem d_M_awake_31 : decode b_M_awake 31 = .ok (.iconst 0, 1) := by decide +kernel
theorem d_M_awake_32 : decode b_M_awake 32 = .ok (.goto 6, 3) := by decide +kernel
theorem d_M_awake_35 : decode b_M_awake 35 = .ok (.iconst 1, 1) := by decide +kernel
theorem d_M_awake_36 : decode b_M_awake 36 = .ok (.iload_n 2, 1) := by decide +kernel
theorem d_M_awake_37 : decode b_M_awake 37 = .ok (.ishl, 1) := by decide +kernel
theorem d_M_awake_38 : decode b_M_awake 38 = .ok (.ior, 1) := by decide +kernel
theorem d_M_awake_39 : decode b_M_awake 39 = .ok (.istore_n 1, 1) := by decide +kernel
theorem d_M_awake_40 : decode b_M_awake 40 = .ok (.iinc 2 1, 3) := by decide +kernel
theorem d_M_awake_43 : decode b_M_awake 43 = .ok (.goto (-39), 3) := by decide +kernel
theorem d_M_awake_46 : decode b_M_awake 46 = .ok (.iload_n 1, 1) := by decide +kernel
theorem d_M_awake_47 : decode b_M_awake 47 = .ok (.ireturn, 1) := by decide +kernel
theorem d_M_sleeps_0 : decode b_M_sleeps 0 = .ok (.iload_n 2, 1) := by decide +kernel
theorem d_M_sleeps_1 : decode b_M_sleeps 1 = .ok (.aload_n 0, 1) := by decide +kernel
theorem d_M_sleeps_2 : decode b_M_sleeps 2 = .ok (.iload_n 1, 1) := by decide +kernel
theorem d_M_sleeps_3 : decode b_M_sleeps 3 = .ok (.iconst 1, 1) := by decide +kernel
theorem d_M_sleeps_4 : decode b_M_sleeps 4 = .ok (.invokevirtual 244, 3) := by decide +kernel
theorem d_M_sleeps_7 : decode b_M_sleeps 7 = .ok (.if_icmp .lt 22, 3) := by decide +kernel
theorem d_M_sleeps_10 : decode b_M_sleeps 10 = .ok (.aload_n 0, 1) := by decide +kernel
theorem d_M_sleeps_11 : decode b_M_sleeps 11 = .ok (.getfield 247, 3) := by decide +kernel
theorem d_M_sleeps_14 : decode b_M_sleeps 14 = .ok (.iload_n 2, 1) := by decide +kernel
theorem d_M_sleeps_15 : decode b_M_sleeps 15 = .ok (.isub, 1) := by decide +kernel
theorem d_M_sleeps_16 : decode b_M_sleeps 16 = .ok (.aload_n 0, 1) := by decide +kernel
theorem d_M_sleeps_17 : decode b_M_sleeps 17 = .ok (.iload_n 1, 1) := by decide +kernel
theorem d_M_sleeps_18 : decode b_M_sleeps 18 = .ok (.iconst 2, 1) := by decide +kernel
theorem d_M_sleeps_19 : decode b_M_sleeps 19 = .ok (.invokevirtual 244, 3) := by decide +kernel
theorem d_M_sleeps_22 : decode b_M_sleeps 22 = .ok (.if_icmp .lt 7, 3) := by decide +kernel
theorem d_M_sleeps_25 : decode b_M_sleeps 25 = .ok (.iconst 1, 1) := by decide +kernel
theorem d_M_sleeps_26 : decode b_M_sleeps 26 = .ok (.goto 4, 3) := by decide +kernel
theorem d_M_sleeps_29 : decode b_M_sleeps 29 = .ok (.iconst 0, 1) := by decide +kernel
theorem d_M_sleeps_30 : decode b_M_sleeps 30 = .ok (.ireturn, 1) := by decide +kernel
theorem d_M_spell_0 : decode b_M_spell 0 = .ok (.aload_n 0, 1) := by decide +kernel
theorem d_M_spell_1 : decode b_M_spell 1 = .ok (.iconst 0, 1) := by decide +kernel
theorem d_M_spell_2 : decode b_M_spell 2 = .ok (.putfield 80, 3) := by decide +kernel
theorem d_M_spell_5 : decode b_M_spell 5 = .ok (.aload_n 0, 1) := by decide +kernel
theorem d_M_spell_6 : decode b_M_spell 6 = .ok (.iload_n 1, 1) := by decide +kernel
theorem d_M_spell_7 : decode b_M_spell 7 = .ok (.invokevirtual 323, 3) := by decide +kernel
theorem d_M_spell_10 : decode b_M_spell 10 = .ok (.ifCond .ne 6, 3) := by decide +kernel
theorem d_M_spell_13 : decode b_M_spell 13 = .ok (.bipush (-2), 2) := by decide +kernel
theorem d_M_spell_15 : decode b_M_spell 15 = .ok (.ireturn, 1) := by decide +kernel
theorem d_M_spell_16 : decode b_M_spell 16 = .ok (.aload_n 0, 1) := by decide +kernel
theorem d_M_spell_17 : decode b_M_spell 17 = .ok (.invokevirtual 326, 3) := by decide +kernel
theorem d_M_spell_20 : decode b_M_spell 20 = .ok (.iload_n 2, 1) := by decide +kernel
theorem d_M_spell_21 : decode b_M_spell 21 = .ok (.iconst (-1), 1) := by decide +kernel
theorem d_M_spell_22 : decode b_M_spell 22 = .ok (.if_icmp .ne 29, 3) := by decide +kernel
theorem d_M_spell_25 : decode b_M_spell 25 = .ok (.iload_n 3, 1) := by decide +kernel
theorem d_M_spell_26 : decode b_M_spell 26 = .ok (.ifCond .ne 10, 3) := by decide +kernel
theorem d_M_spell_29 : decode b_M_spell 29 = .ok (.aload_n 0, 1) := by decide +kernel
theorem d_M_spell_30 : decode b_M_spell 30 = .ok (.invokevirtual 317, 3) := by decide +kernel
theorem d_M_spell_33 : decode b_M_spell 33 = .ok (.goto 17, 3) := by decide +kernel
theorem d_M_spell_36 : decode b_M_spell 36 = .ok (.iload_n 3, 1) := by decide +kernel
theorem d_M_spell_37 : decode b_M_spell 37 = .ok (.iconst 1, 1) := by decide +kernel
theorem d_M_spell_38 : decode b_M_spell 38 = .ok (.if_icmp .ne 10, 3) := by decide +kernel
theorem d_M_spell_41 : decode b_M_spell 41 = .ok (.aload_n 0, 1) := by decide +kernel
theorem d_M_spell_42 : decode b_M_spell 42 = .ok (.getfield 314, 3) := by decide +kernel
theorem d_M_spell_45 : decode b_M_spell 45 = .ok (.goto 5, 3) := by decide +kernel
theorem d_M_spell_48 : decode b_M_spell 48 = .ok (.bipush (-2), 2) := by decide +kernel
theorem d_M_spell_50 : decode b_M_spell 50 = .ok (.ireturn, 1) := by decide +kernel
theorem d_M_spell_51 : decode b_M_spell 51 = .ok (.iload_n 2, 1) := by decide +kernel
theorem d_M_spell_52 : decode b_M_spell 52 = .ok (.iconst 0, 1) := by decide +kernel
theorem d_M_spell_53 : decode b_M_spell 53 = .ok (.aload_n 0, 1) := by decide +kernel
theorem d_M_spell_54 : decode b_M_spell 54 = .ok (.invokevirtual 317, 3) := by decide +kernel
theorem d_M_spell_57 : decode b_M_spell 57 = .ok (.iconst 1, 1) := by decide +kernel
theorem d_M_spell_58 : decode b_M_spell 58 = .ok (.isub, 1) := by decide +kernel
theorem d_M_spell_59 : decode b_M_spell 59 = .ok (.invokestatic 88, 3) := by decide +kernel
theorem d_M_spell_62 : decode b_M_spell 62 = .ok (.ifCond .eq 21, 3) := by decide +kernel
theorem d_M_spell_65 : decode b_M_spell 65 = .ok (.iload_n 3, 1) := by decide +kernel
theorem d_M_spell_66 : decode b_M_spell 66 = .ok (.iconst 0, 1) := by decide +kernel
theorem d_M_spell_67 : decode b_M_spell 67 = .ok (.iconst 1, 1) := by decide +kernel
theorem d_M_spell_68 : decode b_M_spell 68 = .ok (.invokestatic 88, 3) := by decide +kernel
theorem d_M_spell_71 : decode b_M_spell 71 = .ok (.ifCond .eq 12, 3) := by decide +kernel
theorem d_M_spell_74 : decode b_M_spell 74 = .ok (.aload_n 0, 1) := by decide +kernel
theorem d_M_spell_75 : decode b_M_spell 75 = .ok (.iload_n 2, 1) := by decide +kernel
theorem d_M_spell_76 : decode b_M_spell 76 = .ok (.iload_n 3, 1) := by decide +kernel
theorem d_M_spell_77 : decode b_M_spell 77 = .ok (.invokevirtual 320, 3) := by decide +kernel
theorem d_M_spell_80 : decode b_M_spell 80 = .ok (.goto 5, 3) := by decide +kernel
theorem d_M_spell_83 : decode b_M_spell 83 = .ok (.bipush (-2), 2) := by decide +kernel
theorem d_M_spell_85 : decode b_M_spell 85 = .ok (.ireturn, 1) := by decide +kernel
theorem d_M_hasBook_0 : decode b_M_hasBook 0 = .ok (.aload_n 0, 1) := by decide +kernel
theorem d_M_hasBook_1 : decode b_M_hasBook 1 = .ok (.iload_n 1, 1) := by decide +kernel
theorem d_M_hasBook_2 : decode b_M_hasBook 2 = .ok (.putfield 311, 3) := by decide +kernel
theorem d_M_hasBook_5 : decode b_M_hasBook 5 = .ok (.aload_n 0, 1) := by decide +kernel
theorem d_M_hasBook_6 : decode b_M_hasBook 6 = .ok (.iconst 2, 1) := by decide +kernel
theorem d_M_hasBook_7 : decode b_M_hasBook 7 = .ok (.iload_n 1, 1) := by decide +kernel
theorem d_M_hasBook_8 : decode b_M_hasBook 8 = .ok (.invokevirtual 227, 3) := by decide +kernel
theorem d_M_hasBook_11 : decode b_M_hasBook 11 = .ok (.ireturn, 1) := by decide +kernel
theorem d_M_layBook_0 : decode b_M_layBook 0 = .ok (.aload_n 0, 1) := by decide +kernel
theorem d_M_layBook_1 : decode b_M_layBook 1 = .ok (.iconst 0, 1) := by decide +kernel
theorem d_M_layBook_2 : decode b_M_layBook 2 = .ok (.putfield 314, 3) := by decide +kernel
theorem d_M_layBook_5 : decode b_M_layBook 5 = .ok (.iconst 0, 1) := by decide +kernel
theorem d_M_layBook_6 : decode b_M_layBook 6 = .ok (.istore_n 1, 1) := by decide +kernel
theorem d_M_layBook_7 : decode b_M_layBook 7 = .ok (.iload_n 1, 1) := by decide +kernel
theorem d_M_layBook_8 : decode b_M_layBook 8 = .ok (.aload_n 0, 1) := by decide +kernel
theorem d_M_layBook_9 : decode b_M_layBook 9 = .ok (.invokevirtual 317, 3) := by decide +kernel
theorem d_M_layBook_12 : decode b_M_layBook 12 = .ok (.if_icmp .ge 52, 3) := by decide +kernel
theorem d_M_layBook_15 : decode b_M_layBook 15 = .ok (.iconst 0, 1) := by decide +kernel
theorem d_M_layBook_16 : decode b_M_layBook 16 = .ok (.istore_n 2, 1) := by decide +kernel
theorem d_M_layBook_17 : decode b_M_layBook 17 = .ok (.iload_n 2, 1) := by decide +kernel
theorem d_M_layBook_18 : decode b_M_layBook 18 = .ok (.aload_n 0, 1) := by decide +kernel
theorem d_M_layBook_19 : decode b_M_layBook 19 = .ok (.iload_n 1, 1) := by decide +kernel
theorem d_M_layBook_20 : decode b_M_layBook 20 = .ok (.iconst 1, 1) := by decide +kernel
theorem d_M_layBook_21 : decode b_M_layBook 21 = .ok (.invokevirtual 320, 3) := by decide +kernel
theorem d_M_layBook_24 : decode b_M_layBook 24 = .ok (.if_icmp .ge 34, 3) := by decide +kernel
theorem d_M_layBook_27 : decode b_M_layBook 27 = .ok (.aload_n 0, 1) := by decide +kernel
theorem d_M_layBook_28 : decode b_M_layBook 28 = .ok (.getfield 50, 3) := by decide +kernel
theorem d_M_layBook_31 : decode b_M_layBook 31 = .ok (.aload_n 0, 1) := by decide +kernel
theorem d_M_layBook_32 : decode b_M_layBook 32 = .ok (.getfield 314, 3) := by decide +kernel
theorem d_M_layBook_35 : decode b_M_layBook 35 = .ok (.aload_n 0, 1) := by decide +kernel
theorem d_M_layBook_36 : decode b_M_layBook 36 = .ok (.iload_n 1, 1) := by decide +kernel
theorem d_M_layBook_37 : decode b_M_layBook 37 = .ok (.iconst 0, 1) := by decide +kernel
theorem d_M_layBook_38 : decode b_M_layBook 38 = .ok (.invokevirtual 320, 3) := by decide +kernel
theorem d_M_layBook_41 : decode b_M_layBook 41 = .ok (.iastore, 1) := by decide +kernel
theorem d_M_layBook_42 : decode b_M_layBook 42 = .ok (.aload_n 0, 1) := by decide +kernel
theorem d_M_layBook_43 : decode b_M_layBook 43 = .ok (.dup, 1) := by decide +kernel
theorem d_M_layBook_44 : decode b_M_layBook 44 = .ok (.getfield 314, 3) := by decide +kernel
theorem d_M_layBook_47 : decode b_M_layBook 47 = .ok (.iconst 1, 1) := by decide +kernel
theorem d_M_layBook_48 : decode b_M_layBook 48 = .ok (.iadd, 1) := by decide +kernel
theorem d_M_layBook_49 : decode b_M_layBook 49 = .ok (.putfield 314, 3) := by decide +kernel
theorem d_M_layBook_52 : decode b_M_layBook 52 = .ok (.iinc 2 1, 3) := by decide +kernel
theorem d_M_layBook_55 : decode b_M_layBook 55 = .ok (.goto (-38), 3) := by decide +kernel
theorem d_M_layBook_58 : decode b_M_layBook 58 = .ok (.iinc 1 1, 3) := by decide +kernel
theorem d_M_layBook_61 : decode b_M_layBook 61 = .ok (.goto (-54), 3) := by decide +kernel
theorem d_M_layBook_64 : decode b_M_layBook 64 = .ok (.return_, 1) := by decide +kernel
theorem d_M_spells_0 : decode b_M_spells 0 = .ok (.aload_n 0, 1) := by decide +kernel
theorem d_M_spells_1 : decode b_M_spells 1 = .ok (.getfield 32, 3) := by decide +kernel
theorem d_M_spells_4 : decode b_M_spells 4 = .ok (.bipush 61, 2) := by decide +kernel
theorem d_M_spells_6 : decode b_M_spells 6 = .ok (.aload_n 0, 1) := by decide +kernel
theorem d_M_spells_7 : decode b_M_spells 7 = .ok (.getfield 311, 3) := by decide +kernel
theorem d_M_spells_10 : decode b_M_spells 10 = .ok (.imul, 1) := by decide +kernel
theorem d_M_spells_11 : decode b_M_spells 11 = .ok (.iaload, 1) := by decide +kernel
theorem d_M_spells_12 : decode b_M_spells 12 = .ok (.ireturn, 1) := by decide +kernel
theorem d_M_spellOf_0 : decode b_M_spellOf 0 = .ok (.aload_n 0, 1) := by decide +kernel
theorem d_M_spellOf_1 : decode b_M_spellOf 1 = .ok (.getfield 32, 3) := by decide +kernel
theorem d_M_spellOf_4 : decode b_M_spellOf 4 = .ok (.bipush 61, 2) := by decide +kernel
theorem d_M_spellOf_6 : decode b_M_spellOf 6 = .ok (.aload_n 0, 1) := by decide +kernel
theorem d_M_spellOf_7 : decode b_M_spellOf 7 = .ok (.getfield 311, 3) := by decide +kernel
theorem d_M_spellOf_10 : decode b_M_spellOf 10 = .ok (.imul, 1) := by decide +kernel
theorem d_M_spellOf_11 : decode b_M_spellOf 11 = .ok (.iconst 1, 1) := by decide +kernel
theorem d_M_spellOf_12 : decode b_M_spellOf 12 = .ok (.iadd, 1) := by decide +kernel
theorem d_M_spellOf_13 : decode b_M_spellOf 13 = .ok (.iconst 2, 1) := by decide +kernel
theorem d_M_spellOf_14 : decode b_M_spellOf 14 = .ok (.iload_n 1, 1) := by decide +kernel
theorem d_M_spellOf_15 : decode b_M_spellOf 15 = .ok (.imul, 1) := by decide +kernel
theorem d_M_spellOf_16 : decode b_M_spellOf 16 = .ok (.iadd, 1) := by decide +kernel
theorem d_M_spellOf_17 : decode b_M_spellOf 17 = .ok (.iload_n 2, 1) := by decide +kernel
theorem d_M_spellOf_18 : decode b_M_spellOf 18 = .ok (.iadd, 1) := by decide +kernel
theorem d_M_spellOf_19 : decode b_M_spellOf 19 = .ok (.iaload, 1) := by decide +kernel
theorem d_M_spellOf_20 : decode b_M_spellOf 20 = .ok (.ireturn, 1) := by decide +kernel
theorem d_M_days_0 : decode b_M_days 0 = .ok (.aload_n 0, 1) := by decide +kernel
theorem d_M_days_1 : decode b_M_days 1 = .ok (.iconst 0, 1) := by decide +kernel
theorem d_M_days_2 : decode b_M_days 2 = .ok (.putfield 80, 3) := by decide +kernel
theorem d_M_days_5 : decode b_M_days 5 = .ok (.aload_n 0, 1) := by decide +kernel
theorem d_M_days_6 : decode b_M_days 6 = .ok (.iload_n 2, 1) := by decide +kernel
theorem d_M_days_7 : decode b_M_days 7 = .ok (.invokevirtual 323, 3) := by decide +kernel
theorem d_M_days_10 : decode b_M_days 10 = .ok (.ifCond .eq 11, 3) := by decide +kernel
theorem d_M_days_13 : decode b_M_days 13 = .ok (.aload_n 0, 1) := by decide +kernel
theorem d_M_days_14 : decode b_M_days 14 = .ok (.iload_n 1, 1) := by decide +kernel
theorem d_M_days_15 : decode b_M_days 15 = .ok (.invokevirtual 259, 3) := by decide +kernel
theorem d_M_days_18 : decode b_M_days 18 = .ok (.ifCond .ne 6, 3) := by decide +kernel
theorem d_M_days_21 : decode b_M_days 21 = .ok (.bipush (-2), 2) := by decide +kernel
theorem d_M_days_23 : decode b_M_days 23 = .ok (.ireturn, 1) := by decide +kernel
theorem d_M_days_24 : decode b_M_days 24 = .ok (.aload_n 0, 1) := by decide +kernel
theorem d_M_days_25 : decode b_M_days 25 = .ok (.invokevirtual 326, 3) := by decide +kernel
theorem d_M_days_28 : decode b_M_days 28 = .ok (.aload_n 0, 1) := by decide +kernel
theorem d_M_days_29 : decode b_M_days 29 = .ok (.getfield 314, 3) := by decide +kernel
theorem d_M_days_32 : decode b_M_days 32 = .ok (.aload_n 0, 1) := by decide +kernel
theorem d_M_days_33 : decode b_M_days 33 = .ok (.getfield 247, 3) := by decide +kernel
theorem d_M_days_36 : decode b_M_days 36 = .ok (.idiv, 1) := by decide +kernel
theorem d_M_days_37 : decode b_M_days 37 = .ok (.istore 4, 2) := by decide +kernel
theorem d_M_days_39 : decode b_M_days 39 = .ok (.iload_n 3, 1) := by decide +kernel
theorem d_M_days_40 : decode b_M_days 40 = .ok (.bipush 100, 2) := by decide +kernel
theorem d_M_days_42 : decode b_M_days 42 = .ok (.bipush 99, 2) := by decide +kernel
theorem d_M_days_44 : decode b_M_days 44 = .ok (.iload 4, 2) := by decide +kernel
theorem d_M_days_46 : decode b_M_days 46 = .ok (.iadd, 1) := by decide +kernel
theorem d_M_days_47 : decode b_M_days 47 = .ok (.invokestatic 88, 3) := by decide +kernel
theorem d_M_days_50 : decode b_M_days 50 = .ok (.ifCond .eq 12, 3) := by decide +kernel
theorem d_M_days_53 : decode b_M_days 53 = .ok (.aload_n 0, 1) := by decide +kernel
theorem d_M_days_54 : decode b_M_days 54 = .ok (.iload_n 3, 1) := by decide +kernel
theorem d_M_days_55 : decode b_M_days 55 = .ok (.bipush 100, 2) := by decide +kernel
theorem d_M_days_57 : decode b_M_days 57 = .ok (.isub, 1) := by decide +kernel
theorem d_M_days_58 : decode b_M_days 58 = .ok (.invokevirtual 333, 3) := by decide +kernel
theorem d_M_days_61 : decode b_M_days 61 = .ok (.ireturn, 1) := by decide +kernel
theorem d_M_days_62 : decode b_M_days 62 = .ok (.iload_n 3, 1) := by decide +kernel
theorem d_M_days_63 : decode b_M_days 63 = .ok (.ifCond .ne 8, 3) := by decide +kernel
theorem d_M_days_66 : decode b_M_days 66 = .ok (.iload 4, 2) := by decide +kernel
theorem d_M_days_68 : decode b_M_days 68 = .ok (.goto 42, 3) := by decide +kernel
theorem d_M_days_71 : decode b_M_days 71 = .ok (.iload_n 3, 1) := by decide +kernel
theorem d_M_days_72 : decode b_M_days 72 = .ok (.iconst 1, 1) := by decide +kernel
theorem d_M_days_73 : decode b_M_days 73 = .ok (.if_icmp .ne 10, 3) := by decide +kernel
theorem d_M_days_76 : decode b_M_days 76 = .ok (.aload_n 0, 1) := by decide +kernel
theorem d_M_days_77 : decode b_M_days 77 = .ok (.invokevirtual 336, 3) := by decide +kernel
theorem d_M_days_80 : decode b_M_days 80 = .ok (.goto 30, 3) := by decide +kernel
theorem d_M_days_83 : decode b_M_days 83 = .ok (.iload_n 3, 1) := by decide +kernel
theorem d_M_days_84 : decode b_M_days 84 = .ok (.iconst 2, 1) := by decide +kernel
theorem d_M_days_85 : decode b_M_days 85 = .ok (.if_icmp .eq 8, 3) := by decide +kernel
theorem d_M_days_88 : decode b_M_days 88 = .ok (.iload_n 3, 1) := by decide +kernel
theorem d_M_days_89 : decode b_M_days 89 = .ok (.iconst 3, 1) := by decide +kernel
theorem d_M_days_90 : decode b_M_days 90 = .ok (.if_icmp .ne 18, 3) := by decide +kernel
theorem d_M_days_93 : decode b_M_days 93 = .ok (.aload_n 0, 1) := by decide +kernel
theorem d_M_days_94 : decode b_M_days 94 = .ok (.iload_n 3, 1) := by decide +kernel
theorem d_M_days_95 : decode b_M_days 95 = .ok (.iconst 2, 1) := by decide +kernel
theorem d_M_days_96 : decode b_M_days 96 = .ok (.isub, 1) := by decide +kernel
theorem d_M_days_97 : decode b_M_days 97 = .ok (.iconst 0, 1) := by decide +kernel
theorem d_M_days_98 : decode b_M_days 98 = .ok (.aload_n 0, 1) := by decide +kernel
theorem d_M_days_99 : decode b_M_days 99 = .ok (.getfield 314, 3) := by decide +kernel
theorem d_M_days_102 : decode b_M_days 102 = .ok (.invokevirtual 329, 3) := by decide +kernel
theorem d_M_days_105 : decode b_M_days 105 = .ok (.goto 5, 3) := by decide +kernel
theorem d_M_days_108 : decode b_M_days 108 = .ok (.bipush (-2), 2) := by decide +kernel
theorem d_M_days_110 : decode b_M_days 110 = .ok (.ireturn, 1) := by decide +kernel
theorem d_M_sleptIn_0 : decode b_M_sleptIn 0 = .ok (.iconst 0, 1) := by decide +kernel
theorem d_M_sleptIn_1 : decode b_M_sleptIn 1 = .ok (.istore_n 2, 1) := by decide +kernel
theorem d_M_sleptIn_2 : decode b_M_sleptIn 2 = .ok (.iconst 0, 1) := by decide +kernel
theorem d_M_sleptIn_3 : decode b_M_sleptIn 3 = .ok (.istore_n 3, 1) := by decide +kernel
theorem d_M_sleptIn_4 : decode b_M_sleptIn 4 = .ok (.iload_n 3, 1) := by decide +kernel
theorem d_M_sleptIn_5 : decode b_M_sleptIn 5 = .ok (.aload_n 0, 1) := by decide +kernel
theorem d_M_sleptIn_6 : decode b_M_sleptIn 6 = .ok (.getfield 253, 3) := by decide +kernel
theorem d_M_sleptIn_9 : decode b_M_sleptIn 9 = .ok (.if_icmp .ge 51, 3) := by decide +kernel
theorem d_M_sleptIn_12 : decode b_M_sleptIn 12 = .ok (.iload_n 2, 1) := by decide +kernel
theorem d_M_sleptIn_13 : decode b_M_sleptIn 13 = .ok (.aload_n 0, 1) := by decide +kernel
theorem d_M_sleptIn_14 : decode b_M_sleptIn 14 = .ok (.iload_n 3, 1) := by decide +kernel
theorem d_M_sleptIn_15 : decode b_M_sleptIn 15 = .ok (.aload_n 0, 1) := by decide +kernel
theorem d_M_sleptIn_16 : decode b_M_sleptIn 16 = .ok (.aload_n 0, 1) := by decide +kernel
theorem d_M_sleptIn_17 : decode b_M_sleptIn 17 = .ok (.iload_n 3, 1) := by decide +kernel
theorem d_M_sleptIn_18 : decode b_M_sleptIn 18 = .ok (.iconst 0, 1) := by decide +kernel
theorem d_M_sleptIn_19 : decode b_M_sleptIn 19 = .ok (.invokevirtual 244, 3) := by decide +kernel
theorem d_M_sleptIn_22 : decode b_M_sleptIn 22 = .ok (.aload_n 0, 1) := by decide +kernel
theorem d_M_sleptIn_23 : decode b_M_sleptIn 23 = .ok (.getfield 247, 3) := by decide +kernel
theorem d_M_sleptIn_26 : decode b_M_sleptIn 26 = .ok (.iload_n 1, 1) := by decide +kernel
theorem d_M_sleptIn_27 : decode b_M_sleptIn 27 = .ok (.imul, 1) := by decide +kernel
theorem d_M_sleptIn_28 : decode b_M_sleptIn 28 = .ok (.aload_n 0, 1) := by decide +kernel
theorem d_M_sleptIn_29 : decode b_M_sleptIn 29 = .ok (.getfield 247, 3) := by decide +kernel
theorem d_M_sleptIn_32 : decode b_M_sleptIn 32 = .ok (.iload_n 1, 1) := by decide +kernel
theorem d_M_sleptIn_33 : decode b_M_sleptIn 33 = .ok (.iconst 1, 1) := by decide +kernel
theorem d_M_sleptIn_34 : decode b_M_sleptIn 34 = .ok (.iadd, 1) := by decide +kernel
theorem d_M_sleptIn_35 : decode b_M_sleptIn 35 = .ok (.imul, 1) := by decide +kernel
theorem d_M_sleptIn_36 : decode b_M_sleptIn 36 = .ok (.invokevirtual 329, 3) := by decide +kernel
theorem d_M_sleptIn_39 : decode b_M_sleptIn 39 = .ok (.invokevirtual 286, 3) := by decide +kernel
theorem d_M_sleptIn_42 : decode b_M_sleptIn 42 = .ok (.ifCond .eq 9, 3) := by decide +kernel
theorem d_M_sleptIn_45 : decode b_M_sleptIn 45 = .ok (.iconst 1, 1) := by decide +kernel
theorem d_M_sleptIn_46 : decode b_M_sleptIn 46 = .ok (.iload_n 3, 1) := by decide +kernel
theorem d_M_sleptIn_47 : decode b_M_sleptIn 47 = .ok (.ishl, 1) := by decide +kernel
theorem d_M_sleptIn_48 : decode b_M_sleptIn 48 = .ok (.goto 4, 3) := by decide +kernel
theorem d_M_sleptIn_51 : decode b_M_sleptIn 51 = .ok (.iconst 0, 1) := by decide +kernel
theorem d_M_sleptIn_52 : decode b_M_sleptIn 52 = .ok (.ior, 1) := by decide +kernel
theorem d_M_sleptIn_53 : decode b_M_sleptIn 53 = .ok (.istore_n 2, 1) := by decide +kernel
theorem d_M_sleptIn_54 : decode b_M_sleptIn 54 = .ok (.iinc 3 1, 3) := by decide +kernel
theorem d_M_sleptIn_57 : decode b_M_sleptIn 57 = .ok (.goto (-53), 3) := by decide +kernel
theorem d_M_sleptIn_60 : decode b_M_sleptIn 60 = .ok (.iload_n 2, 1) := by decide +kernel
theorem d_M_sleptIn_61 : decode b_M_sleptIn 61 = .ok (.ireturn, 1) := by decide +kernel
theorem d_M_wentIn_0 : decode b_M_wentIn 0 = .ok (.iconst 0, 1) := by decide +kernel
theorem d_M_wentIn_1 : decode b_M_wentIn 1 = .ok (.istore 4, 2) := by decide +kernel
theorem d_M_wentIn_3 : decode b_M_wentIn 3 = .ok (.iload_n 2, 1) := by decide +kernel
theorem d_M_wentIn_4 : decode b_M_wentIn 4 = .ok (.istore 5, 2) := by decide +kernel
theorem d_M_wentIn_6 : decode b_M_wentIn 6 = .ok (.iload 5, 2) := by decide +kernel
theorem d_M_wentIn_8 : decode b_M_wentIn 8 = .ok (.iload_n 3, 1) := by decide +kernel
theorem d_M_wentIn_9 : decode b_M_wentIn 9 = .ok (.if_icmp .ge 30, 3) := by decide +kernel
theorem d_M_wentIn_12 : decode b_M_wentIn 12 = .ok (.iload 4, 2) := by decide +kernel
theorem d_M_wentIn_14 : decode b_M_wentIn 14 = .ok (.aload_n 0, 1) := by decide +kernel
theorem d_M_wentIn_15 : decode b_M_wentIn 15 = .ok (.getfield 50, 3) := by decide +kernel
theorem d_M_wentIn_18 : decode b_M_wentIn 18 = .ok (.iload 5, 2) := by decide +kernel
theorem d_M_wentIn_20 : decode b_M_wentIn 20 = .ok (.iaload, 1) := by decide +kernel
theorem d_M_wentIn_21 : decode b_M_wentIn 21 = .ok (.iload_n 1, 1) := by decide +kernel
theorem d_M_wentIn_22 : decode b_M_wentIn 22 = .ok (.if_icmp .ne 7, 3) := by decide +kernel
theorem d_M_wentIn_25 : decode b_M_wentIn 25 = .ok (.iconst 1, 1) := by decide +kernel
theorem d_M_wentIn_26 : decode b_M_wentIn 26 = .ok (.goto 4, 3) := by decide +kernel
theorem d_M_wentIn_29 : decode b_M_wentIn 29 = .ok (.iconst 0, 1) := by decide +kernel
theorem d_M_wentIn_30 : decode b_M_wentIn 30 = .ok (.iadd, 1) := by decide +kernel
theorem d_M_wentIn_31 : decode b_M_wentIn 31 = .ok (.istore 4, 2) := by decide +kernel
theorem d_M_wentIn_33 : decode b_M_wentIn 33 = .ok (.iinc 5 1, 3) := by decide +kernel
theorem d_M_wentIn_36 : decode b_M_wentIn 36 = .ok (.goto (-30), 3) := by decide +kernel
theorem d_M_wentIn_39 : decode b_M_wentIn 39 = .ok (.iload 4, 2) := by decide +kernel
theorem d_M_wentIn_41 : decode b_M_wentIn 41 = .ok (.ireturn, 1) := by decide +kernel
theorem d_M_villages_0 : decode b_M_villages 0 = .ok (.iconst 0, 1) := by decide +kernel
theorem d_M_villages_1 : decode b_M_villages 1 = .ok (.istore_n 1, 1) := by decide +kernel
theorem d_M_villages_2 : decode b_M_villages 2 = .ok (.iconst 0, 1) := by decide +kernel
theorem d_M_villages_3 : decode b_M_villages 3 = .ok (.istore_n 2, 1) := by decide +kernel
theorem d_M_villages_4 : decode b_M_villages 4 = .ok (.iconst 0, 1) := by decide +kernel
theorem d_M_villages_5 : decode b_M_villages 5 = .ok (.istore_n 3, 1) := by decide +kernel
theorem d_M_villages_6 : decode b_M_villages 6 = .ok (.iload_n 3, 1) := by decide +kernel
theorem d_M_villages_7 : decode b_M_villages 7 = .ok (.aload_n 0, 1) := by decide +kernel
theorem d_M_villages_8 : decode b_M_villages 8 = .ok (.getfield 314, 3) := by decide +kernel
theorem d_M_villages_11 : decode b_M_villages 11 = .ok (.if_icmp .ge 45, 3) := by decide +kernel
theorem d_M_villages_14 : decode b_M_villages 14 = .ok (.aload_n 0, 1) := by decide +kernel
theorem d_M_villages_15 : decode b_M_villages 15 = .ok (.getfield 50, 3) := by decide +kernel
theorem d_M_villages_18 : decode b_M_villages 18 = .ok (.iload_n 3, 1) := by decide +kernel
theorem d_M_villages_19 : decode b_M_villages 19 = .ok (.iaload, 1) := by decide +kernel
theorem d_M_villages_20 : decode b_M_villages 20 = .ok (.iconst 2, 1) := by decide +kernel
theorem d_M_villages_21 : decode b_M_villages 21 = .ok (.if_icmp .ne 9, 3) := by decide +kernel
theorem d_M_villages_24 : decode b_M_villages 24 = .ok (.iload_n 2, 1) := by decide +kernel
theorem d_M_villages_25 : decode b_M_villages 25 = .ok (.iconst 1, 1) := by decide +kernel
theorem d_M_villages_26 : decode b_M_villages 26 = .ok (.iadd, 1) := by decide +kernel
theorem d_M_villages_27 : decode b_M_villages 27 = .ok (.goto 4, 3) := by decide +kernel
theorem d_M_villages_30 : decode b_M_villages 30 = .ok (.iconst 0, 1) := by decide +kernel
theorem d_M_villages_31 : decode b_M_villages 31 = .ok (.istore_n 2, 1) := by decide +kernel
theorem d_M_villages_32 : decode b_M_villages 32 = .ok (.iload_n 1, 1) := by decide +kernel
theorem d_M_villages_33 : decode b_M_villages 33 = .ok (.iload_n 2, 1) := by decide +kernel
theorem d_M_villages_34 : decode b_M_villages 34 = .ok (.aload_n 0, 1) := by decide +kernel
theorem d_M_villages_35 : decode b_M_villages 35 = .ok (.getfield 250, 3) := by decide +kernel
theorem d_M_villages_38 : decode b_M_villages 38 = .ok (.iconst 1, 1) := by decide +kernel
theorem d_M_villages_39 : decode b_M_villages 39 = .ok (.iadd, 1) := by decide +kernel
theorem d_M_villages_40 : decode b_M_villages 40 = .ok (.if_icmp .ne 7, 3) := by decide +kernel
theorem d_M_villages_43 : decode b_M_villages 43 = .ok (.iconst 1, 1) := by decide +kernel
theorem d_M_villages_44 : decode b_M_villages 44 = .ok (.goto 4, 3) := by decide +kernel
theorem d_M_villages_47 : decode b_M_villages 47 = .ok (.iconst 0, 1) := by decide +kernel
theorem d_M_villages_48 : decode b_M_villages 48 = .ok (.iadd, 1) := by decide +kernel
theorem d_M_villages_49 : decode b_M_villages 49 = .ok (.istore_n 1, 1) := by decide +kernel
theorem d_M_villages_50 : decode b_M_villages 50 = .ok (.iinc 3 1, 3) := by decide +kernel
theorem d_M_villages_53 : decode b_M_villages 53 = .ok (.goto (-47), 3) := by decide +kernel
theorem d_M_villages_56 : decode b_M_villages 56 = .ok (.iload_n 1, 1) := by decide +kernel
theorem d_M_villages_57 : decode b_M_villages 57 = .ok (.ireturn, 1) := by decide +kernel
theorem d_M_breach_0 : decode b_M_breach 0 = .ok (.aload_n 0, 1) := by decide +kernel
theorem d_M_breach_1 : decode b_M_breach 1 = .ok (.iconst 0, 1) := by decide +kernel
theorem d_M_breach_2 : decode b_M_breach 2 = .ok (.putfield 80, 3) := by decide +kernel
theorem d_M_breach_5 : decode b_M_breach 5 = .ok (.aload_n 0, 1) := by decide +kernel
theorem d_M_breach_6 : decode b_M_breach 6 = .ok (.iload_n 2, 1) := by decide +kernel
theorem d_M_breach_7 : decode b_M_breach 7 = .ok (.invokevirtual 323, 3) := by decide +kernel
theorem d_M_breach_10 : decode b_M_breach 10 = .ok (.ifCond .eq 22, 3) := by decide +kernel
theorem d_M_breach_13 : decode b_M_breach 13 = .ok (.aload_n 0, 1) := by decide +kernel
theorem d_M_breach_14 : decode b_M_breach 14 = .ok (.iload_n 1, 1) := by decide +kernel
theorem d_M_breach_15 : decode b_M_breach 15 = .ok (.iload_n 3, 1) := by decide +kernel
theorem d_M_breach_16 : decode b_M_breach 16 = .ok (.invokevirtual 293, 3) := by decide +kernel
theorem d_M_breach_19 : decode b_M_breach 19 = .ok (.ifCond .eq 13, 3) := by decide +kernel
theorem d_M_breach_22 : decode b_M_breach 22 = .ok (.iload 4, 2) := by decide +kernel
theorem d_M_breach_24 : decode b_M_breach 24 = .ok (.iconst 0, 1) := by decide +kernel
theorem d_M_breach_25 : decode b_M_breach 25 = .ok (.iconst 2, 1) := by decide +kernel
theorem d_M_breach_26 : decode b_M_breach 26 = .ok (.invokestatic 88, 3) := by decide +kernel
theorem d_M_breach_29 : decode b_M_breach 29 = .ok (.ifCond .ne 7, 3) := by decide +kernel
theorem d_M_breach_32 : decode b_M_breach 32 = .ok (.sipush (-1000), 3) := by decide +kernel
theorem d_M_breach_35 : decode b_M_breach 35 = .ok (.ireturn, 1) := by decide +kernel
theorem d_M_breach_36 : decode b_M_breach 36 = .ok (.aload_n 0, 1) := by decide +kernel
theorem d_M_breach_37 : decode b_M_breach 37 = .ok (.invokevirtual 326, 3) := by decide +kernel
theorem d_M_breach_40 : decode b_M_breach 40 = .ok (.iconst (-1), 1) := by decide +kernel
theorem d_M_breach_41 : decode b_M_breach 41 = .ok (.istore 5, 2) := by decide +kernel
theorem d_M_breach_43 : decode b_M_breach 43 = .ok (.iconst 0, 1) := by decide +kernel
theorem d_M_breach_44 : decode b_M_breach 44 = .ok (.istore 6, 2) := by decide +kernel
theorem d_M_breach_46 : decode b_M_breach 46 = .ok (.iconst 0, 1) := by decide +kernel
theorem d_M_breach_47 : decode b_M_breach 47 = .ok (.istore 7, 2) := by decide +kernel
theorem d_M_breach_49 : decode b_M_breach 49 = .ok (.iload 7, 2) := by decide +kernel
theorem d_M_breach_51 : decode b_M_breach 51 = .ok (.aload_n 0, 1) := by decide +kernel
theorem d_M_breach_52 : decode b_M_breach 52 = .ok (.getfield 314, 3) := by decide +kernel
theorem d_M_breach_55 : decode b_M_breach 55 = .ok (.if_icmp .ge 89, 3) := by decide +kernel
theorem d_M_breach_58 : decode b_M_breach 58 = .ok (.aload_n 0, 1) := by decide +kernel
theorem d_M_breach_59 : decode b_M_breach 59 = .ok (.getfield 47, 3) := by decide +kernel
theorem d_M_breach_62 : decode b_M_breach 62 = .ok (.iload 7, 2) := by decide +kernel
theorem d_M_breach_64 : decode b_M_breach 64 = .ok (.aload_n 0, 1) := by decide +kernel
theorem d_M_breach_65 : decode b_M_breach 65 = .ok (.getfield 247, 3) := by decide +kernel
theorem d_M_breach_68 : decode b_M_breach 68 = .ok (.irem, 1) := by decide +kernel
theorem d_M_breach_69 : decode b_M_breach 69 = .ok (.iaload, 1) := by decide +kernel
theorem d_M_breach_70 : decode b_M_breach 70 = .ok (.istore 8, 2) := by decide +kernel
theorem d_M_breach_72 : decode b_M_breach 72 = .ok (.iload 5, 2) := by decide +kernel
theorem d_M_breach_74 : decode b_M_breach 74 = .ok (.iconst (-1), 1) := by decide +kernel
theorem d_M_breach_75 : decode b_M_breach 75 = .ok (.if_icmp .ne 20, 3) := by decide +kernel
theorem d_M_breach_78 : decode b_M_breach 78 = .ok (.aload_n 0, 1) := by decide +kernel
theorem d_M_breach_79 : decode b_M_breach 79 = .ok (.getfield 50, 3) := by decide +kernel
theorem d_M_breach_82 : decode b_M_breach 82 = .ok (.iload 7, 2) := by decide +kernel
theorem d_M_breach_84 : decode b_M_breach 84 = .ok (.iaload, 1) := by decide +kernel
theorem d_M_breach_85 : decode b_M_breach 85 = .ok (.iload 8, 2) := by decide +kernel
theorem d_M_breach_87 : decode b_M_breach 87 = .ok (.if_icmp .eq 8, 3) := by decide +kernel
theorem d_M_breach_90 : decode b_M_breach 90 = .ok (.iload 7, 2) := by decide +kernel
theorem d_M_breach_92 : decode b_M_breach 92 = .ok (.goto 5, 3) := by decide +kernel
theorem d_M_breach_95 : decode b_M_breach 95 = .ok (.iload 5, 2) := by decide +kernel
theorem d_M_breach_97 : decode b_M_breach 97 = .ok (.istore 5, 2) := by decide +kernel
theorem d_M_breach_99 : decode b_M_breach 99 = .ok (.iload 6, 2) := by decide +kernel
theorem d_M_breach_101 : decode b_M_breach 101 = .ok (.iload 8, 2) := by decide +kernel
theorem d_M_breach_103 : decode b_M_breach 103 = .ok (.iload 4, 2) := by decide +kernel
theorem d_M_breach_105 : decode b_M_breach 105 = .ok (.iconst 1, 1) := by decide +kernel
theorem d_M_breach_106 : decode b_M_breach 106 = .ok (.isub, 1) := by decide +kernel
theorem d_M_breach_107 : decode b_M_breach 107 = .ok (.if_icmp .ne 7, 3) := by decide +kernel
theorem d_M_breach_110 : decode b_M_breach 110 = .ok (.iconst 1, 1) := by decide +kernel
theorem d_M_breach_111 : decode b_M_breach 111 = .ok (.goto 4, 3) := by decide +kernel
theorem d_M_breach_114 : decode b_M_breach 114 = .ok (.iconst 0, 1) := by decide +kernel
theorem d_M_breach_115 : decode b_M_breach 115 = .ok (.aload_n 0, 1) := by decide +kernel
theorem d_M_breach_116 : decode b_M_breach 116 = .ok (.getfield 50, 3) := by decide +kernel
theorem d_M_breach_119 : decode b_M_breach 119 = .ok (.iload 7, 2) := by decide +kernel
theorem d_M_breach_121 : decode b_M_breach 121 = .ok (.iaload, 1) := by decide +kernel
theorem d_M_breach_122 : decode b_M_breach 122 = .ok (.iload 4, 2) := by decide +kernel
theorem d_M_breach_124 : decode b_M_breach 124 = .ok (.iconst 1, 1) := by decide +kernel
theorem d_M_breach_125 : decode b_M_breach 125 = .ok (.isub, 1) := by decide +kernel
theorem d_M_breach_126 : decode b_M_breach 126 = .ok (.if_icmp .ne 7, 3) := by decide +kernel
theorem d_M_breach_129 : decode b_M_breach 129 = .ok (.iconst 1, 1) := by decide +kernel
theorem d_M_breach_130 : decode b_M_breach 130 = .ok (.goto 4, 3) := by decide +kernel
theorem d_M_breach_133 : decode b_M_breach 133 = .ok (.iconst 0, 1) := by decide +kernel
theorem d_M_breach_134 : decode b_M_breach 134 = .ok (.isub, 1) := by decide +kernel
theorem d_M_breach_135 : decode b_M_breach 135 = .ok (.iadd, 1) := by decide +kernel
theorem d_M_breach_136 : decode b_M_breach 136 = .ok (.istore 6, 2) := by decide +kernel
theorem d_M_breach_138 : decode b_M_breach 138 = .ok (.iinc 7 1, 3) := by decide +kernel
theorem d_M_breach_141 : decode b_M_breach 141 = .ok (.goto (-92), 3) := by decide +kernel
theorem d_M_breach_144 : decode b_M_breach 144 = .ok (.iload 4, 2) := by decide +kernel
theorem d_M_breach_146 : decode b_M_breach 146 = .ok (.ifCond .ne 8, 3) := by decide +kernel
theorem d_M_breach_149 : decode b_M_breach 149 = .ok (.iload 5, 2) := by decide +kernel
theorem d_M_breach_151 : decode b_M_breach 151 = .ok (.goto 5, 3) := by decide +kernel
theorem d_M_breach_154 : decode b_M_breach 154 = .ok (.iload 6, 2) := by decide +kernel
theorem d_M_breach_156 : decode b_M_breach 156 = .ok (.ireturn, 1) := by decide +kernel
theorem d_M_ways_0 : decode b_M_ways 0 = .ok (.aload_n 0, 1) := by decide +kernel
theorem d_M_ways_1 : decode b_M_ways 1 = .ok (.iconst 0, 1) := by decide +kernel
theorem d_M_ways_2 : decode b_M_ways 2 = .ok (.putfield 80, 3) := by decide +kernel
theorem d_M_ways_5 : decode b_M_ways 5 = .ok (.aload_n 0, 1) := by decide +kernel
theorem d_M_ways_6 : decode b_M_ways 6 = .ok (.iload_n 1, 1) := by decide +kernel
theorem d_M_ways_7 : decode b_M_ways 7 = .ok (.invokevirtual 259, 3) := by decide +kernel
theorem d_M_ways_10 : decode b_M_ways 10 = .ok (.ifCond .ne 7, 3) := by decide +kernel
theorem d_M_ways_13 : decode b_M_ways 13 = .ok (.ldc2_w 372, 3) := by decide +kernel
theorem d_M_ways_16 : decode b_M_ways 16 = .ok (.lreturn, 1) := by decide +kernel
theorem d_M_ways_17 : decode b_M_ways 17 = .ok (.aload_n 0, 1) := by decide +kernel
theorem d_M_ways_18 : decode b_M_ways 18 = .ok (.invokevirtual 374, 3) := by decide +kernel
theorem d_M_ways_21 : decode b_M_ways 21 = .ok (.lconst 0, 1) := by decide +kernel
theorem d_M_ways_22 : decode b_M_ways 22 = .ok (.lstore_n 2, 1) := by decide +kernel
theorem d_M_ways_23 : decode b_M_ways 23 = .ok (.iconst 0, 1) := by decide +kernel
theorem d_M_ways_24 : decode b_M_ways 24 = .ok (.istore 4, 2) := by decide +kernel
theorem d_M_ways_26 : decode b_M_ways 26 = .ok (.iload 4, 2) := by decide +kernel
theorem d_M_ways_28 : decode b_M_ways 28 = .ok (.aload_n 0, 1) := by decide +kernel
theorem d_M_ways_29 : decode b_M_ways 29 = .ok (.invokevirtual 360, 3) := by decide +kernel
theorem d_M_ways_32 : decode b_M_ways 32 = .ok (.if_icmp .ge 18, 3) := by decide +kernel
theorem d_M_ways_35 : decode b_M_ways 35 = .ok (.lload_n 2, 1) := by decide +kernel
theorem d_M_ways_36 : decode b_M_ways 36 = .ok (.aload_n 0, 1) := by decide +kernel
theorem d_M_ways_37 : decode b_M_ways 37 = .ok (.iload 4, 2) := by decide +kernel
theorem d_M_ways_39 : decode b_M_ways 39 = .ok (.invokevirtual 377, 3) := by decide +kernel
theorem d_M_ways_42 : decode b_M_ways 42 = .ok (.ladd, 1) := by decide +kernel
theorem d_M_ways_43 : decode b_M_ways 43 = .ok (.lstore_n 2, 1) := by decide +kernel
theorem d_M_ways_44 : decode b_M_ways 44 = .ok (.iinc 4 1, 3) := by decide +kernel
theorem d_M_ways_47 : decode b_M_ways 47 = .ok (.goto (-21), 3) := by decide +kernel
theorem d_M_ways_50 : decode b_M_ways 50 = .ok (.lload_n 2, 1) := by decide +kernel
theorem d_M_ways_51 : decode b_M_ways 51 = .ok (.lreturn, 1) := by decide +kernel
theorem d_M_layNeeds_0 : decode b_M_layNeeds 0 = .ok (.aload_n 0, 1) := by decide +kernel
theorem d_M_layNeeds_1 : decode b_M_layNeeds 1 = .ok (.iconst 0, 1) := by decide +kernel
theorem d_M_layNeeds_2 : decode b_M_layNeeds 2 = .ok (.putfield 342, 3) := by decide +kernel
theorem d_M_layNeeds_5 : decode b_M_layNeeds 5 = .ok (.aload_n 0, 1) := by decide +kernel
theorem d_M_layNeeds_6 : decode b_M_layNeeds 6 = .ok (.iconst 0, 1) := by decide +kernel
theorem d_M_layNeeds_7 : decode b_M_layNeeds 7 = .ok (.putfield 345, 3) := by decide +kernel
theorem d_M_layNeeds_10 : decode b_M_layNeeds 10 = .ok (.aload_n 0, 1) := by decide +kernel
theorem d_M_layNeeds_11 : decode b_M_layNeeds 11 = .ok (.aload_n 0, 1) := by decide +kernel
theorem d_M_layNeeds_12 : decode b_M_layNeeds 12 = .ok (.getfield 247, 3) := by decide +kernel
theorem d_M_layNeeds_15 : decode b_M_layNeeds 15 = .ok (.putfield 348, 3) := by decide +kernel
theorem d_M_layNeeds_18 : decode b_M_layNeeds 18 = .ok (.aload_n 0, 1) := by decide +kernel
theorem d_M_layNeeds_19 : decode b_M_layNeeds 19 = .ok (.aload_n 0, 1) := by decide +kernel
theorem d_M_layNeeds_20 : decode b_M_layNeeds 20 = .ok (.getfield 247, 3) := by decide +kernel
theorem d_M_layNeeds_23 : decode b_M_layNeeds 23 = .ok (.putfield 351, 3) := by decide +kernel
theorem d_M_layNeeds_26 : decode b_M_layNeeds 26 = .ok (.iconst 0, 1) := by decide +kernel
theorem d_M_layNeeds_27 : decode b_M_layNeeds 27 = .ok (.istore_n 1, 1) := by decide +kernel
theorem d_M_layNeeds_28 : decode b_M_layNeeds 28 = .ok (.iload_n 1, 1) := by decide +kernel
theorem d_M_layNeeds_29 : decode b_M_layNeeds 29 = .ok (.aload_n 0, 1) := by decide +kernel
theorem d_M_layNeeds_30 : decode b_M_layNeeds 30 = .ok (.getfield 253, 3) := by decide +kernel
theorem d_M_layNeeds_33 : decode b_M_layNeeds 33 = .ok (.if_icmp .ge 99, 3) := by decide +kernel
theorem d_M_layNeeds_36 : decode b_M_layNeeds 36 = .ok (.aload_n 0, 1) := by decide +kernel
theorem d_M_layNeeds_37 : decode b_M_layNeeds 37 = .ok (.iload_n 1, 1) := by decide +kernel
theorem d_M_layNeeds_38 : decode b_M_layNeeds 38 = .ok (.iconst 0, 1) := by decide +kernel
theorem d_M_layNeeds_39 : decode b_M_layNeeds 39 = .ok (.invokevirtual 244, 3) := by decide +kernel
theorem d_M_layNeeds_42 : decode b_M_layNeeds 42 = .ok (.ifCond .ne 45, 3) := by decide +kernel
theorem d_M_layNeeds_45 : decode b_M_layNeeds 45 = .ok (.aload_n 0, 1) := by decide +kernel
theorem d_M_layNeeds_46 : decode b_M_layNeeds 46 = .ok (.aload_n 0, 1) := by decide +kernel
theorem d_M_layNeeds_47 : decode b_M_layNeeds 47 = .ok (.getfield 342, 3) := by decide +kernel
theorem d_M_layNeeds_50 : decode b_M_layNeeds 50 = .ok (.aload_n 0, 1) := by decide +kernel
theorem d_M_layNeeds_51 : decode b_M_layNeeds 51 = .ok (.iload_n 1, 1) := by decide +kernel
theorem d_M_layNeeds_52 : decode b_M_layNeeds 52 = .ok (.iconst 1, 1) := by decide +kernel
theorem d_M_layNeeds_53 : decode b_M_layNeeds 53 = .ok (.invokevirtual 244, 3) := by decide +kernel
theorem d_M_layNeeds_56 : decode b_M_layNeeds 56 = .ok (.invokestatic 149, 3) := by decide +kernel
theorem d_M_layNeeds_59 : decode b_M_layNeeds 59 = .ok (.putfield 342, 3) := by decide +kernel
theorem d_M_layNeeds_62 : decode b_M_layNeeds 62 = .ok (.aload_n 0, 1) := by decide +kernel
theorem d_M_layNeeds_63 : decode b_M_layNeeds 63 = .ok (.aload_n 0, 1) := by decide +kernel
theorem d_M_layNeeds_64 : decode b_M_layNeeds 64 = .ok (.getfield 348, 3) := by decide +kernel
theorem d_M_layNeeds_67 : decode b_M_layNeeds 67 = .ok (.aload_n 0, 1) := by decide +kernel
theorem d_M_layNeeds_68 : decode b_M_layNeeds 68 = .ok (.getfield 247, 3) := by decide +kernel
theorem d_M_layNeeds_71 : decode b_M_layNeeds 71 = .ok (.aload_n 0, 1) := by decide +kernel
theorem d_M_layNeeds_72 : decode b_M_layNeeds 72 = .ok (.iload_n 1, 1) := by decide +kernel
theorem d_M_layNeeds_73 : decode b_M_layNeeds 73 = .ok (.iconst 2, 1) := by decide +kernel
theorem d_M_layNeeds_74 : decode b_M_layNeeds 74 = .ok (.invokevirtual 244, 3) := by decide +kernel
theorem d_M_layNeeds_77 : decode b_M_layNeeds 77 = .ok (.isub, 1) := by decide +kernel
theorem d_M_layNeeds_78 : decode b_M_layNeeds 78 = .ok (.invokestatic 290, 3) := by decide +kernel
theorem d_M_layNeeds_81 : decode b_M_layNeeds 81 = .ok (.putfield 348, 3) := by decide +kernel
theorem d_M_layNeeds_84 : decode b_M_layNeeds 84 = .ok (.goto 42, 3) := by decide +kernel
theorem d_M_layNeeds_87 : decode b_M_layNeeds 87 = .ok (.aload_n 0, 1) := by decide +kernel
theorem d_M_layNeeds_88 : decode b_M_layNeeds 88 = .ok (.aload_n 0, 1) := by decide +kernel
theorem d_M_layNeeds_89 : decode b_M_layNeeds 89 = .ok (.getfield 345, 3) := by decide +kernel
theorem d_M_layNeeds_92 : decode b_M_layNeeds 92 = .ok (.aload_n 0, 1) := by decide +kernel
theorem d_M_layNeeds_93 : decode b_M_layNeeds 93 = .ok (.iload_n 1, 1) := by decide +kernel
theorem d_M_layNeeds_94 : decode b_M_layNeeds 94 = .ok (.iconst 1, 1) := by decide +kernel
theorem d_M_layNeeds_95 : decode b_M_layNeeds 95 = .ok (.invokevirtual 244, 3) := by decide +kernel
theorem d_M_layNeeds_98 : decode b_M_layNeeds 98 = .ok (.invokestatic 149, 3) := by decide +kernel
theorem d_M_layNeeds_101 : decode b_M_layNeeds 101 = .ok (.putfield 345, 3) := by decide +kernel
theorem d_M_layNeeds_104 : decode b_M_layNeeds 104 = .ok (.aload_n 0, 1) := by decide +kernel
theorem d_M_layNeeds_105 : decode b_M_layNeeds 105 = .ok (.aload_n 0, 1) := by decide +kernel
theorem d_M_layNeeds_106 : decode b_M_layNeeds 106 = .ok (.getfield 351, 3) := by decide +kernel
theorem d_M_layNeeds_109 : decode b_M_layNeeds 109 = .ok (.aload_n 0, 1) := by decide +kernel
theorem d_M_layNeeds_110 : decode b_M_layNeeds 110 = .ok (.getfield 247, 3) := by decide +kernel
theorem d_M_layNeeds_113 : decode b_M_layNeeds 113 = .ok (.aload_n 0, 1) := by decide +kernel
theorem d_M_layNeeds_114 : decode b_M_layNeeds 114 = .ok (.iload_n 1, 1) := by decide +kernel
theorem d_M_layNeeds_115 : decode b_M_layNeeds 115 = .ok (.iconst 2, 1) := by decide +kernel
theorem d_M_layNeeds_116 : decode b_M_layNeeds 116 = .ok (.invokevirtual 244, 3) := by decide +kernel
theorem d_M_layNeeds_119 : decode b_M_layNeeds 119 = .ok (.isub, 1) := by decide +kernel
theorem d_M_layNeeds_120 : decode b_M_layNeeds 120 = .ok (.invokestatic 290, 3) := by decide +kernel
theorem d_M_layNeeds_123 : decode b_M_layNeeds 123 = .ok (.putfield 351, 3) := by decide +kernel
theorem d_M_layNeeds_126 : decode b_M_layNeeds 126 = .ok (.iinc 1 1, 3) := by decide +kernel
theorem d_M_layNeeds_129 : decode b_M_layNeeds 129 = .ok (.goto (-101), 3) := by decide +kernel
theorem d_M_layNeeds_132 : decode b_M_layNeeds 132 = .ok (.iconst 0, 1) := by decide +kernel
theorem d_M_layNeeds_133 : decode b_M_layNeeds 133 = .ok (.istore_n 1, 1) := by decide +kernel
theorem d_M_layNeeds_134 : decode b_M_layNeeds 134 = .ok (.iload_n 1, 1) := by decide +kernel
theorem d_M_layNeeds_135 : decode b_M_layNeeds 135 = .ok (.aload_n 0, 1) := by decide +kernel
theorem d_M_layNeeds_136 : decode b_M_layNeeds 136 = .ok (.getfield 247, 3) := by decide +kernel
theorem d_M_layNeeds_139 : decode b_M_layNeeds 139 = .ok (.if_icmp .ge 36, 3) := by decide +kernel
theorem d_M_layNeeds_142 : decode b_M_layNeeds 142 = .ok (.aload_n 0, 1) := by decide +kernel
theorem d_M_layNeeds_143 : decode b_M_layNeeds 143 = .ok (.getfield 64, 3) := by decide +kernel
theorem d_M_layNeeds_146 : decode b_M_layNeeds 146 = .ok (.iload_n 1, 1) := by decide +kernel
theorem d_M_layNeeds_147 : decode b_M_layNeeds 147 = .ok (.aload_n 0, 1) := by decide +kernel
theorem d_M_layNeeds_148 : decode b_M_layNeeds 148 = .ok (.iconst 0, 1) := by decide +kernel
theorem d_M_layNeeds_149 : decode b_M_layNeeds 149 = .ok (.iload_n 1, 1) := by decide +kernel
theorem d_M_layNeeds_150 : decode b_M_layNeeds 150 = .ok (.invokevirtual 296, 3) := by decide +kernel
theorem d_M_layNeeds_153 : decode b_M_layNeeds 153 = .ok (.iastore, 1) := by decide +kernel
theorem d_M_layNeeds_154 : decode b_M_layNeeds 154 = .ok (.aload_n 0, 1) := by decide +kernel
theorem d_M_layNeeds_155 : decode b_M_layNeeds 155 = .ok (.getfield 64, 3) := by decide +kernel
theorem d_M_layNeeds_158 : decode b_M_layNeeds 158 = .ok (.bipush 24, 2) := by decide +kernel
theorem d_M_layNeeds_160 : decode b_M_layNeeds 160 = .ok (.iload_n 1, 1) := by decide +kernel
theorem d_M_layNeeds_161 : decode b_M_layNeeds 161 = .ok (.iadd, 1) := by decide +kernel
theorem d_M_layNeeds_162 : decode b_M_layNeeds 162 = .ok (.aload_n 0, 1) := by decide +kernel
theorem d_M_layNeeds_163 : decode b_M_layNeeds 163 = .ok (.iconst 1, 1) := by decide +kernel
theorem d_M_layNeeds_164 : decode b_M_layNeeds 164 = .ok (.iload_n 1, 1) := by decide +kernel
theorem d_M_layNeeds_165 : decode b_M_layNeeds 165 = .ok (.invokevirtual 296, 3) := by decide +kernel
theorem d_M_layNeeds_168 : decode b_M_layNeeds 168 = .ok (.iastore, 1) := by decide +kernel
theorem d_M_layNeeds_169 : decode b_M_layNeeds 169 = .ok (.iinc 1 1, 3) := by decide +kernel
theorem d_M_layNeeds_172 : decode b_M_layNeeds 172 = .ok (.goto (-38), 3) := by decide +kernel
theorem d_M_layNeeds_175 : decode b_M_layNeeds 175 = .ok (.return_, 1) := by decide +kernel
theorem d_M_stateMany_0 : decode b_M_stateMany 0 = .ok (.iconst 2, 1) := by decide +kernel
theorem d_M_stateMany_1 : decode b_M_stateMany 1 = .ok (.iconst 2, 1) := by decide +kernel
theorem d_M_stateMany_2 : decode b_M_stateMany 2 = .ok (.aload_n 0, 1) := by decide +kernel
theorem d_M_stateMany_3 : decode b_M_stateMany 3 = .ok (.getfield 250, 3) := by decide +kernel
theorem d_M_stateMany_6 : decode b_M_stateMany 6 = .ok (.imul, 1) := by decide +kernel
theorem d_M_stateMany_7 : decode b_M_stateMany 7 = .ok (.iadd, 1) := by decide +kernel
theorem d_M_stateMany_8 : decode b_M_stateMany 8 = .ok (.ireturn, 1) := by decide +kernel
theorem d_M_waysFrom_0 : decode b_M_waysFrom 0 = .ok (.iconst 0, 1) := by decide +kernel
theorem d_M_waysFrom_1 : decode b_M_waysFrom 1 = .ok (.istore_n 2, 1) := by decide +kernel
theorem d_M_waysFrom_2 : decode b_M_waysFrom 2 = .ok (.iload_n 2, 1) := by decide +kernel
theorem d_M_waysFrom_3 : decode b_M_waysFrom 3 = .ok (.sipush 5000, 3) := by decide +kernel
theorem d_M_waysFrom_6 : decode b_M_waysFrom 6 = .ok (.if_icmp .ge 16, 3) := by decide +kernel
theorem d_M_waysFrom_9 : decode b_M_waysFrom 9 = .ok (.aload_n 0, 1) := by decide +kernel
theorem d_M_waysFrom_10 : decode b_M_waysFrom 10 = .ok (.getfield 53, 3) := by decide +kernel
theorem d_M_waysFrom_13 : decode b_M_waysFrom 13 = .ok (.iload_n 2, 1) := by decide +kernel
theorem d_M_waysFrom_14 : decode b_M_waysFrom 14 = .ok (.lconst 0, 1) := by decide +kernel
theorem d_M_waysFrom_15 : decode b_M_waysFrom 15 = .ok (.lastore, 1) := by decide +kernel
theorem d_M_waysFrom_16 : decode b_M_waysFrom 16 = .ok (.iinc 2 1, 3) := by decide +kernel
theorem d_M_waysFrom_19 : decode b_M_waysFrom 19 = .ok (.goto (-17), 3) := by decide +kernel
theorem d_M_waysFrom_22 : decode b_M_waysFrom 22 = .ok (.aload_n 0, 1) := by decide +kernel
theorem d_M_waysFrom_23 : decode b_M_waysFrom 23 = .ok (.getfield 53, 3) := by decide +kernel
theorem d_M_waysFrom_26 : decode b_M_waysFrom 26 = .ok (.aload_n 0, 1) := by decide +kernel
theorem d_M_waysFrom_27 : decode b_M_waysFrom 27 = .ok (.iload_n 1, 1) := by decide +kernel
theorem d_M_waysFrom_28 : decode b_M_waysFrom 28 = .ok (.aload_n 0, 1) := by decide +kernel
theorem d_M_waysFrom_29 : decode b_M_waysFrom 29 = .ok (.iload_n 1, 1) := by decide +kernel
theorem d_M_waysFrom_30 : decode b_M_waysFrom 30 = .ok (.iconst 0, 1) := by decide +kernel
theorem d_M_waysFrom_31 : decode b_M_waysFrom 31 = .ok (.invokevirtual 354, 3) := by decide +kernel
theorem d_M_waysFrom_34 : decode b_M_waysFrom 34 = .ok (.aload_n 0, 1) := by decide +kernel
theorem d_M_waysFrom_35 : decode b_M_waysFrom 35 = .ok (.iload_n 1, 1) := by decide +kernel
theorem d_M_waysFrom_36 : decode b_M_waysFrom 36 = .ok (.iconst 1, 1) := by decide +kernel
theorem d_M_waysFrom_37 : decode b_M_waysFrom 37 = .ok (.invokevirtual 354, 3) := by decide +kernel
theorem d_M_waysFrom_40 : decode b_M_waysFrom 40 = .ok (.invokevirtual 357, 3) := by decide +kernel
theorem d_M_waysFrom_43 : decode b_M_waysFrom 43 = .ok (.lconst 1, 1) := by decide +kernel
theorem d_M_waysFrom_44 : decode b_M_waysFrom 44 = .ok (.lastore, 1) := by decide +kernel
theorem d_M_waysFrom_45 : decode b_M_waysFrom 45 = .ok (.iconst 1, 1) := by decide +kernel
theorem d_M_waysFrom_46 : decode b_M_waysFrom 46 = .ok (.istore_n 2, 1) := by decide +kernel
theorem d_M_waysFrom_47 : decode b_M_waysFrom 47 = .ok (.iload_n 2, 1) := by decide +kernel
theorem d_M_waysFrom_48 : decode b_M_waysFrom 48 = .ok (.aload_n 0, 1) := by decide +kernel
theorem d_M_waysFrom_49 : decode b_M_waysFrom 49 = .ok (.getfield 247, 3) := by decide +kernel
theorem d_M_waysFrom_52 : decode b_M_waysFrom 52 = .ok (.if_icmp .ge 80, 3) := by decide +kernel
theorem d_M_waysFrom_55 : decode b_M_waysFrom 55 = .ok (.iconst 0, 1) := by decide +kernel
theorem d_M_waysFrom_56 : decode b_M_waysFrom 56 = .ok (.istore_n 3, 1) := by decide +kernel
theorem d_M_waysFrom_57 : decode b_M_waysFrom 57 = .ok (.iload_n 3, 1) := by decide +kernel
theorem d_M_waysFrom_58 : decode b_M_waysFrom 58 = .ok (.sipush 5000, 3) := by decide +kernel
theorem d_M_waysFrom_61 : decode b_M_waysFrom 61 = .ok (.if_icmp .ge 16, 3) := by decide +kernel
theorem d_M_waysFrom_64 : decode b_M_waysFrom 64 = .ok (.aload_n 0, 1) := by decide +kernel
theorem d_M_waysFrom_65 : decode b_M_waysFrom 65 = .ok (.getfield 57, 3) := by decide +kernel
theorem d_M_waysFrom_68 : decode b_M_waysFrom 68 = .ok (.iload_n 3, 1) := by decide +kernel
theorem d_M_waysFrom_69 : decode b_M_waysFrom 69 = .ok (.lconst 0, 1) := by decide +kernel
theorem d_M_waysFrom_70 : decode b_M_waysFrom 70 = .ok (.lastore, 1) := by decide +kernel
theorem d_M_waysFrom_71 : decode b_M_waysFrom 71 = .ok (.iinc 3 1, 3) := by decide +kernel
theorem d_M_waysFrom_74 : decode b_M_waysFrom 74 = .ok (.goto (-17), 3) := by decide +kernel
theorem d_M_waysFrom_77 : decode b_M_waysFrom 77 = .ok (.iconst 0, 1) := by decide +kernel
theorem d_M_waysFrom_78 : decode b_M_waysFrom 78 = .ok (.istore_n 3, 1) := by decide +kernel
theorem d_M_waysFrom_79 : decode b_M_waysFrom 79 = .ok (.iload_n 3, 1) := by decide +kernel
theorem d_M_waysFrom_80 : decode b_M_waysFrom 80 = .ok (.aload_n 0, 1) := by decide +kernel
theorem d_M_waysFrom_81 : decode b_M_waysFrom 81 = .ok (.invokevirtual 360, 3) := by decide +kernel
theorem d_M_waysFrom_84 : decode b_M_waysFrom 84 = .ok (.if_icmp .ge 15, 3) := by decide +kernel
theorem d_M_waysFrom_87 : decode b_M_waysFrom 87 = .ok (.aload_n 0, 1) := by decide +kernel
theorem d_M_waysFrom_88 : decode b_M_waysFrom 88 = .ok (.iload_n 3, 1) := by decide +kernel
theorem d_M_waysFrom_89 : decode b_M_waysFrom 89 = .ok (.iload_n 2, 1) := by decide +kernel
theorem d_M_waysFrom_90 : decode b_M_waysFrom 90 = .ok (.invokevirtual 363, 3) := by decide +kernel
theorem d_M_waysFrom_93 : decode b_M_waysFrom 93 = .ok (.iinc 3 1, 3) := by decide +kernel
theorem d_M_waysFrom_96 : decode b_M_waysFrom 96 = .ok (.goto (-17), 3) := by decide +kernel
theorem d_M_waysFrom_99 : decode b_M_waysFrom 99 = .ok (.iconst 0, 1) := by decide +kernel
theorem d_M_waysFrom_100 : decode b_M_waysFrom 100 = .ok (.istore_n 3, 1) := by decide +kernel
theorem d_M_waysFrom_101 : decode b_M_waysFrom 101 = .ok (.iload_n 3, 1) := by decide +kernel
theorem d_M_waysFrom_102 : decode b_M_waysFrom 102 = .ok (.sipush 5000, 3) := by decide +kernel
theorem d_M_waysFrom_105 : decode b_M_waysFrom 105 = .ok (.if_icmp .ge 21, 3) := by decide +kernel
theorem d_M_waysFrom_108 : decode b_M_waysFrom 108 = .ok (.aload_n 0, 1) := by decide +kernel
theorem d_M_waysFrom_109 : decode b_M_waysFrom 109 = .ok (.getfield 53, 3) := by decide +kernel
theorem d_M_waysFrom_112 : decode b_M_waysFrom 112 = .ok (.iload_n 3, 1) := by decide +kernel
theorem d_M_waysFrom_113 : decode b_M_waysFrom 113 = .ok (.aload_n 0, 1) := by decide +kernel
theorem d_M_waysFrom_114 : decode b_M_waysFrom 114 = .ok (.getfield 57, 3) := by decide +kernel
theorem d_M_waysFrom_117 : decode b_M_waysFrom 117 = .ok (.iload_n 3, 1) := by decide +kernel
theorem d_M_waysFrom_118 : decode b_M_waysFrom 118 = .ok (.laload, 1) := by decide +kernel
theorem d_M_waysFrom_119 : decode b_M_waysFrom 119 = .ok (.lastore, 1) := by decide +kernel
theorem d_M_waysFrom_120 : decode b_M_waysFrom 120 = .ok (.iinc 3 1, 3) := by decide +kernel
theorem d_M_waysFrom_123 : decode b_M_waysFrom 123 = .ok (.goto (-22), 3) := by decide +kernel
theorem d_M_waysFrom_126 : decode b_M_waysFrom 126 = .ok (.iinc 2 1, 3) := by decide +kernel
theorem d_M_waysFrom_129 : decode b_M_waysFrom 129 = .ok (.goto (-82), 3) := by decide +kernel
theorem d_M_waysFrom_132 : decode b_M_waysFrom 132 = .ok (.lconst 0, 1) := by decide +kernel
theorem d_M_waysFrom_133 : decode b_M_waysFrom 133 = .ok (.lstore_n 2, 1) := by decide +kernel
theorem d_M_waysFrom_134 : decode b_M_waysFrom 134 = .ok (.iconst 0, 1) := by decide +kernel
theorem d_M_waysFrom_135 : decode b_M_waysFrom 135 = .ok (.istore 4, 2) := by decide +kernel
theorem d_M_waysFrom_137 : decode b_M_waysFrom 137 = .ok (.iload 4, 2) := by decide +kernel
theorem d_M_waysFrom_139 : decode b_M_waysFrom 139 = .ok (.aload_n 0, 1) := by decide +kernel
theorem d_M_waysFrom_140 : decode b_M_waysFrom 140 = .ok (.invokevirtual 360, 3) := by decide +kernel
theorem d_M_waysFrom_143 : decode b_M_waysFrom 143 = .ok (.if_icmp .ge 74, 3) := by decide +kernel
theorem d_M_waysFrom_146 : decode b_M_waysFrom 146 = .ok (.iconst 0, 1) := by decide +kernel
theorem d_M_waysFrom_147 : decode b_M_waysFrom 147 = .ok (.istore 5, 2) := by decide +kernel
theorem d_M_waysFrom_149 : decode b_M_waysFrom 149 = .ok (.iload 5, 2) := by decide +kernel
theorem d_M_waysFrom_151 : decode b_M_waysFrom 151 = .ok (.sipush 625, 3) := by decide +kernel
theorem d_M_waysFrom_154 : decode b_M_waysFrom 154 = .ok (.if_icmp .ge 57, 3) := by decide +kernel
theorem d_M_waysFrom_157 : decode b_M_waysFrom 157 = .ok (.aload_n 0, 1) := by decide +kernel
theorem d_M_waysFrom_158 : decode b_M_waysFrom 158 = .ok (.iload 4, 2) := by decide +kernel
theorem d_M_waysFrom_160 : decode b_M_waysFrom 160 = .ok (.iload_n 1, 1) := by decide +kernel
theorem d_M_waysFrom_161 : decode b_M_waysFrom 161 = .ok (.invokevirtual 366, 3) := by decide +kernel
theorem d_M_waysFrom_164 : decode b_M_waysFrom 164 = .ok (.ifCond .eq 47, 3) := by decide +kernel
theorem d_M_waysFrom_167 : decode b_M_waysFrom 167 = .ok (.lload_n 2, 1) := by decide +kernel
theorem d_M_waysFrom_168 : decode b_M_waysFrom 168 = .ok (.aload_n 0, 1) := by decide +kernel
theorem d_M_waysFrom_169 : decode b_M_waysFrom 169 = .ok (.iload 5, 2) := by decide +kernel
theorem d_M_waysFrom_171 : decode b_M_waysFrom 171 = .ok (.bipush 25, 2) := by decide +kernel
theorem d_M_waysFrom_173 : decode b_M_waysFrom 173 = .ok (.idiv, 1) := by decide +kernel
theorem d_M_waysFrom_174 : decode b_M_waysFrom 174 = .ok (.iload 5, 2) := by decide +kernel
theorem d_M_waysFrom_176 : decode b_M_waysFrom 176 = .ok (.bipush 25, 2) := by decide +kernel
theorem d_M_waysFrom_178 : decode b_M_waysFrom 178 = .ok (.irem, 1) := by decide +kernel
theorem d_M_waysFrom_179 : decode b_M_waysFrom 179 = .ok (.invokevirtual 369, 3) := by decide +kernel
theorem d_M_waysFrom_182 : decode b_M_waysFrom 182 = .ok (.ifCond .eq 20, 3) := by decide +kernel
theorem d_M_waysFrom_185 : decode b_M_waysFrom 185 = .ok (.aload_n 0, 1) := by decide +kernel
theorem d_M_waysFrom_186 : decode b_M_waysFrom 186 = .ok (.getfield 53, 3) := by decide +kernel
theorem d_M_waysFrom_189 : decode b_M_waysFrom 189 = .ok (.sipush 625, 3) := by decide +kernel
theorem d_M_waysFrom_192 : decode b_M_waysFrom 192 = .ok (.iload 4, 2) := by decide +kernel
theorem d_M_waysFrom_194 : decode b_M_waysFrom 194 = .ok (.imul, 1) := by decide +kernel
theorem d_M_waysFrom_195 : decode b_M_waysFrom 195 = .ok (.iload 5, 2) := by decide +kernel
theorem d_M_waysFrom_197 : decode b_M_waysFrom 197 = .ok (.iadd, 1) := by decide +kernel
theorem d_M_waysFrom_198 : decode b_M_waysFrom 198 = .ok (.laload, 1) := by decide +kernel
theorem d_M_waysFrom_199 : decode b_M_waysFrom 199 = .ok (.goto 4, 3) := by decide +kernel
theorem d_M_waysFrom_202 : decode b_M_waysFrom 202 = .ok (.lconst 0, 1) := by decide +kernel
theorem d_M_waysFrom_203 : decode b_M_waysFrom 203 = .ok (.ladd, 1) := by decide +kernel
theorem d_M_waysFrom_204 : decode b_M_waysFrom 204 = .ok (.lstore_n 2, 1) := by decide +kernel
theorem d_M_waysFrom_205 : decode b_M_waysFrom 205 = .ok (.iinc 5 1, 3) := by decide +kernel
theorem d_M_waysFrom_208 : decode b_M_waysFrom 208 = .ok (.goto (-59), 3) := by decide +kernel
theorem d_M_waysFrom_211 : decode b_M_waysFrom 211 = .ok (.iinc 4 1, 3) := by decide +kernel
theorem d_M_waysFrom_214 : decode b_M_waysFrom 214 = .ok (.goto (-77), 3) := by decide +kernel
theorem d_M_waysFrom_217 : decode b_M_waysFrom 217 = .ok (.lload_n 2, 1) := by decide +kernel
theorem d_M_waysFrom_218 : decode b_M_waysFrom 218 = .ok (.lreturn, 1) := by decide +kernel
theorem d_M_more_0 : decode b_M_more 0 = .ok (.iload_n 1, 1) := by decide +kernel
theorem d_M_more_1 : decode b_M_more 1 = .ok (.iload_n 2, 1) := by decide +kernel
theorem d_M_more_2 : decode b_M_more 2 = .ok (.if_icmp .ne 7, 3) := by decide +kernel
theorem d_M_more_5 : decode b_M_more 5 = .ok (.iconst 1, 1) := by decide +kernel
theorem d_M_more_6 : decode b_M_more 6 = .ok (.goto 4, 3) := by decide +kernel
theorem d_M_more_9 : decode b_M_more 9 = .ok (.iconst 0, 1) := by decide +kernel
theorem d_M_more_10 : decode b_M_more 10 = .ok (.ireturn, 1) := by decide +kernel
theorem d_M_grid_0 : decode b_M_grid 0 = .ok (.sipush 625, 3) := by decide +kernel
theorem d_M_grid_3 : decode b_M_grid 3 = .ok (.iload_n 1, 1) := by decide +kernel
theorem d_M_grid_4 : decode b_M_grid 4 = .ok (.imul, 1) := by decide +kernel
theorem d_M_grid_5 : decode b_M_grid 5 = .ok (.bipush 25, 2) := by decide +kernel
theorem d_M_grid_7 : decode b_M_grid 7 = .ok (.iload_n 2, 1) := by decide +kernel
theorem d_M_grid_8 : decode b_M_grid 8 = .ok (.imul, 1) := by decide +kernel
theorem d_M_grid_9 : decode b_M_grid 9 = .ok (.iadd, 1) := by decide +kernel
theorem d_M_grid_10 : decode b_M_grid 10 = .ok (.iload_n 3, 1) := by decide +kernel
theorem d_M_grid_11 : decode b_M_grid 11 = .ok (.iadd, 1) := by decide +kernel
theorem d_M_grid_12 : decode b_M_grid 12 = .ok (.ireturn, 1) := by decide +kernel
theorem d_M_spread_0 : decode b_M_spread 0 = .ok (.iconst 0, 1) := by decide +kernel
theorem d_M_spread_1 : decode b_M_spread 1 = .ok (.istore_n 3, 1) := by decide +kernel
theorem d_M_spread_2 : decode b_M_spread 2 = .ok (.iload_n 3, 1) := by decide +kernel
theorem d_M_spread_3 : decode b_M_spread 3 = .ok (.iconst 2, 1) := by decide +kernel
theorem d_M_spread_4 : decode b_M_spread 4 = .ok (.if_icmp .ge 128, 3) := by decide +kernel
theorem d_M_spread_7 : decode b_M_spread 7 = .ok (.aload_n 0, 1) := by decide +kernel
theorem d_M_spread_8 : decode b_M_spread 8 = .ok (.iload_n 1, 1) := by decide +kernel
theorem d_M_spread_9 : decode b_M_spread 9 = .ok (.iload_n 3, 1) := by decide +kernel
theorem d_M_spread_10 : decode b_M_spread 10 = .ok (.invokevirtual 339, 3) := by decide +kernel
theorem d_M_spread_13 : decode b_M_spread 13 = .ok (.istore 4, 2) := by decide +kernel
theorem d_M_spread_15 : decode b_M_spread 15 = .ok (.iconst 0, 1) := by decide +kernel
theorem d_M_spread_16 : decode b_M_spread 16 = .ok (.istore 5, 2) := by decide +kernel
theorem d_M_spread_18 : decode b_M_spread 18 = .ok (.iload 5, 2) := by decide +kernel
theorem d_M_spread_20 : decode b_M_spread 20 = .ok (.sipush 625, 3) := by decide +kernel
theorem d_M_spread_23 : decode b_M_spread 23 = .ok (.if_icmp .ge 103, 3) := by decide +kernel
theorem d_M_spread_26 : decode b_M_spread 26 = .ok (.iload 4, 2) := by decide +kernel
theorem d_M_spread_28 : decode b_M_spread 28 = .ok (.iconst (-1), 1) := by decide +kernel
theorem d_M_spread_29 : decode b_M_spread 29 = .ok (.if_icmp .eq 97, 3) := by decide +kernel
theorem d_M_spread_32 : decode b_M_spread 32 = .ok (.iload 5, 2) := by decide +kernel
theorem d_M_spread_34 : decode b_M_spread 34 = .ok (.bipush 25, 2) := by decide +kernel
theorem d_M_spread_36 : decode b_M_spread 36 = .ok (.idiv, 1) := by decide +kernel
theorem d_M_spread_37 : decode b_M_spread 37 = .ok (.istore 6, 2) := by decide +kernel
theorem d_M_spread_39 : decode b_M_spread 39 = .ok (.iload 5, 2) := by decide +kernel
theorem d_M_spread_41 : decode b_M_spread 41 = .ok (.bipush 25, 2) := by decide +kernel
theorem d_M_spread_43 : decode b_M_spread 43 = .ok (.irem, 1) := by decide +kernel
theorem d_M_spread_44 : decode b_M_spread 44 = .ok (.istore 7, 2) := by decide +kernel
theorem d_M_spread_46 : decode b_M_spread 46 = .ok (.iload 6, 2) := by decide +kernel
theorem d_M_spread_48 : decode b_M_spread 48 = .ok (.iload 7, 2) := by decide +kernel
theorem d_M_spread_50 : decode b_M_spread 50 = .ok (.iadd, 1) := by decide +kernel
theorem d_M_spread_51 : decode b_M_spread 51 = .ok (.iload_n 2, 1) := by decide +kernel
theorem d_M_spread_52 : decode b_M_spread 52 = .ok (.if_icmp .gt 68, 3) := by decide +kernel
theorem d_M_spread_55 : decode b_M_spread 55 = .ok (.aload_n 0, 1) := by decide +kernel
theorem d_M_spread_56 : decode b_M_spread 56 = .ok (.getfield 53, 3) := by decide +kernel
theorem d_M_spread_59 : decode b_M_spread 59 = .ok (.sipush 625, 3) := by decide +kernel
theorem d_M_spread_62 : decode b_M_spread 62 = .ok (.iload_n 1, 1) := by decide +kernel
theorem d_M_spread_63 : decode b_M_spread 63 = .ok (.imul, 1) := by decide +kernel
theorem d_M_spread_64 : decode b_M_spread 64 = .ok (.iload 5, 2) := by decide +kernel
theorem d_M_spread_66 : decode b_M_spread 66 = .ok (.iadd, 1) := by decide +kernel
theorem d_M_spread_67 : decode b_M_spread 67 = .ok (.laload, 1) := by decide +kernel
theorem d_M_spread_68 : decode b_M_spread 68 = .ok (.lconst 0, 1) := by decide +kernel
theorem d_M_spread_69 : decode b_M_spread 69 = .ok (.lcmp, 1) := by decide +kernel
theorem d_M_spread_70 : decode b_M_spread 70 = .ok (.ifCond .le 50, 3) := by decide +kernel
theorem d_M_spread_73 : decode b_M_spread 73 = .ok (.aload_n 0, 1) := by decide +kernel
theorem d_M_spread_74 : decode b_M_spread 74 = .ok (.getfield 57, 3) := by decide +kernel
theorem d_M_spread_77 : decode b_M_spread 77 = .ok (.aload_n 0, 1) := by decide +kernel
theorem d_M_spread_78 : decode b_M_spread 78 = .ok (.iload 4, 2) := by decide +kernel
theorem d_M_spread_80 : decode b_M_spread 80 = .ok (.iload 6, 2) := by decide +kernel
theorem d_M_spread_82 : decode b_M_spread 82 = .ok (.aload_n 0, 1) := by decide +kernel
theorem d_M_spread_83 : decode b_M_spread 83 = .ok (.iload 4, 2) := by decide +kernel
theorem d_M_spread_85 : decode b_M_spread 85 = .ok (.iconst 0, 1) := by decide +kernel
theorem d_M_spread_86 : decode b_M_spread 86 = .ok (.invokevirtual 354, 3) := by decide +kernel
theorem d_M_spread_89 : decode b_M_spread 89 = .ok (.iadd, 1) := by decide +kernel
theorem d_M_spread_90 : decode b_M_spread 90 = .ok (.iload 7, 2) := by decide +kernel
theorem d_M_spread_92 : decode b_M_spread 92 = .ok (.aload_n 0, 1) := by decide +kernel
theorem d_M_spread_93 : decode b_M_spread 93 = .ok (.iload 4, 2) := by decide +kernel
theorem d_M_spread_95 : decode b_M_spread 95 = .ok (.iconst 1, 1) := by decide +kernel
theorem d_M_spread_96 : decode b_M_spread 96 = .ok (.invokevirtual 354, 3) := by decide +kernel
theorem d_M_spread_99 : decode b_M_spread 99 = .ok (.iadd, 1) := by decide +kernel
theorem d_M_spread_100 : decode b_M_spread 100 = .ok (.invokevirtual 357, 3) := by decide +kernel
theorem d_M_spread_103 : decode b_M_spread 103 = .ok (.dup2, 1) := by decide +kernel
theorem d_M_spread_104 : decode b_M_spread 104 = .ok (.laload, 1) := by decide +kernel
theorem d_M_spread_105 : decode b_M_spread 105 = .ok (.aload_n 0, 1) := by decide +kernel
theorem d_M_spread_106 : decode b_M_spread 106 = .ok (.getfield 53, 3) := by decide +kernel
theorem d_M_spread_109 : decode b_M_spread 109 = .ok (.sipush 625, 3) := by decide +kernel
theorem d_M_spread_112 : decode b_M_spread 112 = .ok (.iload_n 1, 1) := by decide +kernel
theorem d_M_spread_113 : decode b_M_spread 113 = .ok (.imul, 1) := by decide +kernel
theorem d_M_spread_114 : decode b_M_spread 114 = .ok (.iload 5, 2) := by decide +kernel
theorem d_M_spread_116 : decode b_M_spread 116 = .ok (.iadd, 1) := by decide +kernel
theorem d_M_spread_117 : decode b_M_spread 117 = .ok (.laload, 1) := by decide +kernel
theorem d_M_spread_118 : decode b_M_spread 118 = .ok (.ladd, 1) := by decide +kernel
theorem d_M_spread_119 : decode b_M_spread 119 = .ok (.lastore, 1) := by decide +kernel
theorem d_M_spread_120 : decode b_M_spread 120 = .ok (.iinc 5 1, 3) := by decide +kernel
theorem d_M_spread_123 : decode b_M_spread 123 = .ok (.goto (-105), 3) := by decide +kernel
theorem d_M_spread_126 : decode b_M_spread 126 = .ok (.iinc 3 1, 3) := by decide +kernel
theorem d_M_spread_129 : decode b_M_spread 129 = .ok (.goto (-127), 3) := by decide +kernel
theorem d_M_spread_132 : decode b_M_spread 132 = .ok (.return_, 1) := by decide +kernel
theorem d_M_nextOf_0 : decode b_M_nextOf 0 = .ok (.iload_n 1, 1) := by decide +kernel
theorem d_M_nextOf_1 : decode b_M_nextOf 1 = .ok (.iconst 2, 1) := by decide +kernel
theorem d_M_nextOf_2 : decode b_M_nextOf 2 = .ok (.if_icmp .lt 50, 3) := by decide +kernel
theorem d_M_nextOf_5 : decode b_M_nextOf 5 = .ok (.iload_n 1, 1) := by decide +kernel
theorem d_M_nextOf_6 : decode b_M_nextOf 6 = .ok (.iconst 2, 1) := by decide +kernel
theorem d_M_nextOf_7 : decode b_M_nextOf 7 = .ok (.isub, 1) := by decide +kernel
theorem d_M_nextOf_8 : decode b_M_nextOf 8 = .ok (.istore_n 3, 1) := by decide +kernel
theorem d_M_nextOf_9 : decode b_M_nextOf 9 = .ok (.iload_n 3, 1) := by decide +kernel
theorem d_M_nextOf_10 : decode b_M_nextOf 10 = .ok (.aload_n 0, 1) := by decide +kernel
theorem d_M_nextOf_11 : decode b_M_nextOf 11 = .ok (.getfield 250, 3) := by decide +kernel
theorem d_M_nextOf_14 : decode b_M_nextOf 14 = .ok (.idiv, 1) := by decide +kernel
theorem d_M_nextOf_15 : decode b_M_nextOf 15 = .ok (.istore 4, 2) := by decide +kernel
theorem d_M_nextOf_17 : decode b_M_nextOf 17 = .ok (.iload_n 2, 1) := by decide +kernel
theorem d_M_nextOf_18 : decode b_M_nextOf 18 = .ok (.iconst 1, 1) := by decide +kernel
theorem d_M_nextOf_19 : decode b_M_nextOf 19 = .ok (.if_icmp .ne 7, 3) := by decide +kernel
theorem d_M_nextOf_22 : decode b_M_nextOf 22 = .ok (.iconst (-1), 1) := by decide +kernel
theorem d_M_nextOf_23 : decode b_M_nextOf 23 = .ok (.goto 28, 3) := by decide +kernel
theorem d_M_nextOf_26 : decode b_M_nextOf 26 = .ok (.iload_n 3, 1) := by decide +kernel
theorem d_M_nextOf_27 : decode b_M_nextOf 27 = .ok (.aload_n 0, 1) := by decide +kernel
theorem d_M_nextOf_28 : decode b_M_nextOf 28 = .ok (.getfield 250, 3) := by decide +kernel
theorem d_M_nextOf_31 : decode b_M_nextOf 31 = .ok (.irem, 1) := by decide +kernel
theorem d_M_nextOf_32 : decode b_M_nextOf 32 = .ok (.aload_n 0, 1) := by decide +kernel
theorem d_M_nextOf_33 : decode b_M_nextOf 33 = .ok (.getfield 250, 3) := by decide +kernel
theorem d_M_nextOf_36 : decode b_M_nextOf 36 = .ok (.iconst 1, 1) := by decide +kernel
theorem d_M_nextOf_37 : decode b_M_nextOf 37 = .ok (.isub, 1) := by decide +kernel
theorem d_M_nextOf_38 : decode b_M_nextOf 38 = .ok (.if_icmp .ge 9, 3) := by decide +kernel
theorem d_M_nextOf_41 : decode b_M_nextOf 41 = .ok (.iload_n 1, 1) := by decide +kernel
theorem d_M_nextOf_42 : decode b_M_nextOf 42 = .ok (.iconst 1, 1) := by decide +kernel
theorem d_M_nextOf_43 : decode b_M_nextOf 43 = .ok (.iadd, 1) := by decide +kernel
theorem d_M_nextOf_44 : decode b_M_nextOf 44 = .ok (.goto 7, 3) := by decide +kernel
theorem d_M_nextOf_47 : decode b_M_nextOf 47 = .ok (.iconst 1, 1) := by decide +kernel
theorem d_M_nextOf_48 : decode b_M_nextOf 48 = .ok (.iload 4, 2) := by decide +kernel
theorem d_M_nextOf_50 : decode b_M_nextOf 50 = .ok (.isub, 1) := by decide +kernel
theorem d_M_nextOf_51 : decode b_M_nextOf 51 = .ok (.ireturn, 1) := by decide +kernel
theorem d_M_nextOf_52 : decode b_M_nextOf 52 = .ok (.iload_n 2, 1) := by decide +kernel
theorem d_M_nextOf_53 : decode b_M_nextOf 53 = .ok (.ifCond .ne 7, 3) := by decide +kernel
theorem d_M_nextOf_56 : decode b_M_nextOf 56 = .ok (.iload_n 1, 1) := by decide +kernel
theorem d_M_nextOf_57 : decode b_M_nextOf 57 = .ok (.goto 24, 3) := by decide +kernel
theorem d_M_nextOf_60 : decode b_M_nextOf 60 = .ok (.aload_n 0, 1) := by decide +kernel
theorem d_M_nextOf_61 : decode b_M_nextOf 61 = .ok (.getfield 250, 3) := by decide +kernel
theorem d_M_nextOf_64 : decode b_M_nextOf 64 = .ok (.ifCond .ne 9, 3) := by decide +kernel
theorem d_M_nextOf_67 : decode b_M_nextOf 67 = .ok (.iconst 1, 1) := by decide +kernel
theorem d_M_nextOf_68 : decode b_M_nextOf 68 = .ok (.iload_n 1, 1) := by decide +kernel
theorem d_M_nextOf_69 : decode b_M_nextOf 69 = .ok (.isub, 1) := by decide +kernel
theorem d_M_nextOf_70 : decode b_M_nextOf 70 = .ok (.goto 11, 3) := by decide +kernel
theorem d_M_nextOf_73 : decode b_M_nextOf 73 = .ok (.iconst 2, 1) := by decide +kernel
theorem d_M_nextOf_74 : decode b_M_nextOf 74 = .ok (.aload_n 0, 1) := by decide +kernel
theorem d_M_nextOf_75 : decode b_M_nextOf 75 = .ok (.getfield 250, 3) := by decide +kernel
theorem d_M_nextOf_78 : decode b_M_nextOf 78 = .ok (.iload_n 1, 1) := by decide +kernel
theorem d_M_nextOf_79 : decode b_M_nextOf 79 = .ok (.imul, 1) := by decide +kernel
theorem d_M_nextOf_80 : decode b_M_nextOf 80 = .ok (.iadd, 1) := by decide +kernel
theorem d_M_nextOf_81 : decode b_M_nextOf 81 = .ok (.ireturn, 1) := by decide +kernel
theorem d_M_goesTo_0 : decode b_M_goesTo 0 = .ok (.aload_n 0, 1) := by decide +kernel
theorem d_M_goesTo_1 : decode b_M_goesTo 1 = .ok (.iload_n 1, 1) := by decide +kernel
theorem d_M_goesTo_2 : decode b_M_goesTo 2 = .ok (.iconst 0, 1) := by decide +kernel
theorem d_M_goesTo_3 : decode b_M_goesTo 3 = .ok (.invokevirtual 339, 3) := by decide +kernel
theorem d_M_goesTo_6 : decode b_M_goesTo 6 = .ok (.iload_n 2, 1) := by decide +kernel
theorem d_M_goesTo_7 : decode b_M_goesTo 7 = .ok (.if_icmp .eq 13, 3) := by decide +kernel
theorem d_M_goesTo_10 : decode b_M_goesTo 10 = .ok (.aload_n 0, 1) := by decide +kernel
theorem d_M_goesTo_11 : decode b_M_goesTo 11 = .ok (.iload_n 1, 1) := by decide +kernel
theorem d_M_goesTo_12 : decode b_M_goesTo 12 = .ok (.iconst 1, 1) := by decide +kernel
theorem d_M_goesTo_13 : decode b_M_goesTo 13 = .ok (.invokevirtual 339, 3) := by decide +kernel
theorem d_M_goesTo_16 : decode b_M_goesTo 16 = .ok (.iload_n 2, 1) := by decide +kernel
theorem d_M_goesTo_17 : decode b_M_goesTo 17 = .ok (.if_icmp .ne 7, 3) := by decide +kernel
theorem d_M_goesTo_20 : decode b_M_goesTo 20 = .ok (.iconst 1, 1) := by decide +kernel
theorem d_M_goesTo_21 : decode b_M_goesTo 21 = .ok (.goto 4, 3) := by decide +kernel
theorem d_M_goesTo_24 : decode b_M_goesTo 24 = .ok (.iconst 0, 1) := by decide +kernel
theorem d_M_goesTo_25 : decode b_M_goesTo 25 = .ok (.ireturn, 1) := by decide +kernel
theorem d_M_fitsDark_0 : decode b_M_fitsDark 0 = .ok (.iload_n 1, 1) := by decide +kernel
theorem d_M_fitsDark_1 : decode b_M_fitsDark 1 = .ok (.aload_n 0, 1) := by decide +kernel
theorem d_M_fitsDark_2 : decode b_M_fitsDark 2 = .ok (.getfield 342, 3) := by decide +kernel
theorem d_M_fitsDark_5 : decode b_M_fitsDark 5 = .ok (.if_icmp .lt 31, 3) := by decide +kernel
theorem d_M_fitsDark_8 : decode b_M_fitsDark 8 = .ok (.iload_n 1, 1) := by decide +kernel
theorem d_M_fitsDark_9 : decode b_M_fitsDark 9 = .ok (.aload_n 0, 1) := by decide +kernel
theorem d_M_fitsDark_10 : decode b_M_fitsDark 10 = .ok (.getfield 348, 3) := by decide +kernel
theorem d_M_fitsDark_13 : decode b_M_fitsDark 13 = .ok (.if_icmp .gt 23, 3) := by decide +kernel
theorem d_M_fitsDark_16 : decode b_M_fitsDark 16 = .ok (.iload_n 2, 1) := by decide +kernel
theorem d_M_fitsDark_17 : decode b_M_fitsDark 17 = .ok (.aload_n 0, 1) := by decide +kernel
theorem d_M_fitsDark_18 : decode b_M_fitsDark 18 = .ok (.getfield 345, 3) := by decide +kernel
theorem d_M_fitsDark_21 : decode b_M_fitsDark 21 = .ok (.if_icmp .lt 15, 3) := by decide +kernel
theorem d_M_fitsDark_24 : decode b_M_fitsDark 24 = .ok (.iload_n 2, 1) := by decide +kernel
theorem d_M_fitsDark_25 : decode b_M_fitsDark 25 = .ok (.aload_n 0, 1) := by decide +kernel
theorem d_M_fitsDark_26 : decode b_M_fitsDark 26 = .ok (.getfield 351, 3) := by decide +kernel
theorem d_M_fitsDark_29 : decode b_M_fitsDark 29 = .ok (.if_icmp .gt 7, 3) := by decide +kernel
theorem d_M_fitsDark_32 : decode b_M_fitsDark 32 = .ok (.iconst 1, 1) := by decide +kernel
theorem d_M_fitsDark_33 : decode b_M_fitsDark 33 = .ok (.goto 4, 3) := by decide +kernel
theorem d_M_fitsDark_36 : decode b_M_fitsDark 36 = .ok (.iconst 0, 1) := by decide +kernel
theorem d_M_fitsDark_37 : decode b_M_fitsDark 37 = .ok (.ireturn, 1) := by decide +kernel
theorem d_M_best_0 : decode b_M_best 0 = .ok (.aload_n 0, 1) := by decide +kernel
theorem d_M_best_1 : decode b_M_best 1 = .ok (.iconst 0, 1) := by decide +kernel
theorem d_M_best_2 : decode b_M_best 2 = .ok (.putfield 80, 3) := by decide +kernel
theorem d_M_best_5 : decode b_M_best 5 = .ok (.aload_n 0, 1) := by decide +kernel
theorem d_M_best_6 : decode b_M_best 6 = .ok (.iload_n 1, 1) := by decide +kernel
theorem d_M_best_7 : decode b_M_best 7 = .ok (.invokevirtual 259, 3) := by decide +kernel
theorem d_M_best_10 : decode b_M_best 10 = .ok (.ifCond .eq 28, 3) := by decide +kernel
theorem d_M_best_13 : decode b_M_best 13 = .ok (.iload_n 2, 1) := by decide +kernel
theorem d_M_best_14 : decode b_M_best 14 = .ok (.iconst 0, 1) := by decide +kernel
theorem d_M_best_15 : decode b_M_best 15 = .ok (.iconst 3, 1) := by decide +kernel
theorem d_M_best_16 : decode b_M_best 16 = .ok (.invokestatic 88, 3) := by decide +kernel
theorem d_M_best_19 : decode b_M_best 19 = .ok (.ifCond .ne 21, 3) := by decide +kernel
theorem d_M_best_22 : decode b_M_best 22 = .ok (.iload_n 2, 1) := by decide +kernel
theorem d_M_best_23 : decode b_M_best 23 = .ok (.bipush 10, 2) := by decide +kernel
theorem d_M_best_25 : decode b_M_best 25 = .ok (.bipush 9, 2) := by decide +kernel
theorem d_M_best_27 : decode b_M_best 27 = .ok (.aload_n 0, 1) := by decide +kernel
theorem d_M_best_28 : decode b_M_best 28 = .ok (.getfield 247, 3) := by decide +kernel
theorem d_M_best_31 : decode b_M_best 31 = .ok (.iadd, 1) := by decide +kernel
theorem d_M_best_32 : decode b_M_best 32 = .ok (.invokestatic 88, 3) := by decide +kernel
theorem d_M_best_35 : decode b_M_best 35 = .ok (.ifCond .ne 5, 3) := by decide +kernel
theorem d_M_best_38 : decode b_M_best 38 = .ok (.iconst (-1), 1) := by decide +kernel
theorem d_M_best_39 : decode b_M_best 39 = .ok (.ireturn, 1) := by decide +kernel
theorem d_M_best_40 : decode b_M_best 40 = .ok (.aload_n 0, 1) := by decide +kernel
theorem d_M_best_41 : decode b_M_best 41 = .ok (.invokevirtual 374, 3) := by decide +kernel
theorem d_M_best_44 : decode b_M_best 44 = .ok (.iload_n 2, 1) := by decide +kernel
theorem d_M_best_45 : decode b_M_best 45 = .ok (.iconst 3, 1) := by decide +kernel
theorem d_M_best_46 : decode b_M_best 46 = .ok (.if_icmp .ne 22, 3) := by decide +kernel
theorem d_M_best_49 : decode b_M_best 49 = .ok (.iconst 0, 1) := by decide +kernel
theorem d_M_best_50 : decode b_M_best 50 = .ok (.aload_n 0, 1) := by decide +kernel
theorem d_M_best_51 : decode b_M_best 51 = .ok (.getfield 342, 3) := by decide +kernel
theorem d_M_best_54 : decode b_M_best 54 = .ok (.aload_n 0, 1) := by decide +kernel
theorem d_M_best_55 : decode b_M_best 55 = .ok (.getfield 345, 3) := by decide +kernel
theorem d_M_best_58 : decode b_M_best 58 = .ok (.iadd, 1) := by decide +kernel
theorem d_M_best_59 : decode b_M_best 59 = .ok (.aload_n 0, 1) := by decide +kernel
theorem d_M_best_60 : decode b_M_best 60 = .ok (.getfield 247, 3) := by decide +kernel
theorem d_M_best_63 : decode b_M_best 63 = .ok (.isub, 1) := by decide +kernel
theorem d_M_best_64 : decode b_M_best 64 = .ok (.invokestatic 149, 3) := by decide +kernel
theorem d_M_best_67 : decode b_M_best 67 = .ok (.ireturn, 1) := by decide +kernel
theorem d_M_best_68 : decode b_M_best 68 = .ok (.aload_n 0, 1) := by decide +kernel
theorem d_M_best_69 : decode b_M_best 69 = .ok (.iload_n 2, 1) := by decide +kernel
theorem d_M_best_70 : decode b_M_best 70 = .ok (.ifCond .ne 7, 3) := by decide +kernel
theorem d_M_best_73 : decode b_M_best 73 = .ok (.iconst 1, 1) := by decide +kernel
theorem d_M_best_74 : decode b_M_best 74 = .ok (.goto 4, 3) := by decide +kernel
theorem d_M_best_77 : decode b_M_best 77 = .ok (.iconst 0, 1) := by decide +kernel
theorem d_M_best_78 : decode b_M_best 78 = .ok (.invokevirtual 410, 3) := by decide +kernel
theorem d_M_best_81 : decode b_M_best 81 = .ok (.istore_n 3, 1) := by decide +kernel
theorem d_M_best_82 : decode b_M_best 82 = .ok (.iload_n 3, 1) := by decide +kernel
theorem d_M_best_83 : decode b_M_best 83 = .ok (.ldc_w 387, 3) := by decide +kernel
theorem d_M_best_86 : decode b_M_best 86 = .ok (.if_icmp .ne 5, 3) := by decide +kernel
theorem d_M_best_89 : decode b_M_best 89 = .ok (.iconst (-1), 1) := by decide +kernel
theorem d_M_best_90 : decode b_M_best 90 = .ok (.ireturn, 1) := by decide +kernel
theorem d_M_best_91 : decode b_M_best 91 = .ok (.iload_n 2, 1) := by decide +kernel
theorem d_M_best_92 : decode b_M_best 92 = .ok (.ifCond .ne 6, 3) := by decide +kernel
theorem d_M_best_95 : decode b_M_best 95 = .ok (.iload_n 3, 1) := by decide +kernel
theorem d_M_best_96 : decode b_M_best 96 = .ok (.ineg, 1) := by decide +kernel
theorem d_M_best_97 : decode b_M_best 97 = .ok (.ireturn, 1) := by decide +kernel
theorem d_M_best_98 : decode b_M_best 98 = .ok (.iload_n 3, 1) := by decide +kernel
theorem d_M_best_99 : decode b_M_best 99 = .ok (.sipush 10000, 3) := by decide +kernel
theorem d_M_best_102 : decode b_M_best 102 = .ok (.iadd, 1) := by decide +kernel
theorem d_M_best_103 : decode b_M_best 103 = .ok (.iconst 1, 1) := by decide +kernel
theorem d_M_best_104 : decode b_M_best 104 = .ok (.isub, 1) := by decide +kernel
theorem d_M_best_105 : decode b_M_best 105 = .ok (.sipush 10000, 3) := by decide +kernel
theorem d_M_best_108 : decode b_M_best 108 = .ok (.idiv, 1) := by decide +kernel
theorem d_M_best_109 : decode b_M_best 109 = .ok (.istore 4, 2) := by decide +kernel
theorem d_M_best_111 : decode b_M_best 111 = .ok (.iload_n 2, 1) := by decide +kernel
theorem d_M_best_112 : decode b_M_best 112 = .ok (.iconst 1, 1) := by decide +kernel
theorem d_M_best_113 : decode b_M_best 113 = .ok (.if_icmp .ne 6, 3) := by decide +kernel
theorem d_M_best_116 : decode b_M_best 116 = .ok (.iload 4, 2) := by decide +kernel
theorem d_M_best_118 : decode b_M_best 118 = .ok (.ireturn, 1) := by decide +kernel
theorem d_M_best_119 : decode b_M_best 119 = .ok (.iload_n 2, 1) := by decide +kernel
theorem d_M_best_120 : decode b_M_best 120 = .ok (.iconst 2, 1) := by decide +kernel
theorem d_M_best_121 : decode b_M_best 121 = .ok (.if_icmp .ne 12, 3) := by decide +kernel
theorem d_M_best_124 : decode b_M_best 124 = .ok (.sipush 10000, 3) := by decide +kernel
theorem d_M_best_127 : decode b_M_best 127 = .ok (.iload 4, 2) := by decide +kernel
theorem d_M_best_129 : decode b_M_best 129 = .ok (.imul, 1) := by decide +kernel
theorem d_M_best_130 : decode b_M_best 130 = .ok (.iload_n 3, 1) := by decide +kernel
theorem d_M_best_131 : decode b_M_best 131 = .ok (.isub, 1) := by decide +kernel
theorem d_M_best_132 : decode b_M_best 132 = .ok (.ireturn, 1) := by decide +kernel
theorem d_M_best_133 : decode b_M_best 133 = .ok (.aload_n 0, 1) := by decide +kernel
theorem d_M_best_134 : decode b_M_best 134 = .ok (.iload_n 3, 1) := by decide +kernel
theorem d_M_best_135 : decode b_M_best 135 = .ok (.invokevirtual 414, 3) := by decide +kernel
theorem d_M_best_138 : decode b_M_best 138 = .ok (.aload_n 0, 1) := by decide +kernel
theorem d_M_best_139 : decode b_M_best 139 = .ok (.getfield 67, 3) := by decide +kernel
theorem d_M_best_142 : decode b_M_best 142 = .ok (.iload_n 2, 1) := by decide +kernel
theorem d_M_best_143 : decode b_M_best 143 = .ok (.bipush 10, 2) := by decide +kernel
theorem d_M_best_145 : decode b_M_best 145 = .ok (.isub, 1) := by decide +kernel
theorem d_M_best_146 : decode b_M_best 146 = .ok (.iaload, 1) := by decide +kernel
theorem d_M_best_147 : decode b_M_best 147 = .ok (.ireturn, 1) := by decide +kernel
theorem d_M_bestAll_0 : decode b_M_bestAll 0 = .ok (.aload_n 0, 1) := by decide +kernel
theorem d_M_bestAll_1 : decode b_M_bestAll 1 = .ok (.iload_n 1, 1) := by decide +kernel
theorem d_M_bestAll_2 : decode b_M_bestAll 2 = .ok (.putfield 384, 3) := by decide +kernel
theorem d_M_bestAll_5 : decode b_M_bestAll 5 = .ok (.ldc_w 387, 3) := by decide +kernel
theorem d_M_bestAll_8 : decode b_M_bestAll 8 = .ok (.istore_n 2, 1) := by decide +kernel
theorem d_M_bestAll_9 : decode b_M_bestAll 9 = .ok (.iconst 0, 1) := by decide +kernel
theorem d_M_bestAll_10 : decode b_M_bestAll 10 = .ok (.istore_n 3, 1) := by decide +kernel
theorem d_M_bestAll_11 : decode b_M_bestAll 11 = .ok (.iload_n 3, 1) := by decide +kernel
theorem d_M_bestAll_12 : decode b_M_bestAll 12 = .ok (.aload_n 0, 1) := by decide +kernel
theorem d_M_bestAll_13 : decode b_M_bestAll 13 = .ok (.invokevirtual 360, 3) := by decide +kernel
theorem d_M_bestAll_16 : decode b_M_bestAll 16 = .ok (.if_icmp .ge 19, 3) := by decide +kernel
theorem d_M_bestAll_19 : decode b_M_bestAll 19 = .ok (.iload_n 2, 1) := by decide +kernel
theorem d_M_bestAll_20 : decode b_M_bestAll 20 = .ok (.aload_n 0, 1) := by decide +kernel
theorem d_M_bestAll_21 : decode b_M_bestAll 21 = .ok (.iload_n 3, 1) := by decide +kernel
theorem d_M_bestAll_22 : decode b_M_bestAll 22 = .ok (.invokevirtual 398, 3) := by decide +kernel
theorem d_M_bestAll_25 : decode b_M_bestAll 25 = .ok (.invokestatic 149, 3) := by decide +kernel
theorem d_M_bestAll_28 : decode b_M_bestAll 28 = .ok (.istore_n 2, 1) := by decide +kernel
theorem d_M_bestAll_29 : decode b_M_bestAll 29 = .ok (.iinc 3 1, 3) := by decide +kernel
theorem d_M_bestAll_32 : decode b_M_bestAll 32 = .ok (.goto (-21), 3) := by decide +kernel
theorem d_M_bestAll_35 : decode b_M_bestAll 35 = .ok (.iload_n 2, 1) := by decide +kernel
theorem d_M_bestAll_36 : decode b_M_bestAll 36 = .ok (.ireturn, 1) := by decide +kernel
theorem d_M_bestFrom_0 : decode b_M_bestFrom 0 = .ok (.aload_n 0, 1) := by decide +kernel
theorem d_M_bestFrom_1 : decode b_M_bestFrom 1 = .ok (.iload_n 1, 1) := by decide +kernel
theorem d_M_bestFrom_2 : decode b_M_bestFrom 2 = .ok (.invokevirtual 395, 3) := by decide +kernel
theorem d_M_bestFrom_5 : decode b_M_bestFrom 5 = .ok (.aload_n 0, 1) := by decide +kernel
theorem d_M_bestFrom_6 : decode b_M_bestFrom 6 = .ok (.getfield 61, 3) := by decide +kernel
theorem d_M_bestFrom_9 : decode b_M_bestFrom 9 = .ok (.aload_n 0, 1) := by decide +kernel
theorem d_M_bestFrom_10 : decode b_M_bestFrom 10 = .ok (.iload_n 1, 1) := by decide +kernel
theorem d_M_bestFrom_11 : decode b_M_bestFrom 11 = .ok (.aload_n 0, 1) := by decide +kernel
theorem d_M_bestFrom_12 : decode b_M_bestFrom 12 = .ok (.iload_n 1, 1) := by decide +kernel
theorem d_M_bestFrom_13 : decode b_M_bestFrom 13 = .ok (.iconst 0, 1) := by decide +kernel
theorem d_M_bestFrom_14 : decode b_M_bestFrom 14 = .ok (.invokevirtual 354, 3) := by decide +kernel
theorem d_M_bestFrom_17 : decode b_M_bestFrom 17 = .ok (.aload_n 0, 1) := by decide +kernel
theorem d_M_bestFrom_18 : decode b_M_bestFrom 18 = .ok (.iload_n 1, 1) := by decide +kernel
theorem d_M_bestFrom_19 : decode b_M_bestFrom 19 = .ok (.iconst 1, 1) := by decide +kernel
theorem d_M_bestFrom_20 : decode b_M_bestFrom 20 = .ok (.invokevirtual 354, 3) := by decide +kernel
theorem d_M_bestFrom_23 : decode b_M_bestFrom 23 = .ok (.invokevirtual 357, 3) := by decide +kernel
theorem d_M_bestFrom_26 : decode b_M_bestFrom 26 = .ok (.iaload, 1) := by decide +kernel
theorem d_M_bestFrom_27 : decode b_M_bestFrom 27 = .ok (.ireturn, 1) := by decide +kernel
theorem d_M_findBest_0 : decode b_M_findBest 0 = .ok (.aload_n 0, 1) := by decide +kernel
theorem d_M_findBest_1 : decode b_M_findBest 1 = .ok (.getfield 247, 3) := by decide +kernel
theorem d_M_findBest_4 : decode b_M_findBest 4 = .ok (.iconst 1, 1) := by decide +kernel
theorem d_M_findBest_5 : decode b_M_findBest 5 = .ok (.isub, 1) := by decide +kernel
theorem d_M_findBest_6 : decode b_M_findBest 6 = .ok (.istore_n 2, 1) := by decide +kernel
theorem d_M_findBest_7 : decode b_M_findBest 7 = .ok (.iload_n 2, 1) := by decide +kernel
theorem d_M_findBest_8 : decode b_M_findBest 8 = .ok (.ifCond .lt 104, 3) := by decide +kernel
theorem d_M_findBest_11 : decode b_M_findBest 11 = .ok (.iconst 0, 1) := by decide +kernel
theorem d_M_findBest_12 : decode b_M_findBest 12 = .ok (.istore_n 3, 1) := by decide +kernel
theorem d_M_findBest_13 : decode b_M_findBest 13 = .ok (.iload_n 3, 1) := by decide +kernel
theorem d_M_findBest_14 : decode b_M_findBest 14 = .ok (.aload_n 0, 1) := by decide +kernel
theorem d_M_findBest_15 : decode b_M_findBest 15 = .ok (.invokevirtual 360, 3) := by decide +kernel
theorem d_M_findBest_18 : decode b_M_findBest 18 = .ok (.if_icmp .ge 88, 3) := by decide +kernel
theorem d_M_findBest_21 : decode b_M_findBest 21 = .ok (.iconst 0, 1) := by decide +kernel
theorem d_M_findBest_22 : decode b_M_findBest 22 = .ok (.istore 4, 2) := by decide +kernel
theorem d_M_findBest_24 : decode b_M_findBest 24 = .ok (.iload 4, 2) := by decide +kernel
theorem d_M_findBest_26 : decode b_M_findBest 26 = .ok (.sipush 625, 3) := by decide +kernel
theorem d_M_findBest_29 : decode b_M_findBest 29 = .ok (.if_icmp .ge 71, 3) := by decide +kernel
theorem d_M_findBest_32 : decode b_M_findBest 32 = .ok (.aload_n 0, 1) := by decide +kernel
theorem d_M_findBest_33 : decode b_M_findBest 33 = .ok (.getfield 61, 3) := by decide +kernel
theorem d_M_findBest_36 : decode b_M_findBest 36 = .ok (.sipush 5000, 3) := by decide +kernel
theorem d_M_findBest_39 : decode b_M_findBest 39 = .ok (.iload_n 2, 1) := by decide +kernel
theorem d_M_findBest_40 : decode b_M_findBest 40 = .ok (.bipush 25, 2) := by decide +kernel
theorem d_M_findBest_42 : decode b_M_findBest 42 = .ok (.irem, 1) := by decide +kernel
theorem d_M_findBest_43 : decode b_M_findBest 43 = .ok (.imul, 1) := by decide +kernel
theorem d_M_findBest_44 : decode b_M_findBest 44 = .ok (.sipush 625, 3) := by decide +kernel
theorem d_M_findBest_47 : decode b_M_findBest 47 = .ok (.iload_n 3, 1) := by decide +kernel
theorem d_M_findBest_48 : decode b_M_findBest 48 = .ok (.imul, 1) := by decide +kernel
theorem d_M_findBest_49 : decode b_M_findBest 49 = .ok (.iadd, 1) := by decide +kernel
theorem d_M_findBest_50 : decode b_M_findBest 50 = .ok (.iload 4, 2) := by decide +kernel
theorem d_M_findBest_52 : decode b_M_findBest 52 = .ok (.iadd, 1) := by decide +kernel
theorem d_M_findBest_53 : decode b_M_findBest 53 = .ok (.iload 4, 2) := by decide +kernel
theorem d_M_findBest_55 : decode b_M_findBest 55 = .ok (.bipush 25, 2) := by decide +kernel
theorem d_M_findBest_57 : decode b_M_findBest 57 = .ok (.idiv, 1) := by decide +kernel
theorem d_M_findBest_58 : decode b_M_findBest 58 = .ok (.iload 4, 2) := by decide +kernel
theorem d_M_findBest_60 : decode b_M_findBest 60 = .ok (.bipush 25, 2) := by decide +kernel
theorem d_M_findBest_62 : decode b_M_findBest 62 = .ok (.irem, 1) := by decide +kernel
theorem d_M_findBest_63 : decode b_M_findBest 63 = .ok (.iadd, 1) := by decide +kernel
theorem d_M_findBest_64 : decode b_M_findBest 64 = .ok (.iload_n 2, 1) := by decide +kernel
theorem d_M_findBest_65 : decode b_M_findBest 65 = .ok (.iconst 1, 1) := by decide +kernel
theorem d_M_findBest_66 : decode b_M_findBest 66 = .ok (.iadd, 1) := by decide +kernel
theorem d_M_findBest_67 : decode b_M_findBest 67 = .ok (.if_icmp .le 9, 3) := by decide +kernel
theorem d_M_findBest_70 : decode b_M_findBest 70 = .ok (.ldc_w 387, 3) := by decide +kernel
theorem d_M_findBest_73 : decode b_M_findBest 73 = .ok (.goto 20, 3) := by decide +kernel
theorem d_M_findBest_76 : decode b_M_findBest 76 = .ok (.aload_n 0, 1) := by decide +kernel
theorem d_M_findBest_77 : decode b_M_findBest 77 = .ok (.iload_n 1, 1) := by decide +kernel
theorem d_M_findBest_78 : decode b_M_findBest 78 = .ok (.iload_n 2, 1) := by decide +kernel
theorem d_M_findBest_79 : decode b_M_findBest 79 = .ok (.iload_n 3, 1) := by decide +kernel
theorem d_M_findBest_80 : decode b_M_findBest 80 = .ok (.iload 4, 2) := by decide +kernel
theorem d_M_findBest_82 : decode b_M_findBest 82 = .ok (.bipush 25, 2) := by decide +kernel
theorem d_M_findBest_84 : decode b_M_findBest 84 = .ok (.idiv, 1) := by decide +kernel
theorem d_M_findBest_85 : decode b_M_findBest 85 = .ok (.iload 4, 2) := by decide +kernel
theorem d_M_findBest_87 : decode b_M_findBest 87 = .ok (.bipush 25, 2) := by decide +kernel
theorem d_M_findBest_89 : decode b_M_findBest 89 = .ok (.irem, 1) := by decide +kernel
theorem d_M_findBest_90 : decode b_M_findBest 90 = .ok (.invokevirtual 388, 3) := by decide +kernel
theorem d_M_findBest_93 : decode b_M_findBest 93 = .ok (.iastore, 1) := by decide +kernel
theorem d_M_findBest_94 : decode b_M_findBest 94 = .ok (.iinc 4 1, 3) := by decide +kernel
theorem d_M_findBest_97 : decode b_M_findBest 97 = .ok (.goto (-73), 3) := by decide +kernel
theorem d_M_findBest_100 : decode b_M_findBest 100 = .ok (.iinc 3 1, 3) := by decide +kernel
theorem d_M_findBest_103 : decode b_M_findBest 103 = .ok (.goto (-90), 3) := by decide +kernel
theorem d_M_findBest_106 : decode b_M_findBest 106 = .ok (.iinc 2 (-1), 3) := by decide +kernel
theorem d_M_findBest_109 : decode b_M_findBest 109 = .ok (.goto (-102), 3) := by decide +kernel
theorem d_M_findBest_112 : decode b_M_findBest 112 = .ok (.return_, 1) := by decide +kernel
theorem d_M_bestAt_0 : decode b_M_bestAt 0 = .ok (.iload_n 2, 1) := by decide +kernel
theorem d_M_bestAt_1 : decode b_M_bestAt 1 = .ok (.aload_n 0, 1) := by decide +kernel
theorem d_M_bestAt_2 : decode b_M_bestAt 2 = .ok (.getfield 247, 3) := by decide +kernel
theorem d_M_bestAt_5 : decode b_M_bestAt 5 = .ok (.iconst 1, 1) := by decide +kernel
theorem d_M_bestAt_6 : decode b_M_bestAt 6 = .ok (.isub, 1) := by decide +kernel
theorem d_M_bestAt_7 : decode b_M_bestAt 7 = .ok (.if_icmp .ne 37, 3) := by decide +kernel
theorem d_M_bestAt_10 : decode b_M_bestAt 10 = .ok (.aload_n 0, 1) := by decide +kernel
theorem d_M_bestAt_11 : decode b_M_bestAt 11 = .ok (.iload_n 3, 1) := by decide +kernel
theorem d_M_bestAt_12 : decode b_M_bestAt 12 = .ok (.iload_n 1, 1) := by decide +kernel
theorem d_M_bestAt_13 : decode b_M_bestAt 13 = .ok (.invokevirtual 366, 3) := by decide +kernel
theorem d_M_bestAt_16 : decode b_M_bestAt 16 = .ok (.ifCond .eq 24, 3) := by decide +kernel
theorem d_M_bestAt_19 : decode b_M_bestAt 19 = .ok (.aload_n 0, 1) := by decide +kernel
theorem d_M_bestAt_20 : decode b_M_bestAt 20 = .ok (.iload 4, 2) := by decide +kernel
theorem d_M_bestAt_22 : decode b_M_bestAt 22 = .ok (.iload 5, 2) := by decide +kernel
theorem d_M_bestAt_24 : decode b_M_bestAt 24 = .ok (.invokevirtual 369, 3) := by decide +kernel
theorem d_M_bestAt_27 : decode b_M_bestAt 27 = .ok (.ifCond .eq 13, 3) := by decide +kernel
theorem d_M_bestAt_30 : decode b_M_bestAt 30 = .ok (.aload_n 0, 1) := by decide +kernel
theorem d_M_bestAt_31 : decode b_M_bestAt 31 = .ok (.iload_n 3, 1) := by decide +kernel
theorem d_M_bestAt_32 : decode b_M_bestAt 32 = .ok (.iload_n 1, 1) := by decide +kernel
theorem d_M_bestAt_33 : decode b_M_bestAt 33 = .ok (.iconst 0, 1) := by decide +kernel
theorem d_M_bestAt_34 : decode b_M_bestAt 34 = .ok (.invokevirtual 392, 3) := by decide +kernel
theorem d_M_bestAt_37 : decode b_M_bestAt 37 = .ok (.goto 6, 3) := by decide +kernel
theorem d_M_bestAt_40 : decode b_M_bestAt 40 = .ok (.ldc_w 387, 3) := by decide +kernel
theorem d_M_bestAt_43 : decode b_M_bestAt 43 = .ok (.ireturn, 1) := by decide +kernel
theorem d_M_bestAt_44 : decode b_M_bestAt 44 = .ok (.ldc_w 387, 3) := by decide +kernel
theorem d_M_bestAt_47 : decode b_M_bestAt 47 = .ok (.istore 6, 2) := by decide +kernel
theorem d_M_bestAt_49 : decode b_M_bestAt 49 = .ok (.iconst 0, 1) := by decide +kernel
theorem d_M_bestAt_50 : decode b_M_bestAt 50 = .ok (.istore 7, 2) := by decide +kernel
theorem d_M_bestAt_52 : decode b_M_bestAt 52 = .ok (.iload 7, 2) := by decide +kernel
theorem d_M_bestAt_54 : decode b_M_bestAt 54 = .ok (.iconst 2, 1) := by decide +kernel
theorem d_M_bestAt_55 : decode b_M_bestAt 55 = .ok (.if_icmp .ge 98, 3) := by decide +kernel
theorem d_M_bestAt_58 : decode b_M_bestAt 58 = .ok (.aload_n 0, 1) := by decide +kernel
theorem d_M_bestAt_59 : decode b_M_bestAt 59 = .ok (.iload_n 3, 1) := by decide +kernel
theorem d_M_bestAt_60 : decode b_M_bestAt 60 = .ok (.iload 7, 2) := by decide +kernel
theorem d_M_bestAt_62 : decode b_M_bestAt 62 = .ok (.invokevirtual 339, 3) := by decide +kernel
theorem d_M_bestAt_65 : decode b_M_bestAt 65 = .ok (.istore 8, 2) := by decide +kernel
theorem d_M_bestAt_67 : decode b_M_bestAt 67 = .ok (.iload 8, 2) := by decide +kernel
theorem d_M_bestAt_69 : decode b_M_bestAt 69 = .ok (.iconst (-1), 1) := by decide +kernel
theorem d_M_bestAt_70 : decode b_M_bestAt 70 = .ok (.if_icmp .eq 77, 3) := by decide +kernel
theorem d_M_bestAt_73 : decode b_M_bestAt 73 = .ok (.aload_n 0, 1) := by decide +kernel
theorem d_M_bestAt_74 : decode b_M_bestAt 74 = .ok (.getfield 61, 3) := by decide +kernel
theorem d_M_bestAt_77 : decode b_M_bestAt 77 = .ok (.sipush 5000, 3) := by decide +kernel
theorem d_M_bestAt_80 : decode b_M_bestAt 80 = .ok (.iload_n 2, 1) := by decide +kernel
theorem d_M_bestAt_81 : decode b_M_bestAt 81 = .ok (.iconst 1, 1) := by decide +kernel
theorem d_M_bestAt_82 : decode b_M_bestAt 82 = .ok (.iadd, 1) := by decide +kernel
theorem d_M_bestAt_83 : decode b_M_bestAt 83 = .ok (.imul, 1) := by decide +kernel
theorem d_M_bestAt_84 : decode b_M_bestAt 84 = .ok (.aload_n 0, 1) := by decide +kernel
theorem d_M_bestAt_85 : decode b_M_bestAt 85 = .ok (.iload 8, 2) := by decide +kernel
theorem d_M_bestAt_87 : decode b_M_bestAt 87 = .ok (.iload 4, 2) := by decide +kernel
theorem d_M_bestAt_89 : decode b_M_bestAt 89 = .ok (.aload_n 0, 1) := by decide +kernel
theorem d_M_bestAt_90 : decode b_M_bestAt 90 = .ok (.iload 8, 2) := by decide +kernel
theorem d_M_bestAt_92 : decode b_M_bestAt 92 = .ok (.iconst 0, 1) := by decide +kernel
theorem d_M_bestAt_93 : decode b_M_bestAt 93 = .ok (.invokevirtual 354, 3) := by decide +kernel
theorem d_M_bestAt_96 : decode b_M_bestAt 96 = .ok (.iadd, 1) := by decide +kernel
theorem d_M_bestAt_97 : decode b_M_bestAt 97 = .ok (.iload 5, 2) := by decide +kernel
theorem d_M_bestAt_99 : decode b_M_bestAt 99 = .ok (.aload_n 0, 1) := by decide +kernel
theorem d_M_bestAt_100 : decode b_M_bestAt 100 = .ok (.iload 8, 2) := by decide +kernel
theorem d_M_bestAt_102 : decode b_M_bestAt 102 = .ok (.iconst 1, 1) := by decide +kernel
theorem d_M_bestAt_103 : decode b_M_bestAt 103 = .ok (.invokevirtual 354, 3) := by decide +kernel
theorem d_M_bestAt_106 : decode b_M_bestAt 106 = .ok (.iadd, 1) := by decide +kernel
theorem d_M_bestAt_107 : decode b_M_bestAt 107 = .ok (.invokevirtual 357, 3) := by decide +kernel
theorem d_M_bestAt_110 : decode b_M_bestAt 110 = .ok (.iadd, 1) := by decide +kernel
theorem d_M_bestAt_111 : decode b_M_bestAt 111 = .ok (.iaload, 1) := by decide +kernel
theorem d_M_bestAt_112 : decode b_M_bestAt 112 = .ok (.istore 9, 2) := by decide +kernel
theorem d_M_bestAt_114 : decode b_M_bestAt 114 = .ok (.iload 9, 2) := by decide +kernel
theorem d_M_bestAt_116 : decode b_M_bestAt 116 = .ok (.ldc_w 387, 3) := by decide +kernel
theorem d_M_bestAt_119 : decode b_M_bestAt 119 = .ok (.if_icmp .ne 8, 3) := by decide +kernel
theorem d_M_bestAt_122 : decode b_M_bestAt 122 = .ok (.iload 6, 2) := by decide +kernel
theorem d_M_bestAt_124 : decode b_M_bestAt 124 = .ok (.goto 21, 3) := by decide +kernel
theorem d_M_bestAt_127 : decode b_M_bestAt 127 = .ok (.iload 6, 2) := by decide +kernel
theorem d_M_bestAt_129 : decode b_M_bestAt 129 = .ok (.iload 9, 2) := by decide +kernel
theorem d_M_bestAt_131 : decode b_M_bestAt 131 = .ok (.aload_n 0, 1) := by decide +kernel
theorem d_M_bestAt_132 : decode b_M_bestAt 132 = .ok (.iload_n 3, 1) := by decide +kernel
theorem d_M_bestAt_133 : decode b_M_bestAt 133 = .ok (.iload 8, 2) := by decide +kernel
theorem d_M_bestAt_135 : decode b_M_bestAt 135 = .ok (.iload_n 2, 1) := by decide +kernel
theorem d_M_bestAt_136 : decode b_M_bestAt 136 = .ok (.iconst 1, 1) := by decide +kernel
theorem d_M_bestAt_137 : decode b_M_bestAt 137 = .ok (.iadd, 1) := by decide +kernel
theorem d_M_bestAt_138 : decode b_M_bestAt 138 = .ok (.invokevirtual 392, 3) := by decide +kernel
theorem d_M_bestAt_141 : decode b_M_bestAt 141 = .ok (.iadd, 1) := by decide +kernel
theorem d_M_bestAt_142 : decode b_M_bestAt 142 = .ok (.invokestatic 149, 3) := by decide +kernel
theorem d_M_bestAt_145 : decode b_M_bestAt 145 = .ok (.istore 6, 2) := by decide +kernel
theorem d_M_bestAt_147 : decode b_M_bestAt 147 = .ok (.iinc 7 1, 3) := by decide +kernel
theorem d_M_bestAt_150 : decode b_M_bestAt 150 = .ok (.goto (-98), 3) := by decide +kernel
theorem d_M_bestAt_153 : decode b_M_bestAt 153 = .ok (.iload 6, 2) := by decide +kernel
theorem d_M_bestAt_155 : decode b_M_bestAt 155 = .ok (.ireturn, 1) := by decide +kernel
theorem d_M_gains_0 : decode b_M_gains 0 = .ok (.iconst 0, 1) := by decide +kernel
theorem d_M_gains_1 : decode b_M_gains 1 = .ok (.istore 4, 2) := by decide +kernel
theorem d_M_gains_3 : decode b_M_gains 3 = .ok (.aload_n 0, 1) := by decide +kernel
theorem d_M_gains_4 : decode b_M_gains 4 = .ok (.iload_n 1, 1) := by decide +kernel
theorem d_M_gains_5 : decode b_M_gains 5 = .ok (.iload_n 2, 1) := by decide +kernel
theorem d_M_gains_6 : decode b_M_gains 6 = .ok (.invokevirtual 381, 3) := by decide +kernel
theorem d_M_gains_9 : decode b_M_gains 9 = .ok (.ifCond .eq 32, 3) := by decide +kernel
theorem d_M_gains_12 : decode b_M_gains 12 = .ok (.iload 4, 2) := by decide +kernel
theorem d_M_gains_14 : decode b_M_gains 14 = .ok (.aload_n 0, 1) := by decide +kernel
theorem d_M_gains_15 : decode b_M_gains 15 = .ok (.getfield 384, 3) := by decide +kernel
theorem d_M_gains_18 : decode b_M_gains 18 = .ok (.ifCond .eq 7, 3) := by decide +kernel
theorem d_M_gains_21 : decode b_M_gains 21 = .ok (.iconst 1, 1) := by decide +kernel
theorem d_M_gains_22 : decode b_M_gains 22 = .ok (.goto 16, 3) := by decide +kernel
theorem d_M_gains_25 : decode b_M_gains 25 = .ok (.aload_n 0, 1) := by decide +kernel
theorem d_M_gains_26 : decode b_M_gains 26 = .ok (.bipush 6, 2) := by decide +kernel
theorem d_M_gains_28 : decode b_M_gains 28 = .ok (.iload_n 3, 1) := by decide +kernel
theorem d_M_gains_29 : decode b_M_gains 29 = .ok (.iadd, 1) := by decide +kernel
theorem d_M_gains_30 : decode b_M_gains 30 = .ok (.invokevirtual 240, 3) := by decide +kernel
theorem d_M_gains_33 : decode b_M_gains 33 = .ok (.aload_n 0, 1) := by decide +kernel
theorem d_M_gains_34 : decode b_M_gains 34 = .ok (.invokevirtual 299, 3) := by decide +kernel
theorem d_M_gains_37 : decode b_M_gains 37 = .ok (.iadd, 1) := by decide +kernel
theorem d_M_gains_38 : decode b_M_gains 38 = .ok (.isub, 1) := by decide +kernel
theorem d_M_gains_39 : decode b_M_gains 39 = .ok (.istore 4, 2) := by decide +kernel
theorem d_M_gains_41 : decode b_M_gains 41 = .ok (.aload_n 0, 1) := by decide +kernel
theorem d_M_gains_42 : decode b_M_gains 42 = .ok (.getfield 384, 3) := by decide +kernel
theorem d_M_gains_45 : decode b_M_gains 45 = .ok (.ifCond .ne 8, 3) := by decide +kernel
theorem d_M_gains_48 : decode b_M_gains 48 = .ok (.iload_n 2, 1) := by decide +kernel
theorem d_M_gains_49 : decode b_M_gains 49 = .ok (.iconst 2, 1) := by decide +kernel
theorem d_M_gains_50 : decode b_M_gains 50 = .ok (.if_icmp .lt 8, 3) := by decide +kernel
theorem d_M_gains_53 : decode b_M_gains 53 = .ok (.iload 4, 2) := by decide +kernel
theorem d_M_gains_55 : decode b_M_gains 55 = .ok (.goto 21, 3) := by decide +kernel
theorem d_M_gains_58 : decode b_M_gains 58 = .ok (.iload 4, 2) := by decide +kernel
theorem d_M_gains_60 : decode b_M_gains 60 = .ok (.sipush 10000, 3) := by decide +kernel
theorem d_M_gains_63 : decode b_M_gains 63 = .ok (.aload_n 0, 1) := by decide +kernel
theorem d_M_gains_64 : decode b_M_gains 64 = .ok (.getfield 64, 3) := by decide +kernel
theorem d_M_gains_67 : decode b_M_gains 67 = .ok (.bipush 24, 2) := by decide +kernel
theorem d_M_gains_69 : decode b_M_gains 69 = .ok (.iload_n 2, 1) := by decide +kernel
theorem d_M_gains_70 : decode b_M_gains 70 = .ok (.imul, 1) := by decide +kernel
theorem d_M_gains_71 : decode b_M_gains 71 = .ok (.iload_n 3, 1) := by decide +kernel
theorem d_M_gains_72 : decode b_M_gains 72 = .ok (.iadd, 1) := by decide +kernel
theorem d_M_gains_73 : decode b_M_gains 73 = .ok (.iaload, 1) := by decide +kernel
theorem d_M_gains_74 : decode b_M_gains 74 = .ok (.imul, 1) := by decide +kernel
theorem d_M_gains_75 : decode b_M_gains 75 = .ok (.iadd, 1) := by decide +kernel
theorem d_M_gains_76 : decode b_M_gains 76 = .ok (.ireturn, 1) := by decide +kernel
theorem d_M_carries_0 : decode b_M_carries 0 = .ok (.iload_n 2, 1) := by decide +kernel
theorem d_M_carries_1 : decode b_M_carries 1 = .ok (.iconst 2, 1) := by decide +kernel
theorem d_M_carries_2 : decode b_M_carries 2 = .ok (.if_icmp .ge 12, 3) := by decide +kernel
theorem d_M_carries_5 : decode b_M_carries 5 = .ok (.iload_n 1, 1) := by decide +kernel
theorem d_M_carries_6 : decode b_M_carries 6 = .ok (.iload_n 2, 1) := by decide +kernel
theorem d_M_carries_7 : decode b_M_carries 7 = .ok (.if_icmp .eq 7, 3) := by decide +kernel
theorem d_M_carries_10 : decode b_M_carries 10 = .ok (.iconst 1, 1) := by decide +kernel
theorem d_M_carries_11 : decode b_M_carries 11 = .ok (.goto 4, 3) := by decide +kernel
theorem d_M_carries_14 : decode b_M_carries 14 = .ok (.iconst 0, 1) := by decide +kernel
theorem d_M_carries_15 : decode b_M_carries 15 = .ok (.ireturn, 1) := by decide +kernel
theorem d_M_findRow_0 : decode b_M_findRow 0 = .ok (.iconst 0, 1) := by decide +kernel
theorem d_M_findRow_1 : decode b_M_findRow 1 = .ok (.istore_n 2, 1) := by decide +kernel
theorem d_M_findRow_2 : decode b_M_findRow 2 = .ok (.iload_n 2, 1) := by decide +kernel
theorem d_M_findRow_3 : decode b_M_findRow 3 = .ok (.aload_n 0, 1) := by decide +kernel
theorem d_M_findRow_4 : decode b_M_findRow 4 = .ok (.getfield 247, 3) := by decide +kernel
theorem d_M_findRow_7 : decode b_M_findRow 7 = .ok (.if_icmp .ge 16, 3) := by decide +kernel
theorem d_M_findRow_10 : decode b_M_findRow 10 = .ok (.aload_n 0, 1) := by decide +kernel
theorem d_M_findRow_11 : decode b_M_findRow 11 = .ok (.getfield 67, 3) := by decide +kernel
theorem d_M_findRow_14 : decode b_M_findRow 14 = .ok (.iload_n 2, 1) := by decide +kernel
theorem d_M_findRow_15 : decode b_M_findRow 15 = .ok (.iconst 3, 1) := by decide +kernel
theorem d_M_findRow_16 : decode b_M_findRow 16 = .ok (.iastore, 1) := by decide +kernel
theorem d_M_findRow_17 : decode b_M_findRow 17 = .ok (.iinc 2 1, 3) := by decide +kernel
theorem d_M_findRow_20 : decode b_M_findRow 20 = .ok (.goto (-18), 3) := by decide +kernel
theorem d_M_findRow_23 : decode b_M_findRow 23 = .ok (.iconst 0, 1) := by decide +kernel
theorem d_M_findRow_24 : decode b_M_findRow 24 = .ok (.istore_n 2, 1) := by decide +kernel
theorem d_M_findRow_25 : decode b_M_findRow 25 = .ok (.iload_n 2, 1) := by decide +kernel
theorem d_M_findRow_26 : decode b_M_findRow 26 = .ok (.aload_n 0, 1) := by decide +kernel
theorem d_M_findRow_27 : decode b_M_findRow 27 = .ok (.invokevirtual 360, 3) := by decide +kernel
theorem d_M_findRow_30 : decode b_M_findRow 30 = .ok (.if_icmp .ge 58, 3) := by decide +kernel
theorem d_M_findRow_33 : decode b_M_findRow 33 = .ok (.aload_n 0, 1) := by decide +kernel
theorem d_M_findRow_34 : decode b_M_findRow 34 = .ok (.iload_n 2, 1) := by decide +kernel
theorem d_M_findRow_35 : decode b_M_findRow 35 = .ok (.invokevirtual 398, 3) := by decide +kernel
theorem d_M_findRow_38 : decode b_M_findRow 38 = .ok (.iload_n 1, 1) := by decide +kernel
theorem d_M_findRow_39 : decode b_M_findRow 39 = .ok (.if_icmp .ne 43, 3) := by decide +kernel
theorem d_M_findRow_42 : decode b_M_findRow 42 = .ok (.aload_n 0, 1) := by decide +kernel
theorem d_M_findRow_43 : decode b_M_findRow 43 = .ok (.iload_n 2, 1) := by decide +kernel
theorem d_M_findRow_44 : decode b_M_findRow 44 = .ok (.invokevirtual 404, 3) := by decide +kernel
theorem d_M_findRow_47 : decode b_M_findRow 47 = .ok (.aload_n 0, 1) := by decide +kernel
theorem d_M_findRow_48 : decode b_M_findRow 48 = .ok (.invokevirtual 407, 3) := by decide +kernel
theorem d_M_findRow_51 : decode b_M_findRow 51 = .ok (.ifCond .eq 31, 3) := by decide +kernel
theorem d_M_findRow_54 : decode b_M_findRow 54 = .ok (.iconst 0, 1) := by decide +kernel
theorem d_M_findRow_55 : decode b_M_findRow 55 = .ok (.istore_n 3, 1) := by decide +kernel
theorem d_M_findRow_56 : decode b_M_findRow 56 = .ok (.iload_n 3, 1) := by decide +kernel
theorem d_M_findRow_57 : decode b_M_findRow 57 = .ok (.aload_n 0, 1) := by decide +kernel
theorem d_M_findRow_58 : decode b_M_findRow 58 = .ok (.getfield 247, 3) := by decide +kernel
theorem d_M_findRow_61 : decode b_M_findRow 61 = .ok (.if_icmp .ge 21, 3) := by decide +kernel
theorem d_M_findRow_64 : decode b_M_findRow 64 = .ok (.aload_n 0, 1) := by decide +kernel
theorem d_M_findRow_65 : decode b_M_findRow 65 = .ok (.getfield 67, 3) := by decide +kernel
theorem d_M_findRow_68 : decode b_M_findRow 68 = .ok (.iload_n 3, 1) := by decide +kernel
theorem d_M_findRow_69 : decode b_M_findRow 69 = .ok (.aload_n 0, 1) := by decide +kernel
theorem d_M_findRow_70 : decode b_M_findRow 70 = .ok (.getfield 47, 3) := by decide +kernel
theorem d_M_findRow_73 : decode b_M_findRow 73 = .ok (.iload_n 3, 1) := by decide +kernel
theorem d_M_findRow_74 : decode b_M_findRow 74 = .ok (.iaload, 1) := by decide +kernel
theorem d_M_findRow_75 : decode b_M_findRow 75 = .ok (.iastore, 1) := by decide +kernel
theorem d_M_findRow_76 : decode b_M_findRow 76 = .ok (.iinc 3 1, 3) := by decide +kernel
theorem d_M_findRow_79 : decode b_M_findRow 79 = .ok (.goto (-23), 3) := by decide +kernel
theorem d_M_findRow_82 : decode b_M_findRow 82 = .ok (.iinc 2 1, 3) := by decide +kernel
theorem d_M_findRow_85 : decode b_M_findRow 85 = .ok (.goto (-60), 3) := by decide +kernel
theorem d_M_findRow_88 : decode b_M_findRow 88 = .ok (.return_, 1) := by decide +kernel
theorem d_M_walkFrom_0 : decode b_M_walkFrom 0 = .ok (.iload_n 1, 1) := by decide +kernel
theorem d_M_walkFrom_1 : decode b_M_walkFrom 1 = .ok (.istore_n 2, 1) := by decide +kernel
theorem d_M_walkFrom_2 : decode b_M_walkFrom 2 = .ok (.aload_n 0, 1) := by decide +kernel
theorem d_M_walkFrom_3 : decode b_M_walkFrom 3 = .ok (.iload_n 1, 1) := by decide +kernel
theorem d_M_walkFrom_4 : decode b_M_walkFrom 4 = .ok (.iconst 0, 1) := by decide +kernel
theorem d_M_walkFrom_5 : decode b_M_walkFrom 5 = .ok (.invokevirtual 354, 3) := by decide +kernel
theorem d_M_walkFrom_8 : decode b_M_walkFrom 8 = .ok (.istore_n 3, 1) := by decide +kernel
theorem d_M_walkFrom_9 : decode b_M_walkFrom 9 = .ok (.aload_n 0, 1) := by decide +kernel
theorem d_M_walkFrom_10 : decode b_M_walkFrom 10 = .ok (.iload_n 1, 1) := by decide +kernel
theorem d_M_walkFrom_11 : decode b_M_walkFrom 11 = .ok (.iconst 1, 1) := by decide +kernel
theorem d_M_walkFrom_12 : decode b_M_walkFrom 12 = .ok (.invokevirtual 354, 3) := by decide +kernel
theorem d_M_walkFrom_15 : decode b_M_walkFrom 15 = .ok (.istore 4, 2) := by decide +kernel
theorem d_M_walkFrom_17 : decode b_M_walkFrom 17 = .ok (.aload_n 0, 1) := by decide +kernel
theorem d_M_walkFrom_18 : decode b_M_walkFrom 18 = .ok (.getfield 47, 3) := by decide +kernel
theorem d_M_walkFrom_21 : decode b_M_walkFrom 21 = .ok (.iconst 0, 1) := by decide +kernel
theorem d_M_walkFrom_22 : decode b_M_walkFrom 22 = .ok (.aload_n 0, 1) := by decide +kernel
theorem d_M_walkFrom_23 : decode b_M_walkFrom 23 = .ok (.iload_n 1, 1) := by decide +kernel
theorem d_M_walkFrom_24 : decode b_M_walkFrom 24 = .ok (.invokevirtual 401, 3) := by decide +kernel
theorem d_M_walkFrom_27 : decode b_M_walkFrom 27 = .ok (.iastore, 1) := by decide +kernel
theorem d_M_walkFrom_28 : decode b_M_walkFrom 28 = .ok (.iconst 1, 1) := by decide +kernel
theorem d_M_walkFrom_29 : decode b_M_walkFrom 29 = .ok (.istore 5, 2) := by decide +kernel
theorem d_M_walkFrom_31 : decode b_M_walkFrom 31 = .ok (.iload 5, 2) := by decide +kernel
theorem d_M_walkFrom_33 : decode b_M_walkFrom 33 = .ok (.aload_n 0, 1) := by decide +kernel
theorem d_M_walkFrom_34 : decode b_M_walkFrom 34 = .ok (.getfield 247, 3) := by decide +kernel
theorem d_M_walkFrom_37 : decode b_M_walkFrom 37 = .ok (.if_icmp .ge 207, 3) := by decide +kernel
theorem d_M_walkFrom_40 : decode b_M_walkFrom 40 = .ok (.aload_n 0, 1) := by decide +kernel
theorem d_M_walkFrom_41 : decode b_M_walkFrom 41 = .ok (.getfield 61, 3) := by decide +kernel
theorem d_M_walkFrom_44 : decode b_M_walkFrom 44 = .ok (.sipush 5000, 3) := by decide +kernel
theorem d_M_walkFrom_47 : decode b_M_walkFrom 47 = .ok (.iload 5, 2) := by decide +kernel
theorem d_M_walkFrom_49 : decode b_M_walkFrom 49 = .ok (.iconst 1, 1) := by decide +kernel
theorem d_M_walkFrom_50 : decode b_M_walkFrom 50 = .ok (.isub, 1) := by decide +kernel
theorem d_M_walkFrom_51 : decode b_M_walkFrom 51 = .ok (.imul, 1) := by decide +kernel
theorem d_M_walkFrom_52 : decode b_M_walkFrom 52 = .ok (.aload_n 0, 1) := by decide +kernel
theorem d_M_walkFrom_53 : decode b_M_walkFrom 53 = .ok (.iload_n 2, 1) := by decide +kernel
theorem d_M_walkFrom_54 : decode b_M_walkFrom 54 = .ok (.iload_n 3, 1) := by decide +kernel
theorem d_M_walkFrom_55 : decode b_M_walkFrom 55 = .ok (.iload 4, 2) := by decide +kernel
theorem d_M_walkFrom_57 : decode b_M_walkFrom 57 = .ok (.invokevirtual 357, 3) := by decide +kernel
theorem d_M_walkFrom_60 : decode b_M_walkFrom 60 = .ok (.iadd, 1) := by decide +kernel
theorem d_M_walkFrom_61 : decode b_M_walkFrom 61 = .ok (.iaload, 1) := by decide +kernel
theorem d_M_walkFrom_62 : decode b_M_walkFrom 62 = .ok (.istore 6, 2) := by decide +kernel
theorem d_M_walkFrom_64 : decode b_M_walkFrom 64 = .ok (.iconst (-1), 1) := by decide +kernel
theorem d_M_walkFrom_65 : decode b_M_walkFrom 65 = .ok (.istore 7, 2) := by decide +kernel
theorem d_M_walkFrom_67 : decode b_M_walkFrom 67 = .ok (.iconst 0, 1) := by decide +kernel
theorem d_M_walkFrom_68 : decode b_M_walkFrom 68 = .ok (.istore 8, 2) := by decide +kernel
theorem d_M_walkFrom_70 : decode b_M_walkFrom 70 = .ok (.iload 8, 2) := by decide +kernel
theorem d_M_walkFrom_72 : decode b_M_walkFrom 72 = .ok (.iconst 2, 1) := by decide +kernel
theorem d_M_walkFrom_73 : decode b_M_walkFrom 73 = .ok (.if_icmp .ge 130, 3) := by decide +kernel
theorem d_M_walkFrom_76 : decode b_M_walkFrom 76 = .ok (.aload_n 0, 1) := by decide +kernel
theorem d_M_walkFrom_77 : decode b_M_walkFrom 77 = .ok (.iload_n 2, 1) := by decide +kernel
theorem d_M_walkFrom_78 : decode b_M_walkFrom 78 = .ok (.iload 8, 2) := by decide +kernel
theorem d_M_walkFrom_80 : decode b_M_walkFrom 80 = .ok (.invokevirtual 339, 3) := by decide +kernel
theorem d_M_walkFrom_83 : decode b_M_walkFrom 83 = .ok (.istore 9, 2) := by decide +kernel
theorem d_M_walkFrom_85 : decode b_M_walkFrom 85 = .ok (.iload 9, 2) := by decide +kernel
theorem d_M_walkFrom_87 : decode b_M_walkFrom 87 = .ok (.iconst (-1), 1) := by decide +kernel
theorem d_M_walkFrom_88 : decode b_M_walkFrom 88 = .ok (.if_icmp .eq 109, 3) := by decide +kernel
theorem d_M_walkFrom_91 : decode b_M_walkFrom 91 = .ok (.aload_n 0, 1) := by decide +kernel
theorem d_M_walkFrom_92 : decode b_M_walkFrom 92 = .ok (.getfield 61, 3) := by decide +kernel
theorem d_M_walkFrom_95 : decode b_M_walkFrom 95 = .ok (.sipush 5000, 3) := by decide +kernel
theorem d_M_walkFrom_98 : decode b_M_walkFrom 98 = .ok (.iload 5, 2) := by decide +kernel
theorem d_M_walkFrom_100 : decode b_M_walkFrom 100 = .ok (.imul, 1) := by decide +kernel
theorem d_M_walkFrom_101 : decode b_M_walkFrom 101 = .ok (.aload_n 0, 1) := by decide +kernel
theorem d_M_walkFrom_102 : decode b_M_walkFrom 102 = .ok (.iload 9, 2) := by decide +kernel
theorem d_M_walkFrom_104 : decode b_M_walkFrom 104 = .ok (.iload_n 3, 1) := by decide +kernel
theorem d_M_walkFrom_105 : decode b_M_walkFrom 105 = .ok (.aload_n 0, 1) := by decide +kernel
theorem d_M_walkFrom_106 : decode b_M_walkFrom 106 = .ok (.iload 9, 2) := by decide +kernel
theorem d_M_walkFrom_108 : decode b_M_walkFrom 108 = .ok (.iconst 0, 1) := by decide +kernel
theorem d_M_walkFrom_109 : decode b_M_walkFrom 109 = .ok (.invokevirtual 354, 3) := by decide +kernel
theorem d_M_walkFrom_112 : decode b_M_walkFrom 112 = .ok (.iadd, 1) := by decide +kernel
theorem d_M_walkFrom_113 : decode b_M_walkFrom 113 = .ok (.iload 4, 2) := by decide +kernel
theorem d_M_walkFrom_115 : decode b_M_walkFrom 115 = .ok (.aload_n 0, 1) := by decide +kernel
theorem d_M_walkFrom_116 : decode b_M_walkFrom 116 = .ok (.iload 9, 2) := by decide +kernel
theorem d_M_walkFrom_118 : decode b_M_walkFrom 118 = .ok (.iconst 1, 1) := by decide +kernel
theorem d_M_walkFrom_119 : decode b_M_walkFrom 119 = .ok (.invokevirtual 354, 3) := by decide +kernel
theorem d_M_walkFrom_122 : decode b_M_walkFrom 122 = .ok (.iadd, 1) := by decide +kernel
theorem d_M_walkFrom_123 : decode b_M_walkFrom 123 = .ok (.invokevirtual 357, 3) := by decide +kernel
theorem d_M_walkFrom_126 : decode b_M_walkFrom 126 = .ok (.iadd, 1) := by decide +kernel
theorem d_M_walkFrom_127 : decode b_M_walkFrom 127 = .ok (.iaload, 1) := by decide +kernel
theorem d_M_walkFrom_128 : decode b_M_walkFrom 128 = .ok (.istore 10, 2) := by decide +kernel
theorem d_M_walkFrom_130 : decode b_M_walkFrom 130 = .ok (.iload 10, 2) := by decide +kernel
theorem d_M_walkFrom_132 : decode b_M_walkFrom 132 = .ok (.ldc_w 387, 3) := by decide +kernel
theorem d_M_walkFrom_135 : decode b_M_walkFrom 135 = .ok (.if_icmp .eq 24, 3) := by decide +kernel
theorem d_M_walkFrom_138 : decode b_M_walkFrom 138 = .ok (.iload 10, 2) := by decide +kernel
theorem d_M_walkFrom_140 : decode b_M_walkFrom 140 = .ok (.aload_n 0, 1) := by decide +kernel
theorem d_M_walkFrom_141 : decode b_M_walkFrom 141 = .ok (.iload_n 2, 1) := by decide +kernel
theorem d_M_walkFrom_142 : decode b_M_walkFrom 142 = .ok (.iload 9, 2) := by decide +kernel
theorem d_M_walkFrom_144 : decode b_M_walkFrom 144 = .ok (.iload 5, 2) := by decide +kernel
theorem d_M_walkFrom_146 : decode b_M_walkFrom 146 = .ok (.invokevirtual 392, 3) := by decide +kernel
theorem d_M_walkFrom_149 : decode b_M_walkFrom 149 = .ok (.iadd, 1) := by decide +kernel
theorem d_M_walkFrom_150 : decode b_M_walkFrom 150 = .ok (.iload 6, 2) := by decide +kernel
theorem d_M_walkFrom_152 : decode b_M_walkFrom 152 = .ok (.if_icmp .ne 7, 3) := by decide +kernel
theorem d_M_walkFrom_155 : decode b_M_walkFrom 155 = .ok (.iconst 1, 1) := by decide +kernel
theorem d_M_walkFrom_156 : decode b_M_walkFrom 156 = .ok (.goto 4, 3) := by decide +kernel
theorem d_M_walkFrom_159 : decode b_M_walkFrom 159 = .ok (.iconst 0, 1) := by decide +kernel
theorem d_M_walkFrom_160 : decode b_M_walkFrom 160 = .ok (.istore 11, 2) := by decide +kernel
theorem d_M_walkFrom_162 : decode b_M_walkFrom 162 = .ok (.iload 11, 2) := by decide +kernel
theorem d_M_walkFrom_164 : decode b_M_walkFrom 164 = .ok (.ifCond .eq 29, 3) := by decide +kernel
theorem d_M_walkFrom_167 : decode b_M_walkFrom 167 = .ok (.iload 7, 2) := by decide +kernel
theorem d_M_walkFrom_169 : decode b_M_walkFrom 169 = .ok (.iconst (-1), 1) := by decide +kernel
theorem d_M_walkFrom_170 : decode b_M_walkFrom 170 = .ok (.if_icmp .eq 18, 3) := by decide +kernel
theorem d_M_walkFrom_173 : decode b_M_walkFrom 173 = .ok (.aload_n 0, 1) := by decide +kernel
theorem d_M_walkFrom_174 : decode b_M_walkFrom 174 = .ok (.iload 9, 2) := by decide +kernel
theorem d_M_walkFrom_176 : decode b_M_walkFrom 176 = .ok (.invokevirtual 401, 3) := by decide +kernel
theorem d_M_walkFrom_179 : decode b_M_walkFrom 179 = .ok (.aload_n 0, 1) := by decide +kernel
theorem d_M_walkFrom_180 : decode b_M_walkFrom 180 = .ok (.iload 7, 2) := by decide +kernel
theorem d_M_walkFrom_182 : decode b_M_walkFrom 182 = .ok (.invokevirtual 401, 3) := by decide +kernel
theorem d_M_walkFrom_185 : decode b_M_walkFrom 185 = .ok (.if_icmp .ge 8, 3) := by decide +kernel
theorem d_M_walkFrom_188 : decode b_M_walkFrom 188 = .ok (.iload 9, 2) := by decide +kernel
theorem d_M_walkFrom_190 : decode b_M_walkFrom 190 = .ok (.goto 5, 3) := by decide +kernel
theorem d_M_walkFrom_193 : decode b_M_walkFrom 193 = .ok (.iload 7, 2) := by decide +kernel
theorem d_M_walkFrom_195 : decode b_M_walkFrom 195 = .ok (.istore 7, 2) := by decide +kernel
theorem d_M_walkFrom_197 : decode b_M_walkFrom 197 = .ok (.iinc 8 1, 3) := by decide +kernel
theorem d_M_walkFrom_200 : decode b_M_walkFrom 200 = .ok (.goto (-130), 3) := by decide +kernel
theorem d_M_walkFrom_203 : decode b_M_walkFrom 203 = .ok (.iload 7, 2) := by decide +kernel
theorem d_M_walkFrom_205 : decode b_M_walkFrom 205 = .ok (.istore_n 2, 1) := by decide +kernel
theorem d_M_walkFrom_206 : decode b_M_walkFrom 206 = .ok (.iload_n 3, 1) := by decide +kernel
theorem d_M_walkFrom_207 : decode b_M_walkFrom 207 = .ok (.aload_n 0, 1) := by decide +kernel
theorem d_M_walkFrom_208 : decode b_M_walkFrom 208 = .ok (.iload_n 2, 1) := by decide +kernel
theorem d_M_walkFrom_209 : decode b_M_walkFrom 209 = .ok (.iconst 0, 1) := by decide +kernel
theorem d_M_walkFrom_210 : decode b_M_walkFrom 210 = .ok (.invokevirtual 354, 3) := by decide +kernel
theorem d_M_walkFrom_213 : decode b_M_walkFrom 213 = .ok (.iadd, 1) := by decide +kernel
theorem d_M_walkFrom_214 : decode b_M_walkFrom 214 = .ok (.istore_n 3, 1) := by decide +kernel
theorem d_M_walkFrom_215 : decode b_M_walkFrom 215 = .ok (.iload 4, 2) := by decide +kernel
theorem d_M_walkFrom_217 : decode b_M_walkFrom 217 = .ok (.aload_n 0, 1) := by decide +kernel
theorem d_M_walkFrom_218 : decode b_M_walkFrom 218 = .ok (.iload_n 2, 1) := by decide +kernel
theorem d_M_walkFrom_219 : decode b_M_walkFrom 219 = .ok (.iconst 1, 1) := by decide +kernel
theorem d_M_walkFrom_220 : decode b_M_walkFrom 220 = .ok (.invokevirtual 354, 3) := by decide +kernel
theorem d_M_walkFrom_223 : decode b_M_walkFrom 223 = .ok (.iadd, 1) := by decide +kernel
theorem d_M_walkFrom_224 : decode b_M_walkFrom 224 = .ok (.istore 4, 2) := by decide +kernel
theorem d_M_walkFrom_226 : decode b_M_walkFrom 226 = .ok (.aload_n 0, 1) := by decide +kernel
theorem d_M_walkFrom_227 : decode b_M_walkFrom 227 = .ok (.getfield 47, 3) := by decide +kernel
theorem d_M_walkFrom_230 : decode b_M_walkFrom 230 = .ok (.iload 5, 2) := by decide +kernel
theorem d_M_walkFrom_232 : decode b_M_walkFrom 232 = .ok (.aload_n 0, 1) := by decide +kernel
theorem d_M_walkFrom_233 : decode b_M_walkFrom 233 = .ok (.iload_n 2, 1) := by decide +kernel
theorem d_M_walkFrom_234 : decode b_M_walkFrom 234 = .ok (.invokevirtual 401, 3) := by decide +kernel
theorem d_M_walkFrom_237 : decode b_M_walkFrom 237 = .ok (.iastore, 1) := by decide +kernel
theorem d_M_walkFrom_238 : decode b_M_walkFrom 238 = .ok (.iinc 5 1, 3) := by decide +kernel
theorem d_M_walkFrom_241 : decode b_M_walkFrom 241 = .ok (.goto (-210), 3) := by decide +kernel
theorem d_M_walkFrom_244 : decode b_M_walkFrom 244 = .ok (.return_, 1) := by decide +kernel
theorem d_M_cityOf_0 : decode b_M_cityOf 0 = .ok (.iload_n 1, 1) := by decide +kernel
theorem d_M_cityOf_1 : decode b_M_cityOf 1 = .ok (.iconst 2, 1) := by decide +kernel
theorem d_M_cityOf_2 : decode b_M_cityOf 2 = .ok (.if_icmp .ge 7, 3) := by decide +kernel
theorem d_M_cityOf_5 : decode b_M_cityOf 5 = .ok (.iload_n 1, 1) := by decide +kernel
theorem d_M_cityOf_6 : decode b_M_cityOf 6 = .ok (.goto 4, 3) := by decide +kernel
theorem d_M_cityOf_9 : decode b_M_cityOf 9 = .ok (.iconst 2, 1) := by decide +kernel
theorem d_M_cityOf_10 : decode b_M_cityOf 10 = .ok (.ireturn, 1) := by decide +kernel
theorem d_M_isSooner_0 : decode b_M_isSooner 0 = .ok (.iconst 0, 1) := by decide +kernel
theorem d_M_isSooner_1 : decode b_M_isSooner 1 = .ok (.istore_n 1, 1) := by decide +kernel
theorem d_M_isSooner_2 : decode b_M_isSooner 2 = .ok (.iload_n 1, 1) := by decide +kernel
theorem d_M_isSooner_3 : decode b_M_isSooner 3 = .ok (.aload_n 0, 1) := by decide +kernel
theorem d_M_isSooner_4 : decode b_M_isSooner 4 = .ok (.getfield 247, 3) := by decide +kernel
theorem d_M_isSooner_7 : decode b_M_isSooner 7 = .ok (.if_icmp .ge 45, 3) := by decide +kernel
theorem d_M_isSooner_10 : decode b_M_isSooner 10 = .ok (.aload_n 0, 1) := by decide +kernel
theorem d_M_isSooner_11 : decode b_M_isSooner 11 = .ok (.getfield 47, 3) := by decide +kernel
theorem d_M_isSooner_14 : decode b_M_isSooner 14 = .ok (.iload_n 1, 1) := by decide +kernel
theorem d_M_isSooner_15 : decode b_M_isSooner 15 = .ok (.iaload, 1) := by decide +kernel
theorem d_M_isSooner_16 : decode b_M_isSooner 16 = .ok (.aload_n 0, 1) := by decide +kernel
theorem d_M_isSooner_17 : decode b_M_isSooner 17 = .ok (.getfield 67, 3) := by decide +kernel
theorem d_M_isSooner_20 : decode b_M_isSooner 20 = .ok (.iload_n 1, 1) := by decide +kernel
theorem d_M_isSooner_21 : decode b_M_isSooner 21 = .ok (.iaload, 1) := by decide +kernel
theorem d_M_isSooner_22 : decode b_M_isSooner 22 = .ok (.if_icmp .eq 24, 3) := by decide +kernel
theorem d_M_isSooner_25 : decode b_M_isSooner 25 = .ok (.aload_n 0, 1) := by decide +kernel
theorem d_M_isSooner_26 : decode b_M_isSooner 26 = .ok (.getfield 47, 3) := by decide +kernel
theorem d_M_isSooner_29 : decode b_M_isSooner 29 = .ok (.iload_n 1, 1) := by decide +kernel
theorem d_M_isSooner_30 : decode b_M_isSooner 30 = .ok (.iaload, 1) := by decide +kernel
theorem d_M_isSooner_31 : decode b_M_isSooner 31 = .ok (.aload_n 0, 1) := by decide +kernel
theorem d_M_isSooner_32 : decode b_M_isSooner 32 = .ok (.getfield 67, 3) := by decide +kernel
theorem d_M_isSooner_35 : decode b_M_isSooner 35 = .ok (.iload_n 1, 1) := by decide +kernel
theorem d_M_isSooner_36 : decode b_M_isSooner 36 = .ok (.iaload, 1) := by decide +kernel
theorem d_M_isSooner_37 : decode b_M_isSooner 37 = .ok (.if_icmp .ge 7, 3) := by decide +kernel
theorem d_M_isSooner_40 : decode b_M_isSooner 40 = .ok (.iconst 1, 1) := by decide +kernel
theorem d_M_isSooner_41 : decode b_M_isSooner 41 = .ok (.goto 4, 3) := by decide +kernel
theorem d_M_isSooner_44 : decode b_M_isSooner 44 = .ok (.iconst 0, 1) := by decide +kernel
theorem d_M_isSooner_45 : decode b_M_isSooner 45 = .ok (.ireturn, 1) := by decide +kernel
theorem d_M_isSooner_46 : decode b_M_isSooner 46 = .ok (.iinc 1 1, 3) := by decide +kernel
theorem d_M_isSooner_49 : decode b_M_isSooner 49 = .ok (.goto (-47), 3) := by decide +kernel
theorem d_M_isSooner_52 : decode b_M_isSooner 52 = .ok (.iconst 0, 1) := by decide +kernel
theorem d_M_isSooner_53 : decode b_M_isSooner 53 = .ok (.ireturn, 1) := by decide +kernel
theorem d_M_worth_0 : decode b_M_worth 0 = .ok (.aload_n 0, 1) := by decide +kernel
theorem d_M_worth_1 : decode b_M_worth 1 = .ok (.iconst 0, 1) := by decide +kernel
theorem d_M_worth_2 : decode b_M_worth 2 = .ok (.putfield 80, 3) := by decide +kernel
theorem d_M_worth_5 : decode b_M_worth 5 = .ok (.aload_n 0, 1) := by decide +kernel
theorem d_M_worth_6 : decode b_M_worth 6 = .ok (.iload_n 1, 1) := by decide +kernel
theorem d_M_worth_7 : decode b_M_worth 7 = .ok (.invokevirtual 259, 3) := by decide +kernel
theorem d_M_worth_10 : decode b_M_worth 10 = .ok (.ifCond .eq 21, 3) := by decide +kernel
theorem d_M_worth_13 : decode b_M_worth 13 = .ok (.iload_n 2, 1) := by decide +kernel
theorem d_M_worth_14 : decode b_M_worth 14 = .ok (.iconst 0, 1) := by decide +kernel
theorem d_M_worth_15 : decode b_M_worth 15 = .ok (.iconst 1, 1) := by decide +kernel
theorem d_M_worth_16 : decode b_M_worth 16 = .ok (.invokestatic 88, 3) := by decide +kernel
theorem d_M_worth_19 : decode b_M_worth 19 = .ok (.ifCond .eq 12, 3) := by decide +kernel
theorem d_M_worth_22 : decode b_M_worth 22 = .ok (.aload_n 0, 1) := by decide +kernel
theorem d_M_worth_23 : decode b_M_worth 23 = .ok (.iload_n 2, 1) := by decide +kernel
theorem d_M_worth_24 : decode b_M_worth 24 = .ok (.iload_n 3, 1) := by decide +kernel
theorem d_M_worth_25 : decode b_M_worth 25 = .ok (.invokevirtual 420, 3) := by decide +kernel
theorem d_M_worth_28 : decode b_M_worth 28 = .ok (.goto 4, 3) := by decide +kernel
theorem d_M_worth_31 : decode b_M_worth 31 = .ok (.iconst (-1), 1) := by decide +kernel
theorem d_M_worth_32 : decode b_M_worth 32 = .ok (.ireturn, 1) := by decide +kernel
theorem d_M_worthOf_0 : decode b_M_worthOf 0 = .ok (.iconst 0, 1) := by decide +kernel
theorem d_M_worthOf_1 : decode b_M_worthOf 1 = .ok (.istore_n 3, 1) := by decide +kernel
theorem d_M_worthOf_2 : decode b_M_worthOf 2 = .ok (.iconst 0, 1) := by decide +kernel
theorem d_M_worthOf_3 : decode b_M_worthOf 3 = .ok (.istore 4, 2) := by decide +kernel
theorem d_M_worthOf_5 : decode b_M_worthOf 5 = .ok (.iload 4, 2) := by decide +kernel
theorem d_M_worthOf_7 : decode b_M_worthOf 7 = .ok (.aload_n 0, 1) := by decide +kernel
theorem d_M_worthOf_8 : decode b_M_worthOf 8 = .ok (.getfield 247, 3) := by decide +kernel
theorem d_M_worthOf_11 : decode b_M_worthOf 11 = .ok (.if_icmp .ge 32, 3) := by decide +kernel
theorem d_M_worthOf_14 : decode b_M_worthOf 14 = .ok (.iload_n 3, 1) := by decide +kernel
theorem d_M_worthOf_15 : decode b_M_worthOf 15 = .ok (.iload_n 2, 1) := by decide +kernel
theorem d_M_worthOf_16 : decode b_M_worthOf 16 = .ok (.iload 4, 2) := by decide +kernel
theorem d_M_worthOf_18 : decode b_M_worthOf 18 = .ok (.invokestatic 417, 3) := by decide +kernel
theorem d_M_worthOf_21 : decode b_M_worthOf 21 = .ok (.ifCond .eq 13, 3) := by decide +kernel
theorem d_M_worthOf_24 : decode b_M_worthOf 24 = .ok (.aload_n 0, 1) := by decide +kernel
theorem d_M_worthOf_25 : decode b_M_worthOf 25 = .ok (.iload_n 1, 1) := by decide +kernel
theorem d_M_worthOf_26 : decode b_M_worthOf 26 = .ok (.iload 4, 2) := by decide +kernel
theorem d_M_worthOf_28 : decode b_M_worthOf 28 = .ok (.invokevirtual 296, 3) := by decide +kernel
theorem d_M_worthOf_31 : decode b_M_worthOf 31 = .ok (.goto 4, 3) := by decide +kernel
theorem d_M_worthOf_34 : decode b_M_worthOf 34 = .ok (.iconst 0, 1) := by decide +kernel
theorem d_M_worthOf_35 : decode b_M_worthOf 35 = .ok (.iadd, 1) := by decide +kernel
theorem d_M_worthOf_36 : decode b_M_worthOf 36 = .ok (.istore_n 3, 1) := by decide +kernel
theorem d_M_worthOf_37 : decode b_M_worthOf 37 = .ok (.iinc 4 1, 3) := by decide +kernel
theorem d_M_worthOf_40 : decode b_M_worthOf 40 = .ok (.goto (-35), 3) := by decide +kernel
theorem d_M_worthOf_43 : decode b_M_worthOf 43 = .ok (.iload_n 3, 1) := by decide +kernel
theorem d_M_worthOf_44 : decode b_M_worthOf 44 = .ok (.ireturn, 1) := by decide +kernel
theorem d_M_has_0 : decode b_M_has 0 = .ok (.iload_n 0, 1) := by decide +kernel
theorem d_M_has_1 : decode b_M_has 1 = .ok (.iload_n 1, 1) := by decide +kernel
theorem d_M_has_2 : decode b_M_has 2 = .ok (.ishr, 1) := by decide +kernel
theorem d_M_has_3 : decode b_M_has 3 = .ok (.iconst 1, 1) := by decide +kernel
theorem d_M_has_4 : decode b_M_has 4 = .ok (.iand, 1) := by decide +kernel
theorem d_M_has_5 : decode b_M_has 5 = .ok (.iconst 1, 1) := by decide +kernel
theorem d_M_has_6 : decode b_M_has 6 = .ok (.if_icmp .ne 7, 3) := by decide +kernel
theorem d_M_has_9 : decode b_M_has 9 = .ok (.iconst 1, 1) := by decide +kernel
theorem d_M_has_10 : decode b_M_has 10 = .ok (.goto 4, 3) := by decide +kernel
theorem d_M_has_13 : decode b_M_has 13 = .ok (.iconst 0, 1) := by decide +kernel
theorem d_M_has_14 : decode b_M_has 14 = .ok (.ireturn, 1) := by decide +kernel
theorem d_M_cut_0 : decode b_M_cut 0 = .ok (.aload_n 0, 1) := by decide +kernel
theorem d_M_cut_1 : decode b_M_cut 1 = .ok (.iconst 0, 1) := by decide +kernel
theorem d_M_cut_2 : decode b_M_cut 2 = .ok (.putfield 80, 3) := by decide +kernel
theorem d_M_cut_5 : decode b_M_cut 5 = .ok (.aload_n 0, 1) := by decide +kernel
theorem d_M_cut_6 : decode b_M_cut 6 = .ok (.iload_n 1, 1) := by decide +kernel
theorem d_M_cut_7 : decode b_M_cut 7 = .ok (.invokevirtual 259, 3) := by decide +kernel
theorem d_M_cut_10 : decode b_M_cut 10 = .ok (.ifCond .eq 40, 3) := by decide +kernel
theorem d_M_cut_13 : decode b_M_cut 13 = .ok (.iload_n 2, 1) := by decide +kernel
theorem d_M_cut_14 : decode b_M_cut 14 = .ok (.iconst 0, 1) := by decide +kernel
theorem d_M_cut_15 : decode b_M_cut 15 = .ok (.iconst 2, 1) := by decide +kernel
theorem d_M_cut_16 : decode b_M_cut 16 = .ok (.invokestatic 88, 3) := by decide +kernel
theorem d_M_cut_19 : decode b_M_cut 19 = .ok (.ifCond .eq 31, 3) := by decide +kernel
theorem d_M_cut_22 : decode b_M_cut 22 = .ok (.iload_n 2, 1) := by decide +kernel
theorem d_M_cut_23 : decode b_M_cut 23 = .ok (.iconst 2, 1) := by decide +kernel
theorem d_M_cut_24 : decode b_M_cut 24 = .ok (.if_icmp .ge 12, 3) := by decide +kernel
theorem d_M_cut_27 : decode b_M_cut 27 = .ok (.iload_n 3, 1) := by decide +kernel
theorem d_M_cut_28 : decode b_M_cut 28 = .ok (.iconst 0, 1) := by decide +kernel
theorem d_M_cut_29 : decode b_M_cut 29 = .ok (.iconst 1, 1) := by decide +kernel
theorem d_M_cut_30 : decode b_M_cut 30 = .ok (.invokestatic 88, 3) := by decide +kernel
theorem d_M_cut_33 : decode b_M_cut 33 = .ok (.ifCond .eq 17, 3) := by decide +kernel
theorem d_M_cut_36 : decode b_M_cut 36 = .ok (.iload_n 2, 1) := by decide +kernel
theorem d_M_cut_37 : decode b_M_cut 37 = .ok (.iconst 2, 1) := by decide +kernel
theorem d_M_cut_38 : decode b_M_cut 38 = .ok (.if_icmp .ne 14, 3) := by decide +kernel
theorem d_M_cut_41 : decode b_M_cut 41 = .ok (.aload_n 0, 1) := by decide +kernel
theorem d_M_cut_42 : decode b_M_cut 42 = .ok (.getfield 247, 3) := by decide +kernel
theorem d_M_cut_45 : decode b_M_cut 45 = .ok (.bipush 14, 2) := by decide +kernel
theorem d_M_cut_47 : decode b_M_cut 47 = .ok (.if_icmp .le 5, 3) := by decide +kernel
theorem d_M_cut_50 : decode b_M_cut 50 = .ok (.iconst (-1), 1) := by decide +kernel
theorem d_M_cut_51 : decode b_M_cut 51 = .ok (.ireturn, 1) := by decide +kernel
theorem d_M_cut_52 : decode b_M_cut 52 = .ok (.aload_n 0, 1) := by decide +kernel
theorem d_M_cut_53 : decode b_M_cut 53 = .ok (.invokevirtual 374, 3) := by decide +kernel
theorem d_M_cut_56 : decode b_M_cut 56 = .ok (.iload_n 2, 1) := by decide +kernel
theorem d_M_cut_57 : decode b_M_cut 57 = .ok (.ifCond .ne 11, 3) := by decide +kernel
theorem d_M_cut_60 : decode b_M_cut 60 = .ok (.aload_n 0, 1) := by decide +kernel
theorem d_M_cut_61 : decode b_M_cut 61 = .ok (.iload_n 3, 1) := by decide +kernel
theorem d_M_cut_62 : decode b_M_cut 62 = .ok (.invokevirtual 428, 3) := by decide +kernel
theorem d_M_cut_65 : decode b_M_cut 65 = .ok (.goto 20, 3) := by decide +kernel
theorem d_M_cut_68 : decode b_M_cut 68 = .ok (.iload_n 2, 1) := by decide +kernel
theorem d_M_cut_69 : decode b_M_cut 69 = .ok (.iconst 1, 1) := by decide +kernel
theorem d_M_cut_70 : decode b_M_cut 70 = .ok (.if_icmp .ne 11, 3) := by decide +kernel
theorem d_M_cut_73 : decode b_M_cut 73 = .ok (.aload_n 0, 1) := by decide +kernel
theorem d_M_cut_74 : decode b_M_cut 74 = .ok (.iload_n 3, 1) := by decide +kernel
theorem d_M_cut_75 : decode b_M_cut 75 = .ok (.invokevirtual 431, 3) := by decide +kernel
theorem d_M_cut_78 : decode b_M_cut 78 = .ok (.goto 7, 3) := by decide +kernel
theorem d_M_cut_81 : decode b_M_cut 81 = .ok (.aload_n 0, 1) := by decide +kernel
theorem d_M_cut_82 : decode b_M_cut 82 = .ok (.invokevirtual 434, 3) := by decide +kernel
theorem d_M_cut_85 : decode b_M_cut 85 = .ok (.ireturn, 1) := by decide +kernel
theorem d_M_byTurns_0 : decode b_M_byTurns 0 = .ok (.aload_n 0, 1) := by decide +kernel
theorem d_M_byTurns_1 : decode b_M_byTurns 1 = .ok (.invokevirtual 423, 3) := by decide +kernel
theorem d_M_byTurns_4 : decode b_M_byTurns 4 = .ok (.istore_n 2, 1) := by decide +kernel
theorem d_M_byTurns_5 : decode b_M_byTurns 5 = .ok (.iconst 0, 1) := by decide +kernel
theorem d_M_byTurns_6 : decode b_M_byTurns 6 = .ok (.istore_n 3, 1) := by decide +kernel
theorem d_M_byTurns_7 : decode b_M_byTurns 7 = .ok (.iload_n 1, 1) := by decide +kernel
theorem d_M_byTurns_8 : decode b_M_byTurns 8 = .ok (.istore 4, 2) := by decide +kernel
theorem d_M_byTurns_10 : decode b_M_byTurns 10 = .ok (.iload_n 2, 1) := by decide +kernel
theorem d_M_byTurns_11 : decode b_M_byTurns 11 = .ok (.ifCond .eq 102, 3) := by decide +kernel
theorem d_M_byTurns_14 : decode b_M_byTurns 14 = .ok (.iconst (-1), 1) := by decide +kernel
theorem d_M_byTurns_15 : decode b_M_byTurns 15 = .ok (.istore 5, 2) := by decide +kernel
theorem d_M_byTurns_17 : decode b_M_byTurns 17 = .ok (.iconst 0, 1) := by decide +kernel
theorem d_M_byTurns_18 : decode b_M_byTurns 18 = .ok (.istore 6, 2) := by decide +kernel
theorem d_M_byTurns_20 : decode b_M_byTurns 20 = .ok (.iload 6, 2) := by decide +kernel
theorem d_M_byTurns_22 : decode b_M_byTurns 22 = .ok (.aload_n 0, 1) := by decide +kernel
theorem d_M_byTurns_23 : decode b_M_byTurns 23 = .ok (.getfield 247, 3) := by decide +kernel
theorem d_M_byTurns_26 : decode b_M_byTurns 26 = .ok (.if_icmp .ge 52, 3) := by decide +kernel
theorem d_M_byTurns_29 : decode b_M_byTurns 29 = .ok (.iload_n 2, 1) := by decide +kernel
theorem d_M_byTurns_30 : decode b_M_byTurns 30 = .ok (.iload 6, 2) := by decide +kernel
theorem d_M_byTurns_32 : decode b_M_byTurns 32 = .ok (.invokestatic 417, 3) := by decide +kernel
theorem d_M_byTurns_35 : decode b_M_byTurns 35 = .ok (.ifCond .eq 33, 3) := by decide +kernel
theorem d_M_byTurns_38 : decode b_M_byTurns 38 = .ok (.iload 5, 2) := by decide +kernel
theorem d_M_byTurns_40 : decode b_M_byTurns 40 = .ok (.iconst (-1), 1) := by decide +kernel
theorem d_M_byTurns_41 : decode b_M_byTurns 41 = .ok (.if_icmp .eq 22, 3) := by decide +kernel
theorem d_M_byTurns_44 : decode b_M_byTurns 44 = .ok (.aload_n 0, 1) := by decide +kernel
theorem d_M_byTurns_45 : decode b_M_byTurns 45 = .ok (.iload 4, 2) := by decide +kernel
theorem d_M_byTurns_47 : decode b_M_byTurns 47 = .ok (.iload 6, 2) := by decide +kernel
theorem d_M_byTurns_49 : decode b_M_byTurns 49 = .ok (.invokevirtual 296, 3) := by decide +kernel
theorem d_M_byTurns_52 : decode b_M_byTurns 52 = .ok (.aload_n 0, 1) := by decide +kernel
theorem d_M_byTurns_53 : decode b_M_byTurns 53 = .ok (.iload 4, 2) := by decide +kernel
theorem d_M_byTurns_55 : decode b_M_byTurns 55 = .ok (.iload 5, 2) := by decide +kernel
theorem d_M_byTurns_57 : decode b_M_byTurns 57 = .ok (.invokevirtual 296, 3) := by decide +kernel
theorem d_M_byTurns_60 : decode b_M_byTurns 60 = .ok (.if_icmp .le 8, 3) := by decide +kernel
theorem d_M_byTurns_63 : decode b_M_byTurns 63 = .ok (.iload 6, 2) := by decide +kernel
theorem d_M_byTurns_65 : decode b_M_byTurns 65 = .ok (.goto 5, 3) := by decide +kernel
theorem d_M_byTurns_68 : decode b_M_byTurns 68 = .ok (.iload 5, 2) := by decide +kernel
theorem d_M_byTurns_70 : decode b_M_byTurns 70 = .ok (.istore 5, 2) := by decide +kernel
theorem d_M_byTurns_72 : decode b_M_byTurns 72 = .ok (.iinc 6 1, 3) := by decide +kernel
theorem d_M_byTurns_75 : decode b_M_byTurns 75 = .ok (.goto (-55), 3) := by decide +kernel
theorem d_M_byTurns_78 : decode b_M_byTurns 78 = .ok (.iload_n 2, 1) := by decide +kernel
theorem d_M_byTurns_79 : decode b_M_byTurns 79 = .ok (.iconst 1, 1) := by decide +kernel
theorem d_M_byTurns_80 : decode b_M_byTurns 80 = .ok (.iload 5, 2) := by decide +kernel
theorem d_M_byTurns_82 : decode b_M_byTurns 82 = .ok (.ishl, 1) := by decide +kernel
theorem d_M_byTurns_83 : decode b_M_byTurns 83 = .ok (.iconst (-1), 1) := by decide +kernel
theorem d_M_byTurns_84 : decode b_M_byTurns 84 = .ok (.ixor, 1) := by decide +kernel
theorem d_M_byTurns_85 : decode b_M_byTurns 85 = .ok (.iand, 1) := by decide +kernel
theorem d_M_byTurns_86 : decode b_M_byTurns 86 = .ok (.istore_n 2, 1) := by decide +kernel
theorem d_M_byTurns_87 : decode b_M_byTurns 87 = .ok (.iload_n 3, 1) := by decide +kernel
theorem d_M_byTurns_88 : decode b_M_byTurns 88 = .ok (.iload 4, 2) := by decide +kernel
theorem d_M_byTurns_90 : decode b_M_byTurns 90 = .ok (.iconst 1, 1) := by decide +kernel
theorem d_M_byTurns_91 : decode b_M_byTurns 91 = .ok (.if_icmp .ne 10, 3) := by decide +kernel
theorem d_M_byTurns_94 : decode b_M_byTurns 94 = .ok (.iconst 1, 1) := by decide +kernel
theorem d_M_byTurns_95 : decode b_M_byTurns 95 = .ok (.iload 5, 2) := by decide +kernel
theorem d_M_byTurns_97 : decode b_M_byTurns 97 = .ok (.ishl, 1) := by decide +kernel
theorem d_M_byTurns_98 : decode b_M_byTurns 98 = .ok (.goto 4, 3) := by decide +kernel
theorem d_M_byTurns_101 : decode b_M_byTurns 101 = .ok (.iconst 0, 1) := by decide +kernel
theorem d_M_byTurns_102 : decode b_M_byTurns 102 = .ok (.ior, 1) := by decide +kernel
theorem d_M_byTurns_103 : decode b_M_byTurns 103 = .ok (.istore_n 3, 1) := by decide +kernel
theorem d_M_byTurns_104 : decode b_M_byTurns 104 = .ok (.iconst 1, 1) := by decide +kernel
theorem d_M_byTurns_105 : decode b_M_byTurns 105 = .ok (.iload 4, 2) := by decide +kernel
theorem d_M_byTurns_107 : decode b_M_byTurns 107 = .ok (.isub, 1) := by decide +kernel
theorem d_M_byTurns_108 : decode b_M_byTurns 108 = .ok (.istore 4, 2) := by decide +kernel
theorem d_M_byTurns_110 : decode b_M_byTurns 110 = .ok (.goto (-100), 3) := by decide +kernel
theorem d_M_byTurns_113 : decode b_M_byTurns 113 = .ok (.iload_n 3, 1) := by decide +kernel
theorem d_M_byTurns_114 : decode b_M_byTurns 114 = .ok (.ireturn, 1) := by decide +kernel
theorem d_M_allHours_0 : decode b_M_allHours 0 = .ok (.iconst 1, 1) := by decide +kernel
theorem d_M_allHours_1 : decode b_M_allHours 1 = .ok (.aload_n 0, 1) := by decide +kernel
theorem d_M_allHours_2 : decode b_M_allHours 2 = .ok (.getfield 247, 3) := by decide +kernel
theorem d_M_allHours_5 : decode b_M_allHours 5 = .ok (.ishl, 1) := by decide +kernel
theorem d_M_allHours_6 : decode b_M_allHours 6 = .ok (.iconst 1, 1) := by decide +kernel
theorem d_M_allHours_7 : decode b_M_allHours 7 = .ok (.isub, 1) := by decide +kernel
theorem d_M_allHours_8 : decode b_M_allHours 8 = .ok (.ireturn, 1) := by decide +kernel
theorem d_M_byKnife_0 : decode b_M_byKnife 0 = .ok (.iconst (-1), 1) := by decide +kernel
theorem d_M_byKnife_1 : decode b_M_byKnife 1 = .ok (.istore_n 2, 1) := by decide +kernel
theorem d_M_byKnife_2 : decode b_M_byKnife 2 = .ok (.ldc_w 289, 3) := by decide +kernel
theorem d_M_byKnife_5 : decode b_M_byKnife 5 = .ok (.istore_n 3, 1) := by decide +kernel
theorem d_M_byKnife_6 : decode b_M_byKnife 6 = .ok (.iconst 1, 1) := by decide +kernel
theorem d_M_byKnife_7 : decode b_M_byKnife 7 = .ok (.istore 4, 2) := by decide +kernel
theorem d_M_byKnife_9 : decode b_M_byKnife 9 = .ok (.iload 4, 2) := by decide +kernel
theorem d_M_byKnife_11 : decode b_M_byKnife 11 = .ok (.aload_n 0, 1) := by decide +kernel
theorem d_M_byKnife_12 : decode b_M_byKnife 12 = .ok (.getfield 247, 3) := by decide +kernel
theorem d_M_byKnife_15 : decode b_M_byKnife 15 = .ok (.if_icmp .ge 64, 3) := by decide +kernel
theorem d_M_byKnife_18 : decode b_M_byKnife 18 = .ok (.iconst 1, 1) := by decide +kernel
theorem d_M_byKnife_19 : decode b_M_byKnife 19 = .ok (.iload 4, 2) := by decide +kernel
theorem d_M_byKnife_21 : decode b_M_byKnife 21 = .ok (.ishl, 1) := by decide +kernel
theorem d_M_byKnife_22 : decode b_M_byKnife 22 = .ok (.iconst 1, 1) := by decide +kernel
theorem d_M_byKnife_23 : decode b_M_byKnife 23 = .ok (.isub, 1) := by decide +kernel
theorem d_M_byKnife_24 : decode b_M_byKnife 24 = .ok (.istore 5, 2) := by decide +kernel
theorem d_M_byKnife_26 : decode b_M_byKnife 26 = .ok (.aload_n 0, 1) := by decide +kernel
theorem d_M_byKnife_27 : decode b_M_byKnife 27 = .ok (.iload_n 1, 1) := by decide +kernel
theorem d_M_byKnife_28 : decode b_M_byKnife 28 = .ok (.iload 5, 2) := by decide +kernel
theorem d_M_byKnife_30 : decode b_M_byKnife 30 = .ok (.invokevirtual 420, 3) := by decide +kernel
theorem d_M_byKnife_33 : decode b_M_byKnife 33 = .ok (.aload_n 0, 1) := by decide +kernel
theorem d_M_byKnife_34 : decode b_M_byKnife 34 = .ok (.iload_n 1, 1) := by decide +kernel
theorem d_M_byKnife_35 : decode b_M_byKnife 35 = .ok (.aload_n 0, 1) := by decide +kernel
theorem d_M_byKnife_36 : decode b_M_byKnife 36 = .ok (.invokevirtual 423, 3) := by decide +kernel
theorem d_M_byKnife_39 : decode b_M_byKnife 39 = .ok (.iload 5, 2) := by decide +kernel
theorem d_M_byKnife_41 : decode b_M_byKnife 41 = .ok (.iconst (-1), 1) := by decide +kernel
theorem d_M_byKnife_42 : decode b_M_byKnife 42 = .ok (.ixor, 1) := by decide +kernel
theorem d_M_byKnife_43 : decode b_M_byKnife 43 = .ok (.iand, 1) := by decide +kernel
theorem d_M_byKnife_44 : decode b_M_byKnife 44 = .ok (.invokevirtual 420, 3) := by decide +kernel
theorem d_M_byKnife_47 : decode b_M_byKnife 47 = .ok (.isub, 1) := by decide +kernel
theorem d_M_byKnife_48 : decode b_M_byKnife 48 = .ok (.invokestatic 426, 3) := by decide +kernel
theorem d_M_byKnife_51 : decode b_M_byKnife 51 = .ok (.istore 6, 2) := by decide +kernel
theorem d_M_byKnife_53 : decode b_M_byKnife 53 = .ok (.iload 6, 2) := by decide +kernel
theorem d_M_byKnife_55 : decode b_M_byKnife 55 = .ok (.iload_n 3, 1) := by decide +kernel
theorem d_M_byKnife_56 : decode b_M_byKnife 56 = .ok (.if_icmp .ge 8, 3) := by decide +kernel
theorem d_M_byKnife_59 : decode b_M_byKnife 59 = .ok (.iload 4, 2) := by decide +kernel
theorem d_M_byKnife_61 : decode b_M_byKnife 61 = .ok (.goto 4, 3) := by decide +kernel
theorem d_M_byKnife_64 : decode b_M_byKnife 64 = .ok (.iload_n 2, 1) := by decide +kernel
theorem d_M_byKnife_65 : decode b_M_byKnife 65 = .ok (.istore_n 2, 1) := by decide +kernel
theorem d_M_byKnife_66 : decode b_M_byKnife 66 = .ok (.iload_n 3, 1) := by decide +kernel
theorem d_M_byKnife_67 : decode b_M_byKnife 67 = .ok (.iload 6, 2) := by decide +kernel
theorem d_M_byKnife_69 : decode b_M_byKnife 69 = .ok (.invokestatic 290, 3) := by decide +kernel
theorem d_M_byKnife_72 : decode b_M_byKnife 72 = .ok (.istore_n 3, 1) := by decide +kernel
theorem d_M_byKnife_73 : decode b_M_byKnife 73 = .ok (.iinc 4 1, 3) := by decide +kernel
theorem d_M_byKnife_76 : decode b_M_byKnife 76 = .ok (.goto (-67), 3) := by decide +kernel
theorem d_M_byKnife_79 : decode b_M_byKnife 79 = .ok (.iconst 1, 1) := by decide +kernel
theorem d_M_byKnife_80 : decode b_M_byKnife 80 = .ok (.iload_n 2, 1) := by decide +kernel
theorem d_M_byKnife_81 : decode b_M_byKnife 81 = .ok (.ishl, 1) := by decide +kernel
theorem d_M_byKnife_82 : decode b_M_byKnife 82 = .ok (.iconst 1, 1) := by decide +kernel
theorem d_M_byKnife_83 : decode b_M_byKnife 83 = .ok (.isub, 1) := by decide +kernel
theorem d_M_byKnife_84 : decode b_M_byKnife 84 = .ok (.istore 4, 2) := by decide +kernel
theorem d_M_byKnife_86 : decode b_M_byKnife 86 = .ok (.aload_n 0, 1) := by decide +kernel
theorem d_M_byKnife_87 : decode b_M_byKnife 87 = .ok (.invokevirtual 423, 3) := by decide +kernel
theorem d_M_byKnife_90 : decode b_M_byKnife 90 = .ok (.iload 4, 2) := by decide +kernel
theorem d_M_byKnife_92 : decode b_M_byKnife 92 = .ok (.iconst (-1), 1) := by decide +kernel
theorem d_M_byKnife_93 : decode b_M_byKnife 93 = .ok (.ixor, 1) := by decide +kernel
theorem d_M_byKnife_94 : decode b_M_byKnife 94 = .ok (.iand, 1) := by decide +kernel
theorem d_M_byKnife_95 : decode b_M_byKnife 95 = .ok (.istore 5, 2) := by decide +kernel
theorem d_M_byKnife_97 : decode b_M_byKnife 97 = .ok (.aload_n 0, 1) := by decide +kernel
theorem d_M_byKnife_98 : decode b_M_byKnife 98 = .ok (.iconst 1, 1) := by decide +kernel
theorem d_M_byKnife_99 : decode b_M_byKnife 99 = .ok (.iload_n 1, 1) := by decide +kernel
theorem d_M_byKnife_100 : decode b_M_byKnife 100 = .ok (.isub, 1) := by decide +kernel
theorem d_M_byKnife_101 : decode b_M_byKnife 101 = .ok (.iload 4, 2) := by decide +kernel
theorem d_M_byKnife_103 : decode b_M_byKnife 103 = .ok (.invokevirtual 420, 3) := by decide +kernel
theorem d_M_byKnife_106 : decode b_M_byKnife 106 = .ok (.aload_n 0, 1) := by decide +kernel
theorem d_M_byKnife_107 : decode b_M_byKnife 107 = .ok (.iconst 1, 1) := by decide +kernel
theorem d_M_byKnife_108 : decode b_M_byKnife 108 = .ok (.iload_n 1, 1) := by decide +kernel
theorem d_M_byKnife_109 : decode b_M_byKnife 109 = .ok (.isub, 1) := by decide +kernel
theorem d_M_byKnife_110 : decode b_M_byKnife 110 = .ok (.iload 5, 2) := by decide +kernel
theorem d_M_byKnife_112 : decode b_M_byKnife 112 = .ok (.invokevirtual 420, 3) := by decide +kernel
theorem d_M_byKnife_115 : decode b_M_byKnife 115 = .ok (.if_icmp .lt 7, 3) := by decide +kernel
theorem d_M_byKnife_118 : decode b_M_byKnife 118 = .ok (.iconst 1, 1) := by decide +kernel
theorem d_M_byKnife_119 : decode b_M_byKnife 119 = .ok (.goto 4, 3) := by decide +kernel
theorem d_M_byKnife_122 : decode b_M_byKnife 122 = .ok (.iconst 0, 1) := by decide +kernel
theorem d_M_byKnife_123 : decode b_M_byKnife 123 = .ok (.istore 6, 2) := by decide +kernel
theorem d_M_byKnife_125 : decode b_M_byKnife 125 = .ok (.iload 6, 2) := by decide +kernel
theorem d_M_byKnife_127 : decode b_M_byKnife 127 = .ok (.iload_n 1, 1) := by decide +kernel
theorem d_M_byKnife_128 : decode b_M_byKnife 128 = .ok (.ifCond .ne 7, 3) := by decide +kernel
theorem d_M_byKnife_131 : decode b_M_byKnife 131 = .ok (.iconst 1, 1) := by decide +kernel
theorem d_M_byKnife_132 : decode b_M_byKnife 132 = .ok (.goto 4, 3) := by decide +kernel
theorem d_M_byKnife_135 : decode b_M_byKnife 135 = .ok (.iconst 0, 1) := by decide +kernel
theorem d_M_byKnife_136 : decode b_M_byKnife 136 = .ok (.if_icmp .ne 8, 3) := by decide +kernel
theorem d_M_byKnife_139 : decode b_M_byKnife 139 = .ok (.iload 4, 2) := by decide +kernel
theorem d_M_byKnife_141 : decode b_M_byKnife 141 = .ok (.goto 5, 3) := by decide +kernel
theorem d_M_byKnife_144 : decode b_M_byKnife 144 = .ok (.iload 5, 2) := by decide +kernel
theorem d_M_byKnife_146 : decode b_M_byKnife 146 = .ok (.ireturn, 1) := by decide +kernel
theorem d_M_size_0 : decode b_M_size 0 = .ok (.iload_n 0, 1) := by decide +kernel
theorem d_M_size_1 : decode b_M_size 1 = .ok (.ifCond .ge 8, 3) := by decide +kernel
theorem d_M_size_4 : decode b_M_size 4 = .ok (.iload_n 0, 1) := by decide +kernel
theorem d_M_size_5 : decode b_M_size 5 = .ok (.ineg, 1) := by decide +kernel
theorem d_M_size_6 : decode b_M_size 6 = .ok (.goto 4, 3) := by decide +kernel
theorem d_M_size_9 : decode b_M_size 9 = .ok (.iload_n 0, 1) := by decide +kernel
theorem d_M_size_10 : decode b_M_size 10 = .ok (.ireturn, 1) := by decide +kernel
theorem d_M_evenly_0 : decode b_M_evenly 0 = .ok (.iconst (-1), 1) := by decide +kernel
theorem d_M_evenly_1 : decode b_M_evenly 1 = .ok (.istore_n 1, 1) := by decide +kernel
theorem d_M_evenly_2 : decode b_M_evenly 2 = .ok (.iconst (-1), 1) := by decide +kernel
theorem d_M_evenly_3 : decode b_M_evenly 3 = .ok (.istore_n 2, 1) := by decide +kernel
theorem d_M_evenly_4 : decode b_M_evenly 4 = .ok (.iconst 0, 1) := by decide +kernel
theorem d_M_evenly_5 : decode b_M_evenly 5 = .ok (.istore_n 3, 1) := by decide +kernel
theorem d_M_evenly_6 : decode b_M_evenly 6 = .ok (.iload_n 3, 1) := by decide +kernel
theorem d_M_evenly_7 : decode b_M_evenly 7 = .ok (.aload_n 0, 1) := by decide +kernel
theorem d_M_evenly_8 : decode b_M_evenly 8 = .ok (.invokevirtual 423, 3) := by decide +kernel
theorem d_M_evenly_11 : decode b_M_evenly 11 = .ok (.if_icmp .gt 115, 3) := by decide +kernel
theorem d_M_evenly_14 : decode b_M_evenly 14 = .ok (.iconst 0, 1) := by decide +kernel
theorem d_M_evenly_15 : decode b_M_evenly 15 = .ok (.istore 4, 2) := by decide +kernel
theorem d_M_evenly_17 : decode b_M_evenly 17 = .ok (.iconst 0, 1) := by decide +kernel
theorem d_M_evenly_18 : decode b_M_evenly 18 = .ok (.istore 5, 2) := by decide +kernel
theorem d_M_evenly_20 : decode b_M_evenly 20 = .ok (.iconst 0, 1) := by decide +kernel
theorem d_M_evenly_21 : decode b_M_evenly 21 = .ok (.istore 6, 2) := by decide +kernel
theorem d_M_evenly_23 : decode b_M_evenly 23 = .ok (.iload 6, 2) := by decide +kernel
theorem d_M_evenly_25 : decode b_M_evenly 25 = .ok (.aload_n 0, 1) := by decide +kernel
theorem d_M_evenly_26 : decode b_M_evenly 26 = .ok (.getfield 247, 3) := by decide +kernel
theorem d_M_evenly_29 : decode b_M_evenly 29 = .ok (.if_icmp .ge 62, 3) := by decide +kernel
theorem d_M_evenly_32 : decode b_M_evenly 32 = .ok (.iload 4, 2) := by decide +kernel
theorem d_M_evenly_34 : decode b_M_evenly 34 = .ok (.iload_n 3, 1) := by decide +kernel
theorem d_M_evenly_35 : decode b_M_evenly 35 = .ok (.iload 6, 2) := by decide +kernel
theorem d_M_evenly_37 : decode b_M_evenly 37 = .ok (.invokestatic 417, 3) := by decide +kernel
theorem d_M_evenly_40 : decode b_M_evenly 40 = .ok (.ifCond .eq 16, 3) := by decide +kernel
theorem d_M_evenly_43 : decode b_M_evenly 43 = .ok (.aload_n 0, 1) := by decide +kernel
theorem d_M_evenly_44 : decode b_M_evenly 44 = .ok (.getfield 64, 3) := by decide +kernel
theorem d_M_evenly_47 : decode b_M_evenly 47 = .ok (.bipush 24, 2) := by decide +kernel
theorem d_M_evenly_49 : decode b_M_evenly 49 = .ok (.iload 6, 2) := by decide +kernel
theorem d_M_evenly_51 : decode b_M_evenly 51 = .ok (.iadd, 1) := by decide +kernel
theorem d_M_evenly_52 : decode b_M_evenly 52 = .ok (.iaload, 1) := by decide +kernel
theorem d_M_evenly_53 : decode b_M_evenly 53 = .ok (.goto 4, 3) := by decide +kernel
theorem d_M_evenly_56 : decode b_M_evenly 56 = .ok (.iconst 0, 1) := by decide +kernel
theorem d_M_evenly_57 : decode b_M_evenly 57 = .ok (.iadd, 1) := by decide +kernel
theorem d_M_evenly_58 : decode b_M_evenly 58 = .ok (.istore 4, 2) := by decide +kernel
theorem d_M_evenly_60 : decode b_M_evenly 60 = .ok (.iload 5, 2) := by decide +kernel
theorem d_M_evenly_62 : decode b_M_evenly 62 = .ok (.iload_n 3, 1) := by decide +kernel
theorem d_M_evenly_63 : decode b_M_evenly 63 = .ok (.iload 6, 2) := by decide +kernel
theorem d_M_evenly_65 : decode b_M_evenly 65 = .ok (.invokestatic 417, 3) := by decide +kernel
theorem d_M_evenly_68 : decode b_M_evenly 68 = .ok (.ifCond .eq 7, 3) := by decide +kernel
theorem d_M_evenly_71 : decode b_M_evenly 71 = .ok (.iconst 0, 1) := by decide +kernel
theorem d_M_evenly_72 : decode b_M_evenly 72 = .ok (.goto 10, 3) := by decide +kernel
theorem d_M_evenly_75 : decode b_M_evenly 75 = .ok (.aload_n 0, 1) := by decide +kernel
theorem d_M_evenly_76 : decode b_M_evenly 76 = .ok (.getfield 64, 3) := by decide +kernel
theorem d_M_evenly_79 : decode b_M_evenly 79 = .ok (.iload 6, 2) := by decide +kernel
theorem d_M_evenly_81 : decode b_M_evenly 81 = .ok (.iaload, 1) := by decide +kernel
theorem d_M_evenly_82 : decode b_M_evenly 82 = .ok (.iadd, 1) := by decide +kernel
theorem d_M_evenly_83 : decode b_M_evenly 83 = .ok (.istore 5, 2) := by decide +kernel
theorem d_M_evenly_85 : decode b_M_evenly 85 = .ok (.iinc 6 1, 3) := by decide +kernel
theorem d_M_evenly_88 : decode b_M_evenly 88 = .ok (.goto (-65), 3) := by decide +kernel
theorem d_M_evenly_91 : decode b_M_evenly 91 = .ok (.iload 4, 2) := by decide +kernel
theorem d_M_evenly_93 : decode b_M_evenly 93 = .ok (.iload 5, 2) := by decide +kernel
theorem d_M_evenly_95 : decode b_M_evenly 95 = .ok (.invokestatic 290, 3) := by decide +kernel
theorem d_M_evenly_98 : decode b_M_evenly 98 = .ok (.iload_n 2, 1) := by decide +kernel
theorem d_M_evenly_99 : decode b_M_evenly 99 = .ok (.if_icmp .le 7, 3) := by decide +kernel
theorem d_M_evenly_102 : decode b_M_evenly 102 = .ok (.iload_n 3, 1) := by decide +kernel
theorem d_M_evenly_103 : decode b_M_evenly 103 = .ok (.goto 4, 3) := by decide +kernel
theorem d_M_evenly_106 : decode b_M_evenly 106 = .ok (.iload_n 1, 1) := by decide +kernel
theorem d_M_evenly_107 : decode b_M_evenly 107 = .ok (.istore_n 1, 1) := by decide +kernel
theorem d_M_evenly_108 : decode b_M_evenly 108 = .ok (.iload_n 2, 1) := by decide +kernel
theorem d_M_evenly_109 : decode b_M_evenly 109 = .ok (.iload 4, 2) := by decide +kernel
theorem d_M_evenly_111 : decode b_M_evenly 111 = .ok (.iload 5, 2) := by decide +kernel
theorem d_M_evenly_113 : decode b_M_evenly 113 = .ok (.invokestatic 290, 3) := by decide +kernel
theorem d_M_evenly_116 : decode b_M_evenly 116 = .ok (.invokestatic 149, 3) := by decide +kernel
theorem d_M_evenly_119 : decode b_M_evenly 119 = .ok (.istore_n 2, 1) := by decide +kernel
theorem d_M_evenly_120 : decode b_M_evenly 120 = .ok (.iinc 3 1, 3) := by decide +kernel
theorem d_M_evenly_123 : decode b_M_evenly 123 = .ok (.goto (-117), 3) := by decide +kernel
theorem d_M_evenly_126 : decode b_M_evenly 126 = .ok (.iload_n 1, 1) := by decide +kernel
theorem d_M_evenly_127 : decode b_M_evenly 127 = .ok (.ireturn, 1) := by decide +kernel
theorem d_M_envy_0 : decode b_M_envy 0 = .ok (.aload_n 0, 1) := by decide +kernel
theorem d_M_envy_1 : decode b_M_envy 1 = .ok (.iconst 0, 1) := by decide +kernel
theorem d_M_envy_2 : decode b_M_envy 2 = .ok (.putfield 80, 3) := by decide +kernel
theorem d_M_envy_5 : decode b_M_envy 5 = .ok (.aload_n 0, 1) := by decide +kernel
theorem d_M_envy_6 : decode b_M_envy 6 = .ok (.iload_n 1, 1) := by decide +kernel
theorem d_M_envy_7 : decode b_M_envy 7 = .ok (.invokevirtual 259, 3) := by decide +kernel
theorem d_M_envy_10 : decode b_M_envy 10 = .ok (.ifCond .eq 12, 3) := by decide +kernel
theorem d_M_envy_13 : decode b_M_envy 13 = .ok (.iload_n 2, 1) := by decide +kernel
theorem d_M_envy_14 : decode b_M_envy 14 = .ok (.iconst 0, 1) := by decide +kernel
theorem d_M_envy_15 : decode b_M_envy 15 = .ok (.iconst 1, 1) := by decide +kernel
theorem d_M_envy_16 : decode b_M_envy 16 = .ok (.invokestatic 88, 3) := by decide +kernel
theorem d_M_envy_19 : decode b_M_envy 19 = .ok (.ifCond .ne 5, 3) := by decide +kernel
theorem d_M_envy_22 : decode b_M_envy 22 = .ok (.iconst (-1), 1) := by decide +kernel
theorem d_M_envy_23 : decode b_M_envy 23 = .ok (.ireturn, 1) := by decide +kernel
theorem d_M_envy_24 : decode b_M_envy 24 = .ok (.iload_n 2, 1) := by decide +kernel
theorem d_M_envy_25 : decode b_M_envy 25 = .ok (.iconst 1, 1) := by decide +kernel
theorem d_M_envy_26 : decode b_M_envy 26 = .ok (.if_icmp .ne 7, 3) := by decide +kernel
theorem d_M_envy_29 : decode b_M_envy 29 = .ok (.iload_n 3, 1) := by decide +kernel
theorem d_M_envy_30 : decode b_M_envy 30 = .ok (.goto 6, 3) := by decide +kernel
theorem d_M_envy_33 : decode b_M_envy 33 = .ok (.iload_n 3, 1) := by decide +kernel
theorem d_M_envy_34 : decode b_M_envy 34 = .ok (.iconst (-1), 1) := by decide +kernel
theorem d_M_envy_35 : decode b_M_envy 35 = .ok (.ixor, 1) := by decide +kernel
theorem d_M_envy_36 : decode b_M_envy 36 = .ok (.istore 4, 2) := by decide +kernel
theorem d_M_envy_38 : decode b_M_envy 38 = .ok (.iconst 0, 1) := by decide +kernel
theorem d_M_envy_39 : decode b_M_envy 39 = .ok (.aload_n 0, 1) := by decide +kernel
theorem d_M_envy_40 : decode b_M_envy 40 = .ok (.iload_n 2, 1) := by decide +kernel
theorem d_M_envy_41 : decode b_M_envy 41 = .ok (.iload 4, 2) := by decide +kernel
theorem d_M_envy_43 : decode b_M_envy 43 = .ok (.iconst (-1), 1) := by decide +kernel
theorem d_M_envy_44 : decode b_M_envy 44 = .ok (.ixor, 1) := by decide +kernel
theorem d_M_envy_45 : decode b_M_envy 45 = .ok (.invokevirtual 420, 3) := by decide +kernel
theorem d_M_envy_48 : decode b_M_envy 48 = .ok (.aload_n 0, 1) := by decide +kernel
theorem d_M_envy_49 : decode b_M_envy 49 = .ok (.iload_n 2, 1) := by decide +kernel
theorem d_M_envy_50 : decode b_M_envy 50 = .ok (.iload 4, 2) := by decide +kernel
theorem d_M_envy_52 : decode b_M_envy 52 = .ok (.invokevirtual 420, 3) := by decide +kernel
theorem d_M_envy_55 : decode b_M_envy 55 = .ok (.isub, 1) := by decide +kernel
theorem d_M_envy_56 : decode b_M_envy 56 = .ok (.invokestatic 149, 3) := by decide +kernel
theorem d_M_envy_59 : decode b_M_envy 59 = .ok (.ireturn, 1) := by decide +kernel
theorem d_M_gain_0 : decode b_M_gain 0 = .ok (.aload_n 0, 1) := by decide +kernel
theorem d_M_gain_1 : decode b_M_gain 1 = .ok (.iconst 0, 1) := by decide +kernel
theorem d_M_gain_2 : decode b_M_gain 2 = .ok (.putfield 80, 3) := by decide +kernel
theorem d_M_gain_5 : decode b_M_gain 5 = .ok (.aload_n 0, 1) := by decide +kernel
theorem d_M_gain_6 : decode b_M_gain 6 = .ok (.iload_n 1, 1) := by decide +kernel
theorem d_M_gain_7 : decode b_M_gain 7 = .ok (.iload_n 2, 1) := by decide +kernel
theorem d_M_gain_8 : decode b_M_gain 8 = .ok (.invokevirtual 293, 3) := by decide +kernel
theorem d_M_gain_11 : decode b_M_gain 11 = .ok (.ifCond .eq 35, 3) := by decide +kernel
theorem d_M_gain_14 : decode b_M_gain 14 = .ok (.aload_n 0, 1) := by decide +kernel
theorem d_M_gain_15 : decode b_M_gain 15 = .ok (.iload_n 3, 1) := by decide +kernel
theorem d_M_gain_16 : decode b_M_gain 16 = .ok (.invokevirtual 262, 3) := by decide +kernel
theorem d_M_gain_19 : decode b_M_gain 19 = .ok (.ifCond .eq 27, 3) := by decide +kernel
theorem d_M_gain_22 : decode b_M_gain 22 = .ok (.iload 4, 2) := by decide +kernel
theorem d_M_gain_24 : decode b_M_gain 24 = .ok (.iconst 0, 1) := by decide +kernel
theorem d_M_gain_25 : decode b_M_gain 25 = .ok (.iconst 1, 1) := by decide +kernel
theorem d_M_gain_26 : decode b_M_gain 26 = .ok (.invokestatic 88, 3) := by decide +kernel
theorem d_M_gain_29 : decode b_M_gain 29 = .ok (.ifCond .eq 17, 3) := by decide +kernel
theorem d_M_gain_32 : decode b_M_gain 32 = .ok (.aload_n 0, 1) := by decide +kernel
theorem d_M_gain_33 : decode b_M_gain 33 = .ok (.iload_n 3, 1) := by decide +kernel
theorem d_M_gain_34 : decode b_M_gain 34 = .ok (.iload 4, 2) := by decide +kernel
theorem d_M_gain_36 : decode b_M_gain 36 = .ok (.aload_n 0, 1) := by decide +kernel
theorem d_M_gain_37 : decode b_M_gain 37 = .ok (.invokevirtual 440, 3) := by decide +kernel
theorem d_M_gain_40 : decode b_M_gain 40 = .ok (.invokevirtual 443, 3) := by decide +kernel
theorem d_M_gain_43 : decode b_M_gain 43 = .ok (.goto 6, 3) := by decide +kernel
theorem d_M_gain_46 : decode b_M_gain 46 = .ok (.sipush (-1000), 3) := by decide +kernel
theorem d_M_gain_49 : decode b_M_gain 49 = .ok (.ireturn, 1) := by decide +kernel
theorem d_M_asTold_0 : decode b_M_asTold 0 = .ok (.iconst 0, 1) := by decide +kernel
theorem d_M_asTold_1 : decode b_M_asTold 1 = .ok (.istore_n 1, 1) := by decide +kernel
theorem d_M_asTold_2 : decode b_M_asTold 2 = .ok (.iconst 0, 1) := by decide +kernel
theorem d_M_asTold_3 : decode b_M_asTold 3 = .ok (.istore_n 2, 1) := by decide +kernel
theorem d_M_asTold_4 : decode b_M_asTold 4 = .ok (.iload_n 2, 1) := by decide +kernel
theorem d_M_asTold_5 : decode b_M_asTold 5 = .ok (.aload_n 0, 1) := by decide +kernel
theorem d_M_asTold_6 : decode b_M_asTold 6 = .ok (.getfield 253, 3) := by decide +kernel
theorem d_M_asTold_9 : decode b_M_asTold 9 = .ok (.if_icmp .ge 29, 3) := by decide +kernel
theorem d_M_asTold_12 : decode b_M_asTold 12 = .ok (.iload_n 1, 1) := by decide +kernel
theorem d_M_asTold_13 : decode b_M_asTold 13 = .ok (.aload_n 0, 1) := by decide +kernel
theorem d_M_asTold_14 : decode b_M_asTold 14 = .ok (.iload_n 2, 1) := by decide +kernel
theorem d_M_asTold_15 : decode b_M_asTold 15 = .ok (.iconst 0, 1) := by decide +kernel
theorem d_M_asTold_16 : decode b_M_asTold 16 = .ok (.invokevirtual 244, 3) := by decide +kernel
theorem d_M_asTold_19 : decode b_M_asTold 19 = .ok (.iconst 1, 1) := by decide +kernel
theorem d_M_asTold_20 : decode b_M_asTold 20 = .ok (.if_icmp .ne 9, 3) := by decide +kernel
theorem d_M_asTold_23 : decode b_M_asTold 23 = .ok (.iconst 1, 1) := by decide +kernel
theorem d_M_asTold_24 : decode b_M_asTold 24 = .ok (.iload_n 2, 1) := by decide +kernel
theorem d_M_asTold_25 : decode b_M_asTold 25 = .ok (.ishl, 1) := by decide +kernel
theorem d_M_asTold_26 : decode b_M_asTold 26 = .ok (.goto 4, 3) := by decide +kernel
theorem d_M_asTold_29 : decode b_M_asTold 29 = .ok (.iconst 0, 1) := by decide +kernel
theorem d_M_asTold_30 : decode b_M_asTold 30 = .ok (.ior, 1) := by decide +kernel
theorem d_M_asTold_31 : decode b_M_asTold 31 = .ok (.istore_n 1, 1) := by decide +kernel
theorem d_M_asTold_32 : decode b_M_asTold 32 = .ok (.iinc 2 1, 3) := by decide +kernel
theorem d_M_asTold_35 : decode b_M_asTold 35 = .ok (.goto (-31), 3) := by decide +kernel
theorem d_M_asTold_38 : decode b_M_asTold 38 = .ok (.iload_n 1, 1) := by decide +kernel
theorem d_M_asTold_39 : decode b_M_asTold 39 = .ok (.ireturn, 1) := by decide +kernel
theorem d_M_gainOf_0 : decode b_M_gainOf 0 = .ok (.aload_n 0, 1) := by decide +kernel
theorem d_M_gainOf_1 : decode b_M_gainOf 1 = .ok (.iconst 2, 1) := by decide +kernel
theorem d_M_gainOf_2 : decode b_M_gainOf 2 = .ok (.invokevirtual 240, 3) := by decide +kernel
theorem d_M_gainOf_5 : decode b_M_gainOf 5 = .ok (.ineg, 1) := by decide +kernel
theorem d_M_gainOf_6 : decode b_M_gainOf 6 = .ok (.aload_n 0, 1) := by decide +kernel
theorem d_M_gainOf_7 : decode b_M_gainOf 7 = .ok (.iload_n 2, 1) := by decide +kernel
theorem d_M_gainOf_8 : decode b_M_gainOf 8 = .ok (.iload_n 3, 1) := by decide +kernel
theorem d_M_gainOf_9 : decode b_M_gainOf 9 = .ok (.iload_n 1, 1) := by decide +kernel
theorem d_M_gainOf_10 : decode b_M_gainOf 10 = .ok (.invokevirtual 437, 3) := by decide +kernel
theorem d_M_gainOf_13 : decode b_M_gainOf 13 = .ok (.imul, 1) := by decide +kernel
theorem d_M_gainOf_14 : decode b_M_gainOf 14 = .ok (.istore 4, 2) := by decide +kernel
theorem d_M_gainOf_16 : decode b_M_gainOf 16 = .ok (.iconst 0, 1) := by decide +kernel
theorem d_M_gainOf_17 : decode b_M_gainOf 17 = .ok (.istore 5, 2) := by decide +kernel
theorem d_M_gainOf_19 : decode b_M_gainOf 19 = .ok (.iload 5, 2) := by decide +kernel
theorem d_M_gainOf_21 : decode b_M_gainOf 21 = .ok (.aload_n 0, 1) := by decide +kernel
theorem d_M_gainOf_22 : decode b_M_gainOf 22 = .ok (.getfield 247, 3) := by decide +kernel
theorem d_M_gainOf_25 : decode b_M_gainOf 25 = .ok (.if_icmp .ge 36, 3) := by decide +kernel
theorem d_M_gainOf_28 : decode b_M_gainOf 28 = .ok (.iload 4, 2) := by decide +kernel
theorem d_M_gainOf_30 : decode b_M_gainOf 30 = .ok (.aload_n 0, 1) := by decide +kernel
theorem d_M_gainOf_31 : decode b_M_gainOf 31 = .ok (.getfield 47, 3) := by decide +kernel
theorem d_M_gainOf_34 : decode b_M_gainOf 34 = .ok (.iload 5, 2) := by decide +kernel
theorem d_M_gainOf_36 : decode b_M_gainOf 36 = .ok (.iaload, 1) := by decide +kernel
theorem d_M_gainOf_37 : decode b_M_gainOf 37 = .ok (.iload_n 2, 1) := by decide +kernel
theorem d_M_gainOf_38 : decode b_M_gainOf 38 = .ok (.if_icmp .ne 13, 3) := by decide +kernel
theorem d_M_gainOf_41 : decode b_M_gainOf 41 = .ok (.aload_n 0, 1) := by decide +kernel
theorem d_M_gainOf_42 : decode b_M_gainOf 42 = .ok (.iload_n 1, 1) := by decide +kernel
theorem d_M_gainOf_43 : decode b_M_gainOf 43 = .ok (.iload 5, 2) := by decide +kernel
theorem d_M_gainOf_45 : decode b_M_gainOf 45 = .ok (.invokevirtual 265, 3) := by decide +kernel
theorem d_M_gainOf_48 : decode b_M_gainOf 48 = .ok (.goto 4, 3) := by decide +kernel
theorem d_M_gainOf_51 : decode b_M_gainOf 51 = .ok (.iconst 0, 1) := by decide +kernel
theorem d_M_gainOf_52 : decode b_M_gainOf 52 = .ok (.iadd, 1) := by decide +kernel
theorem d_M_gainOf_53 : decode b_M_gainOf 53 = .ok (.istore 4, 2) := by decide +kernel
theorem d_M_gainOf_55 : decode b_M_gainOf 55 = .ok (.iinc 5 1, 3) := by decide +kernel
theorem d_M_gainOf_58 : decode b_M_gainOf 58 = .ok (.goto (-39), 3) := by decide +kernel
theorem d_M_gainOf_61 : decode b_M_gainOf 61 = .ok (.iload 4, 2) := by decide +kernel
theorem d_M_gainOf_63 : decode b_M_gainOf 63 = .ok (.ireturn, 1) := by decide +kernel
theorem d_M_livingIn_0 : decode b_M_livingIn 0 = .ok (.iconst 0, 1) := by decide +kernel
theorem d_M_livingIn_1 : decode b_M_livingIn 1 = .ok (.istore 4, 2) := by decide +kernel
theorem d_M_livingIn_3 : decode b_M_livingIn 3 = .ok (.iconst 0, 1) := by decide +kernel
theorem d_M_livingIn_4 : decode b_M_livingIn 4 = .ok (.istore 5, 2) := by decide +kernel
theorem d_M_livingIn_6 : decode b_M_livingIn 6 = .ok (.iload 5, 2) := by decide +kernel
theorem d_M_livingIn_8 : decode b_M_livingIn 8 = .ok (.aload_n 0, 1) := by decide +kernel
theorem d_M_livingIn_9 : decode b_M_livingIn 9 = .ok (.getfield 253, 3) := by decide +kernel
theorem d_M_livingIn_12 : decode b_M_livingIn 12 = .ok (.if_icmp .ge 43, 3) := by decide +kernel
theorem d_M_livingIn_15 : decode b_M_livingIn 15 = .ok (.iload 4, 2) := by decide +kernel
theorem d_M_livingIn_17 : decode b_M_livingIn 17 = .ok (.iload 5, 2) := by decide +kernel
theorem d_M_livingIn_19 : decode b_M_livingIn 19 = .ok (.iload_n 3, 1) := by decide +kernel
theorem d_M_livingIn_20 : decode b_M_livingIn 20 = .ok (.if_icmp .eq 25, 3) := by decide +kernel
theorem d_M_livingIn_23 : decode b_M_livingIn 23 = .ok (.iload_n 2, 1) := by decide +kernel
theorem d_M_livingIn_24 : decode b_M_livingIn 24 = .ok (.iload 5, 2) := by decide +kernel
theorem d_M_livingIn_26 : decode b_M_livingIn 26 = .ok (.invokestatic 417, 3) := by decide +kernel
theorem d_M_livingIn_29 : decode b_M_livingIn 29 = .ok (.ifCond .eq 7, 3) := by decide +kernel
theorem d_M_livingIn_32 : decode b_M_livingIn 32 = .ok (.iconst 1, 1) := by decide +kernel
theorem d_M_livingIn_33 : decode b_M_livingIn 33 = .ok (.goto 4, 3) := by decide +kernel
theorem d_M_livingIn_36 : decode b_M_livingIn 36 = .ok (.iconst 0, 1) := by decide +kernel
theorem d_M_livingIn_37 : decode b_M_livingIn 37 = .ok (.iload_n 1, 1) := by decide +kernel
theorem d_M_livingIn_38 : decode b_M_livingIn 38 = .ok (.if_icmp .ne 7, 3) := by decide +kernel
theorem d_M_livingIn_41 : decode b_M_livingIn 41 = .ok (.iconst 1, 1) := by decide +kernel
theorem d_M_livingIn_42 : decode b_M_livingIn 42 = .ok (.goto 4, 3) := by decide +kernel
theorem d_M_livingIn_45 : decode b_M_livingIn 45 = .ok (.iconst 0, 1) := by decide +kernel
theorem d_M_livingIn_46 : decode b_M_livingIn 46 = .ok (.iadd, 1) := by decide +kernel
theorem d_M_livingIn_47 : decode b_M_livingIn 47 = .ok (.istore 4, 2) := by decide +kernel
theorem d_M_livingIn_49 : decode b_M_livingIn 49 = .ok (.iinc 5 1, 3) := by decide +kernel
theorem d_M_livingIn_52 : decode b_M_livingIn 52 = .ok (.goto (-46), 3) := by decide +kernel
theorem d_M_livingIn_55 : decode b_M_livingIn 55 = .ok (.iload 4, 2) := by decide +kernel
theorem d_M_livingIn_57 : decode b_M_livingIn 57 = .ok (.ireturn, 1) := by decide +kernel
theorem d_M_moves_0 : decode b_M_moves 0 = .ok (.aload_n 0, 1) := by decide +kernel
theorem d_M_moves_1 : decode b_M_moves 1 = .ok (.iconst 0, 1) := by decide +kernel
theorem d_M_moves_2 : decode b_M_moves 2 = .ok (.putfield 80, 3) := by decide +kernel
theorem d_M_moves_5 : decode b_M_moves 5 = .ok (.aload_n 0, 1) := by decide +kernel
theorem d_M_moves_6 : decode b_M_moves 6 = .ok (.iload_n 1, 1) := by decide +kernel
theorem d_M_moves_7 : decode b_M_moves 7 = .ok (.iload_n 2, 1) := by decide +kernel
theorem d_M_moves_8 : decode b_M_moves 8 = .ok (.invokevirtual 293, 3) := by decide +kernel
theorem d_M_moves_11 : decode b_M_moves 11 = .ok (.ifCond .eq 18, 3) := by decide +kernel
theorem d_M_moves_14 : decode b_M_moves 14 = .ok (.iload_n 3, 1) := by decide +kernel
theorem d_M_moves_15 : decode b_M_moves 15 = .ok (.iconst 0, 1) := by decide +kernel
theorem d_M_moves_16 : decode b_M_moves 16 = .ok (.iconst 2, 1) := by decide +kernel
theorem d_M_moves_17 : decode b_M_moves 17 = .ok (.invokestatic 88, 3) := by decide +kernel
theorem d_M_moves_20 : decode b_M_moves 20 = .ok (.ifCond .ne 12, 3) := by decide +kernel
theorem d_M_moves_23 : decode b_M_moves 23 = .ok (.iload_n 3, 1) := by decide +kernel
theorem d_M_moves_24 : decode b_M_moves 24 = .ok (.bipush 100, 2) := by decide +kernel
theorem d_M_moves_26 : decode b_M_moves 26 = .ok (.if_icmp .ge 6, 3) := by decide +kernel
theorem d_M_moves_29 : decode b_M_moves 29 = .ok (.bipush (-2), 2) := by decide +kernel
theorem d_M_moves_31 : decode b_M_moves 31 = .ok (.ireturn, 1) := by decide +kernel
theorem d_M_moves_32 : decode b_M_moves 32 = .ok (.iload_n 3, 1) := by decide +kernel
theorem d_M_moves_33 : decode b_M_moves 33 = .ok (.iconst 2, 1) := by decide +kernel
theorem d_M_moves_34 : decode b_M_moves 34 = .ok (.if_icmp .lt 21, 3) := by decide +kernel
theorem d_M_moves_37 : decode b_M_moves 37 = .ok (.aload_n 0, 1) := by decide +kernel
theorem d_M_moves_38 : decode b_M_moves 38 = .ok (.iload_n 3, 1) := by decide +kernel
theorem d_M_moves_39 : decode b_M_moves 39 = .ok (.iconst 2, 1) := by decide +kernel
theorem d_M_moves_40 : decode b_M_moves 40 = .ok (.if_icmp .ne 7, 3) := by decide +kernel
theorem d_M_moves_43 : decode b_M_moves 43 = .ok (.iconst (-1), 1) := by decide +kernel
theorem d_M_moves_44 : decode b_M_moves 44 = .ok (.goto 7, 3) := by decide +kernel
theorem d_M_moves_47 : decode b_M_moves 47 = .ok (.iload_n 3, 1) := by decide +kernel
theorem d_M_moves_48 : decode b_M_moves 48 = .ok (.bipush 100, 2) := by decide +kernel
theorem d_M_moves_50 : decode b_M_moves 50 = .ok (.isub, 1) := by decide +kernel
theorem d_M_moves_51 : decode b_M_moves 51 = .ok (.invokevirtual 452, 3) := by decide +kernel
theorem d_M_moves_54 : decode b_M_moves 54 = .ok (.ireturn, 1) := by decide +kernel
theorem d_M_moves_55 : decode b_M_moves 55 = .ok (.aload_n 0, 1) := by decide +kernel
theorem d_M_moves_56 : decode b_M_moves 56 = .ok (.invokevirtual 440, 3) := by decide +kernel
theorem d_M_moves_59 : decode b_M_moves 59 = .ok (.istore 4, 2) := by decide +kernel
theorem d_M_moves_61 : decode b_M_moves 61 = .ok (.iconst 0, 1) := by decide +kernel
theorem d_M_moves_62 : decode b_M_moves 62 = .ok (.istore 5, 2) := by decide +kernel
theorem d_M_moves_64 : decode b_M_moves 64 = .ok (.iload 5, 2) := by decide +kernel
theorem d_M_moves_66 : decode b_M_moves 66 = .ok (.bipush 60, 2) := by decide +kernel
theorem d_M_moves_68 : decode b_M_moves 68 = .ok (.if_icmp .ge 74, 3) := by decide +kernel
theorem d_M_moves_71 : decode b_M_moves 71 = .ok (.iload 4, 2) := by decide +kernel
theorem d_M_moves_73 : decode b_M_moves 73 = .ok (.istore 6, 2) := by decide +kernel
theorem d_M_moves_75 : decode b_M_moves 75 = .ok (.iconst 0, 1) := by decide +kernel
theorem d_M_moves_76 : decode b_M_moves 76 = .ok (.istore 7, 2) := by decide +kernel
theorem d_M_moves_78 : decode b_M_moves 78 = .ok (.iconst 0, 1) := by decide +kernel
theorem d_M_moves_79 : decode b_M_moves 79 = .ok (.istore 8, 2) := by decide +kernel
theorem d_M_moves_81 : decode b_M_moves 81 = .ok (.iload 8, 2) := by decide +kernel
theorem d_M_moves_83 : decode b_M_moves 83 = .ok (.aload_n 0, 1) := by decide +kernel
theorem d_M_moves_84 : decode b_M_moves 84 = .ok (.getfield 253, 3) := by decide +kernel
theorem d_M_moves_87 : decode b_M_moves 87 = .ok (.if_icmp .ge 32, 3) := by decide +kernel
theorem d_M_moves_90 : decode b_M_moves 90 = .ok (.aload_n 0, 1) := by decide +kernel
theorem d_M_moves_91 : decode b_M_moves 91 = .ok (.iload 8, 2) := by decide +kernel
theorem d_M_moves_93 : decode b_M_moves 93 = .ok (.iload 4, 2) := by decide +kernel
theorem d_M_moves_95 : decode b_M_moves 95 = .ok (.invokevirtual 446, 3) := by decide +kernel
theorem d_M_moves_98 : decode b_M_moves 98 = .ok (.ifCond .eq 15, 3) := by decide +kernel
theorem d_M_moves_101 : decode b_M_moves 101 = .ok (.iload 4, 2) := by decide +kernel
theorem d_M_moves_103 : decode b_M_moves 103 = .ok (.iconst 1, 1) := by decide +kernel
theorem d_M_moves_104 : decode b_M_moves 104 = .ok (.iload 8, 2) := by decide +kernel
theorem d_M_moves_106 : decode b_M_moves 106 = .ok (.ishl, 1) := by decide +kernel
theorem d_M_moves_107 : decode b_M_moves 107 = .ok (.ixor, 1) := by decide +kernel
theorem d_M_moves_108 : decode b_M_moves 108 = .ok (.istore 4, 2) := by decide +kernel
theorem d_M_moves_110 : decode b_M_moves 110 = .ok (.iconst 1, 1) := by decide +kernel
theorem d_M_moves_111 : decode b_M_moves 111 = .ok (.istore 7, 2) := by decide +kernel
theorem d_M_moves_113 : decode b_M_moves 113 = .ok (.iinc 8 1, 3) := by decide +kernel
theorem d_M_moves_116 : decode b_M_moves 116 = .ok (.goto (-35), 3) := by decide +kernel
theorem d_M_moves_119 : decode b_M_moves 119 = .ok (.iload 7, 2) := by decide +kernel
theorem d_M_moves_121 : decode b_M_moves 121 = .ok (.ifCond .ne 15, 3) := by decide +kernel
theorem d_M_moves_124 : decode b_M_moves 124 = .ok (.iload_n 3, 1) := by decide +kernel
theorem d_M_moves_125 : decode b_M_moves 125 = .ok (.ifCond .ne 8, 3) := by decide +kernel
theorem d_M_moves_128 : decode b_M_moves 128 = .ok (.iload 5, 2) := by decide +kernel
theorem d_M_moves_130 : decode b_M_moves 130 = .ok (.goto 5, 3) := by decide +kernel
theorem d_M_moves_133 : decode b_M_moves 133 = .ok (.iload 6, 2) := by decide +kernel
theorem d_M_moves_135 : decode b_M_moves 135 = .ok (.ireturn, 1) := by decide +kernel
theorem d_M_moves_136 : decode b_M_moves 136 = .ok (.iinc 5 1, 3) := by decide +kernel
theorem d_M_moves_139 : decode b_M_moves 139 = .ok (.goto (-75), 3) := by decide +kernel
theorem d_M_moves_142 : decode b_M_moves 142 = .ok (.iconst (-1), 1) := by decide +kernel
theorem d_M_moves_143 : decode b_M_moves 143 = .ok (.ireturn, 1) := by decide +kernel
theorem d_M_restAt_0 : decode b_M_restAt 0 = .ok (.iconst 0, 1) := by decide +kernel
theorem d_M_restAt_1 : decode b_M_restAt 1 = .ok (.istore_n 2, 1) := by decide +kernel
theorem d_M_restAt_2 : decode b_M_restAt 2 = .ok (.iconst 0, 1) := by decide +kernel
theorem d_M_restAt_3 : decode b_M_restAt 3 = .ok (.istore_n 3, 1) := by decide +kernel
theorem d_M_restAt_4 : decode b_M_restAt 4 = .ok (.iload_n 3, 1) := by decide +kernel
theorem d_M_restAt_5 : decode b_M_restAt 5 = .ok (.iconst 1, 1) := by decide +kernel
theorem d_M_restAt_6 : decode b_M_restAt 6 = .ok (.aload_n 0, 1) := by decide +kernel
theorem d_M_restAt_7 : decode b_M_restAt 7 = .ok (.getfield 253, 3) := by decide +kernel
theorem d_M_restAt_10 : decode b_M_restAt 10 = .ok (.ishl, 1) := by decide +kernel
theorem d_M_restAt_11 : decode b_M_restAt 11 = .ok (.if_icmp .ge 27, 3) := by decide +kernel
theorem d_M_restAt_14 : decode b_M_restAt 14 = .ok (.aload_n 0, 1) := by decide +kernel
theorem d_M_restAt_15 : decode b_M_restAt 15 = .ok (.iload_n 3, 1) := by decide +kernel
theorem d_M_restAt_16 : decode b_M_restAt 16 = .ok (.invokevirtual 449, 3) := by decide +kernel
theorem d_M_restAt_19 : decode b_M_restAt 19 = .ok (.ifCond .eq 13, 3) := by decide +kernel
theorem d_M_restAt_22 : decode b_M_restAt 22 = .ok (.iload_n 2, 1) := by decide +kernel
theorem d_M_restAt_23 : decode b_M_restAt 23 = .ok (.iload_n 1, 1) := by decide +kernel
theorem d_M_restAt_24 : decode b_M_restAt 24 = .ok (.if_icmp .ne 5, 3) := by decide +kernel
theorem d_M_restAt_27 : decode b_M_restAt 27 = .ok (.iload_n 3, 1) := by decide +kernel
theorem d_M_restAt_28 : decode b_M_restAt 28 = .ok (.ireturn, 1) := by decide +kernel
theorem d_M_restAt_29 : decode b_M_restAt 29 = .ok (.iinc 2 1, 3) := by decide +kernel
theorem d_M_restAt_32 : decode b_M_restAt 32 = .ok (.iinc 3 1, 3) := by decide +kernel
theorem d_M_restAt_35 : decode b_M_restAt 35 = .ok (.goto (-31), 3) := by decide +kernel
theorem d_M_restAt_38 : decode b_M_restAt 38 = .ok (.iload_n 1, 1) := by decide +kernel
theorem d_M_restAt_39 : decode b_M_restAt 39 = .ok (.iconst (-1), 1) := by decide +kernel
theorem d_M_restAt_40 : decode b_M_restAt 40 = .ok (.if_icmp .ne 7, 3) := by decide +kernel
theorem d_M_restAt_43 : decode b_M_restAt 43 = .ok (.iload_n 2, 1) := by decide +kernel
theorem d_M_restAt_44 : decode b_M_restAt 44 = .ok (.goto 4, 3) := by decide +kernel
theorem d_M_restAt_47 : decode b_M_restAt 47 = .ok (.iconst (-1), 1) := by decide +kernel
theorem d_M_restAt_48 : decode b_M_restAt 48 = .ok (.ireturn, 1) := by decide +kernel
theorem d_M_isRest_0 : decode b_M_isRest 0 = .ok (.iconst 0, 1) := by decide +kernel
theorem d_M_isRest_1 : decode b_M_isRest 1 = .ok (.istore_n 2, 1) := by decide +kernel
theorem d_M_isRest_2 : decode b_M_isRest 2 = .ok (.iload_n 2, 1) := by decide +kernel
theorem d_M_isRest_3 : decode b_M_isRest 3 = .ok (.aload_n 0, 1) := by decide +kernel
theorem d_M_isRest_4 : decode b_M_isRest 4 = .ok (.getfield 253, 3) := by decide +kernel
theorem d_M_isRest_7 : decode b_M_isRest 7 = .ok (.if_icmp .ge 20, 3) := by decide +kernel
theorem d_M_isRest_10 : decode b_M_isRest 10 = .ok (.aload_n 0, 1) := by decide +kernel
theorem d_M_isRest_11 : decode b_M_isRest 11 = .ok (.iload_n 2, 1) := by decide +kernel
theorem d_M_isRest_12 : decode b_M_isRest 12 = .ok (.iload_n 1, 1) := by decide +kernel
theorem d_M_isRest_13 : decode b_M_isRest 13 = .ok (.invokevirtual 446, 3) := by decide +kernel
theorem d_M_isRest_16 : decode b_M_isRest 16 = .ok (.ifCond .eq 5, 3) := by decide +kernel
theorem d_M_isRest_19 : decode b_M_isRest 19 = .ok (.iconst 0, 1) := by decide +kernel
theorem d_M_isRest_20 : decode b_M_isRest 20 = .ok (.ireturn, 1) := by decide +kernel
theorem d_M_isRest_21 : decode b_M_isRest 21 = .ok (.iinc 2 1, 3) := by decide +kernel
theorem d_M_isRest_24 : decode b_M_isRest 24 = .ok (.goto (-22), 3) := by decide +kernel
theorem d_M_isRest_27 : decode b_M_isRest 27 = .ok (.iconst 1, 1) := by decide +kernel
theorem d_M_isRest_28 : decode b_M_isRest 28 = .ok (.ireturn, 1) := by decide +kernel
theorem d_M_wouldMove_0 : decode b_M_wouldMove 0 = .ok (.iload_n 2, 1) := by decide +kernel
theorem d_M_wouldMove_1 : decode b_M_wouldMove 1 = .ok (.iload_n 1, 1) := by decide +kernel
theorem d_M_wouldMove_2 : decode b_M_wouldMove 2 = .ok (.invokestatic 417, 3) := by decide +kernel
theorem d_M_wouldMove_5 : decode b_M_wouldMove 5 = .ok (.ifCond .eq 7, 3) := by decide +kernel
theorem d_M_wouldMove_8 : decode b_M_wouldMove 8 = .ok (.iconst 1, 1) := by decide +kernel
theorem d_M_wouldMove_9 : decode b_M_wouldMove 9 = .ok (.goto 4, 3) := by decide +kernel
theorem d_M_wouldMove_12 : decode b_M_wouldMove 12 = .ok (.iconst 0, 1) := by decide +kernel
theorem d_M_wouldMove_13 : decode b_M_wouldMove 13 = .ok (.istore_n 3, 1) := by decide +kernel
theorem d_M_wouldMove_14 : decode b_M_wouldMove 14 = .ok (.aload_n 0, 1) := by decide +kernel
theorem d_M_wouldMove_15 : decode b_M_wouldMove 15 = .ok (.iload_n 1, 1) := by decide +kernel
theorem d_M_wouldMove_16 : decode b_M_wouldMove 16 = .ok (.iconst 1, 1) := by decide +kernel
theorem d_M_wouldMove_17 : decode b_M_wouldMove 17 = .ok (.iload_n 3, 1) := by decide +kernel
theorem d_M_wouldMove_18 : decode b_M_wouldMove 18 = .ok (.isub, 1) := by decide +kernel
theorem d_M_wouldMove_19 : decode b_M_wouldMove 19 = .ok (.iload_n 2, 1) := by decide +kernel
theorem d_M_wouldMove_20 : decode b_M_wouldMove 20 = .ok (.invokevirtual 443, 3) := by decide +kernel
theorem d_M_wouldMove_23 : decode b_M_wouldMove 23 = .ok (.aload_n 0, 1) := by decide +kernel
theorem d_M_wouldMove_24 : decode b_M_wouldMove 24 = .ok (.iload_n 1, 1) := by decide +kernel
theorem d_M_wouldMove_25 : decode b_M_wouldMove 25 = .ok (.iload_n 3, 1) := by decide +kernel
theorem d_M_wouldMove_26 : decode b_M_wouldMove 26 = .ok (.iload_n 2, 1) := by decide +kernel
theorem d_M_wouldMove_27 : decode b_M_wouldMove 27 = .ok (.invokevirtual 443, 3) := by decide +kernel
theorem d_M_wouldMove_30 : decode b_M_wouldMove 30 = .ok (.if_icmp .le 7, 3) := by decide +kernel
theorem d_M_wouldMove_33 : decode b_M_wouldMove 33 = .ok (.iconst 1, 1) := by decide +kernel
theorem d_M_wouldMove_34 : decode b_M_wouldMove 34 = .ok (.goto 4, 3) := by decide +kernel
theorem d_M_wouldMove_37 : decode b_M_wouldMove 37 = .ok (.iconst 0, 1) := by decide +kernel
theorem d_M_wouldMove_38 : decode b_M_wouldMove 38 = .ok (.ireturn, 1) := by decide +kernel
theorem d_M_teams_0 : decode b_M_teams 0 = .ok (.aload_n 0, 1) := by decide +kernel
theorem d_M_teams_1 : decode b_M_teams 1 = .ok (.iconst 0, 1) := by decide +kernel
theorem d_M_teams_2 : decode b_M_teams 2 = .ok (.putfield 80, 3) := by decide +kernel
theorem d_M_teams_5 : decode b_M_teams 5 = .ok (.iload_n 3, 1) := by decide +kernel
theorem d_M_teams_6 : decode b_M_teams 6 = .ok (.iconst 0, 1) := by decide +kernel
theorem d_M_teams_7 : decode b_M_teams 7 = .ok (.iconst 2, 1) := by decide +kernel
theorem d_M_teams_8 : decode b_M_teams 8 = .ok (.invokestatic 88, 3) := by decide +kernel
theorem d_M_teams_11 : decode b_M_teams 11 = .ok (.ifCond .eq 23, 3) := by decide +kernel
theorem d_M_teams_14 : decode b_M_teams 14 = .ok (.aload_n 0, 1) := by decide +kernel
theorem d_M_teams_15 : decode b_M_teams 15 = .ok (.iload_n 1, 1) := by decide +kernel
theorem d_M_teams_16 : decode b_M_teams 16 = .ok (.invokevirtual 259, 3) := by decide +kernel
theorem d_M_teams_19 : decode b_M_teams 19 = .ok (.ifCond .eq 15, 3) := by decide +kernel
theorem d_M_teams_22 : decode b_M_teams 22 = .ok (.iload_n 2, 1) := by decide +kernel
theorem d_M_teams_23 : decode b_M_teams 23 = .ok (.iconst 1, 1) := by decide +kernel
theorem d_M_teams_24 : decode b_M_teams 24 = .ok (.aload_n 0, 1) := by decide +kernel
theorem d_M_teams_25 : decode b_M_teams 25 = .ok (.getfield 256, 3) := by decide +kernel
theorem d_M_teams_28 : decode b_M_teams 28 = .ok (.invokestatic 88, 3) := by decide +kernel
theorem d_M_teams_31 : decode b_M_teams 31 = .ok (.ifCond .ne 5, 3) := by decide +kernel
theorem d_M_teams_34 : decode b_M_teams 34 = .ok (.iconst (-1), 1) := by decide +kernel
theorem d_M_teams_35 : decode b_M_teams 35 = .ok (.ireturn, 1) := by decide +kernel
theorem d_M_teams_36 : decode b_M_teams 36 = .ok (.iconst 1, 1) := by decide +kernel
theorem d_M_teams_37 : decode b_M_teams 37 = .ok (.istore 4, 2) := by decide +kernel
theorem d_M_teams_39 : decode b_M_teams 39 = .ok (.iconst 0, 1) := by decide +kernel
theorem d_M_teams_40 : decode b_M_teams 40 = .ok (.istore 5, 2) := by decide +kernel
theorem d_M_teams_42 : decode b_M_teams 42 = .ok (.iload 5, 2) := by decide +kernel
theorem d_M_teams_44 : decode b_M_teams 44 = .ok (.aload_n 0, 1) := by decide +kernel
theorem d_M_teams_45 : decode b_M_teams 45 = .ok (.getfield 256, 3) := by decide +kernel
theorem d_M_teams_48 : decode b_M_teams 48 = .ok (.if_icmp .ge 15, 3) := by decide +kernel
theorem d_M_teams_51 : decode b_M_teams 51 = .ok (.iload 4, 2) := by decide +kernel
theorem d_M_teams_53 : decode b_M_teams 53 = .ok (.iload_n 2, 1) := by decide +kernel
theorem d_M_teams_54 : decode b_M_teams 54 = .ok (.imul, 1) := by decide +kernel
theorem d_M_teams_55 : decode b_M_teams 55 = .ok (.istore 4, 2) := by decide +kernel
theorem d_M_teams_57 : decode b_M_teams 57 = .ok (.iinc 5 1, 3) := by decide +kernel
theorem d_M_teams_60 : decode b_M_teams 60 = .ok (.goto (-18), 3) := by decide +kernel
theorem d_M_teams_63 : decode b_M_teams 63 = .ok (.iconst (-1), 1) := by decide +kernel
theorem d_M_teams_64 : decode b_M_teams 64 = .ok (.istore 5, 2) := by decide +kernel
theorem d_M_teams_66 : decode b_M_teams 66 = .ok (.iconst 0, 1) := by decide +kernel
theorem d_M_teams_67 : decode b_M_teams 67 = .ok (.istore 6, 2) := by decide +kernel
theorem d_M_teams_69 : decode b_M_teams 69 = .ok (.iconst 0, 1) := by decide +kernel
theorem d_M_teams_70 : decode b_M_teams 70 = .ok (.istore 7, 2) := by decide +kernel
theorem d_M_teams_72 : decode b_M_teams 72 = .ok (.iload 7, 2) := by decide +kernel
theorem d_M_teams_74 : decode b_M_teams 74 = .ok (.iload 4, 2) := by decide +kernel
theorem d_M_teams_76 : decode b_M_teams 76 = .ok (.if_icmp .ge 116, 3) := by decide +kernel
theorem d_M_teams_79 : decode b_M_teams 79 = .ok (.iload 7, 2) := by decide +kernel
theorem d_M_teams_81 : decode b_M_teams 81 = .ok (.istore 8, 2) := by decide +kernel
theorem d_M_teams_83 : decode b_M_teams 83 = .ok (.iconst 0, 1) := by decide +kernel
theorem d_M_teams_84 : decode b_M_teams 84 = .ok (.istore 9, 2) := by decide +kernel
theorem d_M_teams_86 : decode b_M_teams 86 = .ok (.aload_n 0, 1) := by decide +kernel
theorem d_M_teams_87 : decode b_M_teams 87 = .ok (.getfield 256, 3) := by decide +kernel
theorem d_M_teams_90 : decode b_M_teams 90 = .ok (.iconst 1, 1) := by decide +kernel
theorem d_M_teams_91 : decode b_M_teams 91 = .ok (.isub, 1) := by decide +kernel
theorem d_M_teams_92 : decode b_M_teams 92 = .ok (.istore 10, 2) := by decide +kernel
theorem d_M_teams_94 : decode b_M_teams 94 = .ok (.iload 10, 2) := by decide +kernel
theorem d_M_teams_96 : decode b_M_teams 96 = .ok (.ifCond .lt 26, 3) := by decide +kernel
theorem d_M_teams_99 : decode b_M_teams 99 = .ok (.aload_n 0, 1) := by decide +kernel
theorem d_M_teams_100 : decode b_M_teams 100 = .ok (.getfield 70, 3) := by decide +kernel
theorem d_M_teams_103 : decode b_M_teams 103 = .ok (.iload 10, 2) := by decide +kernel
theorem d_M_teams_105 : decode b_M_teams 105 = .ok (.iload 8, 2) := by decide +kernel
theorem d_M_teams_107 : decode b_M_teams 107 = .ok (.iload_n 2, 1) := by decide +kernel
theorem d_M_teams_108 : decode b_M_teams 108 = .ok (.irem, 1) := by decide +kernel
theorem d_M_teams_109 : decode b_M_teams 109 = .ok (.iastore, 1) := by decide +kernel
theorem d_M_teams_110 : decode b_M_teams 110 = .ok (.iload 8, 2) := by decide +kernel
theorem d_M_teams_112 : decode b_M_teams 112 = .ok (.iload_n 2, 1) := by decide +kernel
theorem d_M_teams_113 : decode b_M_teams 113 = .ok (.idiv, 1) := by decide +kernel
theorem d_M_teams_114 : decode b_M_teams 114 = .ok (.istore 8, 2) := by decide +kernel
theorem d_M_teams_116 : decode b_M_teams 116 = .ok (.iinc 10 (-1), 3) := by decide +kernel
theorem d_M_teams_119 : decode b_M_teams 119 = .ok (.goto (-25), 3) := by decide +kernel
theorem d_M_teams_122 : decode b_M_teams 122 = .ok (.iconst 0, 1) := by decide +kernel
theorem d_M_teams_123 : decode b_M_teams 123 = .ok (.istore 10, 2) := by decide +kernel
theorem d_M_teams_125 : decode b_M_teams 125 = .ok (.iload 10, 2) := by decide +kernel
theorem d_M_teams_127 : decode b_M_teams 127 = .ok (.aload_n 0, 1) := by decide +kernel
theorem d_M_teams_128 : decode b_M_teams 128 = .ok (.getfield 256, 3) := by decide +kernel
theorem d_M_teams_131 : decode b_M_teams 131 = .ok (.if_icmp .ge 23, 3) := by decide +kernel
theorem d_M_teams_134 : decode b_M_teams 134 = .ok (.iload 9, 2) := by decide +kernel
theorem d_M_teams_136 : decode b_M_teams 136 = .ok (.iconst 3, 1) := by decide +kernel
theorem d_M_teams_137 : decode b_M_teams 137 = .ok (.ishl, 1) := by decide +kernel
theorem d_M_teams_138 : decode b_M_teams 138 = .ok (.aload_n 0, 1) := by decide +kernel
theorem d_M_teams_139 : decode b_M_teams 139 = .ok (.getfield 70, 3) := by decide +kernel
theorem d_M_teams_142 : decode b_M_teams 142 = .ok (.iload 10, 2) := by decide +kernel
theorem d_M_teams_144 : decode b_M_teams 144 = .ok (.iaload, 1) := by decide +kernel
theorem d_M_teams_145 : decode b_M_teams 145 = .ok (.ior, 1) := by decide +kernel
theorem d_M_teams_146 : decode b_M_teams 146 = .ok (.istore 9, 2) := by decide +kernel
theorem d_M_teams_148 : decode b_M_teams 148 = .ok (.iinc 10 1, 3) := by decide +kernel
theorem d_M_teams_151 : decode b_M_teams 151 = .ok (.goto (-26), 3) := by decide +kernel
theorem d_M_teams_154 : decode b_M_teams 154 = .ok (.aload_n 0, 1) := by decide +kernel
theorem d_M_teams_155 : decode b_M_teams 155 = .ok (.iload_n 2, 1) := by decide +kernel
theorem d_M_teams_156 : decode b_M_teams 156 = .ok (.invokevirtual 461, 3) := by decide +kernel
theorem d_M_teams_159 : decode b_M_teams 159 = .ok (.istore 10, 2) := by decide +kernel
theorem d_M_teams_161 : decode b_M_teams 161 = .ok (.iload 10, 2) := by decide +kernel
theorem d_M_teams_163 : decode b_M_teams 163 = .ok (.iload 5, 2) := by decide +kernel
theorem d_M_teams_165 : decode b_M_teams 165 = .ok (.if_icmp .le 8, 3) := by decide +kernel
theorem d_M_teams_168 : decode b_M_teams 168 = .ok (.iload 9, 2) := by decide +kernel
theorem d_M_teams_170 : decode b_M_teams 170 = .ok (.goto 5, 3) := by decide +kernel
theorem d_M_teams_173 : decode b_M_teams 173 = .ok (.iload 6, 2) := by decide +kernel
theorem d_M_teams_175 : decode b_M_teams 175 = .ok (.istore 6, 2) := by decide +kernel
theorem d_M_teams_177 : decode b_M_teams 177 = .ok (.iload 5, 2) := by decide +kernel
theorem d_M_teams_179 : decode b_M_teams 179 = .ok (.iload 10, 2) := by decide +kernel
theorem d_M_teams_181 : decode b_M_teams 181 = .ok (.invokestatic 149, 3) := by decide +kernel
theorem d_M_teams_184 : decode b_M_teams 184 = .ok (.istore 5, 2) := by decide +kernel
theorem d_M_teams_186 : decode b_M_teams 186 = .ok (.iinc 7 1, 3) := by decide +kernel
theorem d_M_teams_189 : decode b_M_teams 189 = .ok (.goto (-117), 3) := by decide +kernel
theorem d_M_teams_192 : decode b_M_teams 192 = .ok (.aload_n 0, 1) := by decide +kernel
theorem d_M_teams_193 : decode b_M_teams 193 = .ok (.getfield 256, 3) := by decide +kernel
theorem d_M_teams_196 : decode b_M_teams 196 = .ok (.invokestatic 458, 3) := by decide +kernel
theorem d_M_teams_199 : decode b_M_teams 199 = .ok (.istore 7, 2) := by decide +kernel
theorem d_M_teams_201 : decode b_M_teams 201 = .ok (.iload 5, 2) := by decide +kernel
theorem d_M_teams_203 : decode b_M_teams 203 = .ok (.iload 7, 2) := by decide +kernel
theorem d_M_teams_205 : decode b_M_teams 205 = .ok (.invokestatic 464, 3) := by decide +kernel
theorem d_M_teams_208 : decode b_M_teams 208 = .ok (.istore 8, 2) := by decide +kernel
theorem d_M_teams_210 : decode b_M_teams 210 = .ok (.iload_n 3, 1) := by decide +kernel
theorem d_M_teams_211 : decode b_M_teams 211 = .ok (.ifCond .ne 11, 3) := by decide +kernel
theorem d_M_teams_214 : decode b_M_teams 214 = .ok (.iload 5, 2) := by decide +kernel
theorem d_M_teams_216 : decode b_M_teams 216 = .ok (.iload 8, 2) := by decide +kernel
theorem d_M_teams_218 : decode b_M_teams 218 = .ok (.idiv, 1) := by decide +kernel
theorem d_M_teams_219 : decode b_M_teams 219 = .ok (.goto 18, 3) := by decide +kernel
theorem d_M_teams_222 : decode b_M_teams 222 = .ok (.iload_n 3, 1) := by decide +kernel
theorem d_M_teams_223 : decode b_M_teams 223 = .ok (.iconst 1, 1) := by decide +kernel
theorem d_M_teams_224 : decode b_M_teams 224 = .ok (.if_icmp .ne 11, 3) := by decide +kernel
theorem d_M_teams_227 : decode b_M_teams 227 = .ok (.iload 7, 2) := by decide +kernel
theorem d_M_teams_229 : decode b_M_teams 229 = .ok (.iload 8, 2) := by decide +kernel
theorem d_M_teams_231 : decode b_M_teams 231 = .ok (.idiv, 1) := by decide +kernel
theorem d_M_teams_232 : decode b_M_teams 232 = .ok (.goto 5, 3) := by decide +kernel
theorem d_M_teams_235 : decode b_M_teams 235 = .ok (.iload 6, 2) := by decide +kernel
theorem d_M_teams_237 : decode b_M_teams 237 = .ok (.ireturn, 1) := by decide +kernel
theorem d_M_chanceOf_0 : decode b_M_chanceOf 0 = .ok (.iconst 1, 1) := by decide +kernel
theorem d_M_chanceOf_1 : decode b_M_chanceOf 1 = .ok (.istore_n 2, 1) := by decide +kernel
theorem d_M_chanceOf_2 : decode b_M_chanceOf 2 = .ok (.iconst 0, 1) := by decide +kernel
theorem d_M_chanceOf_3 : decode b_M_chanceOf 3 = .ok (.istore_n 3, 1) := by decide +kernel
theorem d_M_chanceOf_4 : decode b_M_chanceOf 4 = .ok (.iload_n 3, 1) := by decide +kernel
theorem d_M_chanceOf_5 : decode b_M_chanceOf 5 = .ok (.iload_n 1, 1) := by decide +kernel
theorem d_M_chanceOf_6 : decode b_M_chanceOf 6 = .ok (.if_icmp .ge 98, 3) := by decide +kernel
theorem d_M_chanceOf_9 : decode b_M_chanceOf 9 = .ok (.iconst 1, 1) := by decide +kernel
theorem d_M_chanceOf_10 : decode b_M_chanceOf 10 = .ok (.istore 4, 2) := by decide +kernel
theorem d_M_chanceOf_12 : decode b_M_chanceOf 12 = .ok (.iconst 0, 1) := by decide +kernel
theorem d_M_chanceOf_13 : decode b_M_chanceOf 13 = .ok (.istore 5, 2) := by decide +kernel
theorem d_M_chanceOf_15 : decode b_M_chanceOf 15 = .ok (.iconst 0, 1) := by decide +kernel
theorem d_M_chanceOf_16 : decode b_M_chanceOf 16 = .ok (.istore 6, 2) := by decide +kernel
theorem d_M_chanceOf_18 : decode b_M_chanceOf 18 = .ok (.iload 6, 2) := by decide +kernel
theorem d_M_chanceOf_20 : decode b_M_chanceOf 20 = .ok (.aload_n 0, 1) := by decide +kernel
theorem d_M_chanceOf_21 : decode b_M_chanceOf 21 = .ok (.getfield 256, 3) := by decide +kernel
theorem d_M_chanceOf_24 : decode b_M_chanceOf 24 = .ok (.if_icmp .ge 56, 3) := by decide +kernel
theorem d_M_chanceOf_27 : decode b_M_chanceOf 27 = .ok (.iload 4, 2) := by decide +kernel
theorem d_M_chanceOf_29 : decode b_M_chanceOf 29 = .ok (.aload_n 0, 1) := by decide +kernel
theorem d_M_chanceOf_30 : decode b_M_chanceOf 30 = .ok (.getfield 70, 3) := by decide +kernel
theorem d_M_chanceOf_33 : decode b_M_chanceOf 33 = .ok (.iload 6, 2) := by decide +kernel
theorem d_M_chanceOf_35 : decode b_M_chanceOf 35 = .ok (.iaload, 1) := by decide +kernel
theorem d_M_chanceOf_36 : decode b_M_chanceOf 36 = .ok (.iload_n 3, 1) := by decide +kernel
theorem d_M_chanceOf_37 : decode b_M_chanceOf 37 = .ok (.if_icmp .ne 12, 3) := by decide +kernel
theorem d_M_chanceOf_40 : decode b_M_chanceOf 40 = .ok (.aload_n 0, 1) := by decide +kernel
theorem d_M_chanceOf_41 : decode b_M_chanceOf 41 = .ok (.iload 6, 2) := by decide +kernel
theorem d_M_chanceOf_43 : decode b_M_chanceOf 43 = .ok (.invokevirtual 455, 3) := by decide +kernel
theorem d_M_chanceOf_46 : decode b_M_chanceOf 46 = .ok (.goto 4, 3) := by decide +kernel
theorem d_M_chanceOf_49 : decode b_M_chanceOf 49 = .ok (.iconst 1, 1) := by decide +kernel
theorem d_M_chanceOf_50 : decode b_M_chanceOf 50 = .ok (.imul, 1) := by decide +kernel
theorem d_M_chanceOf_51 : decode b_M_chanceOf 51 = .ok (.istore 4, 2) := by decide +kernel
theorem d_M_chanceOf_53 : decode b_M_chanceOf 53 = .ok (.iload 5, 2) := by decide +kernel
theorem d_M_chanceOf_55 : decode b_M_chanceOf 55 = .ok (.aload_n 0, 1) := by decide +kernel
theorem d_M_chanceOf_56 : decode b_M_chanceOf 56 = .ok (.getfield 70, 3) := by decide +kernel
theorem d_M_chanceOf_59 : decode b_M_chanceOf 59 = .ok (.iload 6, 2) := by decide +kernel
theorem d_M_chanceOf_61 : decode b_M_chanceOf 61 = .ok (.iaload, 1) := by decide +kernel
theorem d_M_chanceOf_62 : decode b_M_chanceOf 62 = .ok (.iload_n 3, 1) := by decide +kernel
theorem d_M_chanceOf_63 : decode b_M_chanceOf 63 = .ok (.if_icmp .ne 7, 3) := by decide +kernel
theorem d_M_chanceOf_66 : decode b_M_chanceOf 66 = .ok (.iconst 1, 1) := by decide +kernel
theorem d_M_chanceOf_67 : decode b_M_chanceOf 67 = .ok (.goto 4, 3) := by decide +kernel
theorem d_M_chanceOf_70 : decode b_M_chanceOf 70 = .ok (.iconst 0, 1) := by decide +kernel
theorem d_M_chanceOf_71 : decode b_M_chanceOf 71 = .ok (.iadd, 1) := by decide +kernel
theorem d_M_chanceOf_72 : decode b_M_chanceOf 72 = .ok (.istore 5, 2) := by decide +kernel
theorem d_M_chanceOf_74 : decode b_M_chanceOf 74 = .ok (.iinc 6 1, 3) := by decide +kernel
theorem d_M_chanceOf_77 : decode b_M_chanceOf 77 = .ok (.goto (-59), 3) := by decide +kernel
theorem d_M_chanceOf_80 : decode b_M_chanceOf 80 = .ok (.iload 5, 2) := by decide +kernel
theorem d_M_chanceOf_82 : decode b_M_chanceOf 82 = .ok (.ifCond .ne 5, 3) := by decide +kernel
theorem d_M_chanceOf_85 : decode b_M_chanceOf 85 = .ok (.iconst (-1), 1) := by decide +kernel
theorem d_M_chanceOf_86 : decode b_M_chanceOf 86 = .ok (.ireturn, 1) := by decide +kernel
theorem d_M_chanceOf_87 : decode b_M_chanceOf 87 = .ok (.iload_n 2, 1) := by decide +kernel
theorem d_M_chanceOf_88 : decode b_M_chanceOf 88 = .ok (.iload 5, 2) := by decide +kernel
theorem d_M_chanceOf_90 : decode b_M_chanceOf 90 = .ok (.invokestatic 458, 3) := by decide +kernel
theorem d_M_chanceOf_93 : decode b_M_chanceOf 93 = .ok (.iload 4, 2) := by decide +kernel
theorem d_M_chanceOf_95 : decode b_M_chanceOf 95 = .ok (.isub, 1) := by decide +kernel
theorem d_M_chanceOf_96 : decode b_M_chanceOf 96 = .ok (.imul, 1) := by decide +kernel
theorem d_M_chanceOf_97 : decode b_M_chanceOf 97 = .ok (.istore_n 2, 1) := by decide +kernel
theorem d_M_chanceOf_98 : decode b_M_chanceOf 98 = .ok (.iinc 3 1, 3) := by decide +kernel
theorem d_M_chanceOf_101 : decode b_M_chanceOf 101 = .ok (.goto (-97), 3) := by decide +kernel
theorem d_M_chanceOf_104 : decode b_M_chanceOf 104 = .ok (.iload_n 2, 1) := by decide +kernel
theorem d_M_chanceOf_105 : decode b_M_chanceOf 105 = .ok (.ireturn, 1) := by decide +kernel
theorem d_M_tiredOf_0 : decode b_M_tiredOf 0 = .ok (.aload_n 0, 1) := by decide +kernel
theorem d_M_tiredOf_1 : decode b_M_tiredOf 1 = .ok (.bipush 30, 2) := by decide +kernel
theorem d_M_tiredOf_3 : decode b_M_tiredOf 3 = .ok (.iconst 2, 1) := by decide +kernel
theorem d_M_tiredOf_4 : decode b_M_tiredOf 4 = .ok (.iload_n 1, 1) := by decide +kernel
theorem d_M_tiredOf_5 : decode b_M_tiredOf 5 = .ok (.imul, 1) := by decide +kernel
theorem d_M_tiredOf_6 : decode b_M_tiredOf 6 = .ok (.iadd, 1) := by decide +kernel
theorem d_M_tiredOf_7 : decode b_M_tiredOf 7 = .ok (.iconst 1, 1) := by decide +kernel
theorem d_M_tiredOf_8 : decode b_M_tiredOf 8 = .ok (.iadd, 1) := by decide +kernel
theorem d_M_tiredOf_9 : decode b_M_tiredOf 9 = .ok (.invokevirtual 240, 3) := by decide +kernel
theorem d_M_tiredOf_12 : decode b_M_tiredOf 12 = .ok (.ireturn, 1) := by decide +kernel
theorem d_M_tens_0 : decode b_M_tens 0 = .ok (.iconst 1, 1) := by decide +kernel
theorem d_M_tens_1 : decode b_M_tens 1 = .ok (.istore_n 1, 1) := by decide +kernel
theorem d_M_tens_2 : decode b_M_tens 2 = .ok (.iconst 0, 1) := by decide +kernel
theorem d_M_tens_3 : decode b_M_tens 3 = .ok (.istore_n 2, 1) := by decide +kernel
theorem d_M_tens_4 : decode b_M_tens 4 = .ok (.iload_n 2, 1) := by decide +kernel
theorem d_M_tens_5 : decode b_M_tens 5 = .ok (.iload_n 0, 1) := by decide +kernel
theorem d_M_tens_6 : decode b_M_tens 6 = .ok (.if_icmp .ge 14, 3) := by decide +kernel
theorem d_M_tens_9 : decode b_M_tens 9 = .ok (.iload_n 1, 1) := by decide +kernel
theorem d_M_tens_10 : decode b_M_tens 10 = .ok (.bipush 10, 2) := by decide +kernel
theorem d_M_tens_12 : decode b_M_tens 12 = .ok (.imul, 1) := by decide +kernel
theorem d_M_tens_13 : decode b_M_tens 13 = .ok (.istore_n 1, 1) := by decide +kernel
theorem d_M_tens_14 : decode b_M_tens 14 = .ok (.iinc 2 1, 3) := by decide +kernel
theorem d_M_tens_17 : decode b_M_tens 17 = .ok (.goto (-13), 3) := by decide +kernel
theorem d_M_tens_20 : decode b_M_tens 20 = .ok (.iload_n 1, 1) := by decide +kernel
theorem d_M_tens_21 : decode b_M_tens 21 = .ok (.ireturn, 1) := by decide +kernel
theorem d_M_common_0 : decode b_M_common 0 = .ok (.iload_n 0, 1) := by decide +kernel
theorem d_M_common_1 : decode b_M_common 1 = .ok (.istore_n 2, 1) := by decide +kernel
theorem d_M_common_2 : decode b_M_common 2 = .ok (.iload_n 1, 1) := by decide +kernel
theorem d_M_common_3 : decode b_M_common 3 = .ok (.istore_n 3, 1) := by decide +kernel
theorem d_M_common_4 : decode b_M_common 4 = .ok (.iload_n 3, 1) := by decide +kernel
theorem d_M_common_5 : decode b_M_common 5 = .ok (.ifCond .eq 16, 3) := by decide +kernel
theorem d_M_common_8 : decode b_M_common 8 = .ok (.iload_n 2, 1) := by decide +kernel
theorem d_M_common_9 : decode b_M_common 9 = .ok (.iload_n 3, 1) := by decide +kernel
theorem d_M_common_10 : decode b_M_common 10 = .ok (.irem, 1) := by decide +kernel
theorem d_M_common_11 : decode b_M_common 11 = .ok (.istore 4, 2) := by decide +kernel
theorem d_M_common_13 : decode b_M_common 13 = .ok (.iload_n 3, 1) := by decide +kernel
theorem d_M_common_14 : decode b_M_common 14 = .ok (.istore_n 2, 1) := by decide +kernel
theorem d_M_common_15 : decode b_M_common 15 = .ok (.iload 4, 2) := by decide +kernel
theorem d_M_common_17 : decode b_M_common 17 = .ok (.istore_n 3, 1) := by decide +kernel
theorem d_M_common_18 : decode b_M_common 18 = .ok (.goto (-14), 3) := by decide +kernel
theorem d_M_common_21 : decode b_M_common 21 = .ok (.iload_n 2, 1) := by decide +kernel
theorem d_M_common_22 : decode b_M_common 22 = .ok (.ireturn, 1) := by decide +kernel
theorem d_M_hire_0 : decode b_M_hire 0 = .ok (.aload_n 0, 1) := by decide +kernel
theorem d_M_hire_1 : decode b_M_hire 1 = .ok (.iconst 0, 1) := by decide +kernel
theorem d_M_hire_2 : decode b_M_hire 2 = .ok (.putfield 80, 3) := by decide +kernel
theorem d_M_hire_5 : decode b_M_hire 5 = .ok (.iload_n 2, 1) := by decide +kernel
theorem d_M_hire_6 : decode b_M_hire 6 = .ok (.iconst 0, 1) := by decide +kernel
theorem d_M_hire_7 : decode b_M_hire 7 = .ok (.bipush 100, 2) := by decide +kernel
theorem d_M_hire_9 : decode b_M_hire 9 = .ok (.invokestatic 88, 3) := by decide +kernel
theorem d_M_hire_12 : decode b_M_hire 12 = .ok (.ifCond .eq 11, 3) := by decide +kernel
theorem d_M_hire_15 : decode b_M_hire 15 = .ok (.aload_n 0, 1) := by decide +kernel
theorem d_M_hire_16 : decode b_M_hire 16 = .ok (.iload_n 1, 1) := by decide +kernel
theorem d_M_hire_17 : decode b_M_hire 17 = .ok (.invokevirtual 259, 3) := by decide +kernel
theorem d_M_hire_20 : decode b_M_hire 20 = .ok (.ifCond .ne 5, 3) := by decide +kernel
theorem d_M_hire_23 : decode b_M_hire 23 = .ok (.iconst (-1), 1) := by decide +kernel
theorem d_M_hire_24 : decode b_M_hire 24 = .ok (.ireturn, 1) := by decide +kernel
theorem d_M_hire_25 : decode b_M_hire 25 = .ok (.iconst (-1), 1) := by decide +kernel
theorem d_M_hire_26 : decode b_M_hire 26 = .ok (.istore 4, 2) := by decide +kernel
theorem d_M_hire_28 : decode b_M_hire 28 = .ok (.ldc_w 289, 3) := by decide +kernel
theorem d_M_hire_31 : decode b_M_hire 31 = .ok (.istore 5, 2) := by decide +kernel
theorem d_M_hire_33 : decode b_M_hire 33 = .ok (.iconst 0, 1) := by decide +kernel
theorem d_M_hire_34 : decode b_M_hire 34 = .ok (.istore 6, 2) := by decide +kernel
theorem d_M_hire_36 : decode b_M_hire 36 = .ok (.iload 6, 2) := by decide +kernel
theorem d_M_hire_38 : decode b_M_hire 38 = .ok (.iconst 1, 1) := by decide +kernel
theorem d_M_hire_39 : decode b_M_hire 39 = .ok (.aload_n 0, 1) := by decide +kernel
theorem d_M_hire_40 : decode b_M_hire 40 = .ok (.getfield 256, 3) := by decide +kernel
theorem d_M_hire_43 : decode b_M_hire 43 = .ok (.ishl, 1) := by decide +kernel
theorem d_M_hire_44 : decode b_M_hire 44 = .ok (.if_icmp .ge 166, 3) := by decide +kernel
theorem d_M_hire_47 : decode b_M_hire 47 = .ok (.iconst 1, 1) := by decide +kernel
theorem d_M_hire_48 : decode b_M_hire 48 = .ok (.istore 7, 2) := by decide +kernel
theorem d_M_hire_50 : decode b_M_hire 50 = .ok (.iconst 1, 1) := by decide +kernel
theorem d_M_hire_51 : decode b_M_hire 51 = .ok (.istore 8, 2) := by decide +kernel
theorem d_M_hire_53 : decode b_M_hire 53 = .ok (.iconst 0, 1) := by decide +kernel
theorem d_M_hire_54 : decode b_M_hire 54 = .ok (.istore 9, 2) := by decide +kernel
theorem d_M_hire_56 : decode b_M_hire 56 = .ok (.iconst 0, 1) := by decide +kernel
theorem d_M_hire_57 : decode b_M_hire 57 = .ok (.istore 10, 2) := by decide +kernel
theorem d_M_hire_59 : decode b_M_hire 59 = .ok (.iload 10, 2) := by decide +kernel
theorem d_M_hire_61 : decode b_M_hire 61 = .ok (.aload_n 0, 1) := by decide +kernel
theorem d_M_hire_62 : decode b_M_hire 62 = .ok (.getfield 256, 3) := by decide +kernel
theorem d_M_hire_65 : decode b_M_hire 65 = .ok (.if_icmp .ge 85, 3) := by decide +kernel
theorem d_M_hire_68 : decode b_M_hire 68 = .ok (.iload 7, 2) := by decide +kernel
theorem d_M_hire_70 : decode b_M_hire 70 = .ok (.iload 6, 2) := by decide +kernel
theorem d_M_hire_72 : decode b_M_hire 72 = .ok (.iload 10, 2) := by decide +kernel
theorem d_M_hire_74 : decode b_M_hire 74 = .ok (.invokestatic 417, 3) := by decide +kernel
theorem d_M_hire_77 : decode b_M_hire 77 = .ok (.ifCond .eq 12, 3) := by decide +kernel
theorem d_M_hire_80 : decode b_M_hire 80 = .ok (.aload_n 0, 1) := by decide +kernel
theorem d_M_hire_81 : decode b_M_hire 81 = .ok (.iload 10, 2) := by decide +kernel
theorem d_M_hire_83 : decode b_M_hire 83 = .ok (.invokevirtual 455, 3) := by decide +kernel
theorem d_M_hire_86 : decode b_M_hire 86 = .ok (.goto 4, 3) := by decide +kernel
theorem d_M_hire_89 : decode b_M_hire 89 = .ok (.iconst 1, 1) := by decide +kernel
theorem d_M_hire_90 : decode b_M_hire 90 = .ok (.imul, 1) := by decide +kernel
theorem d_M_hire_91 : decode b_M_hire 91 = .ok (.istore 7, 2) := by decide +kernel
theorem d_M_hire_93 : decode b_M_hire 93 = .ok (.iload 8, 2) := by decide +kernel
theorem d_M_hire_95 : decode b_M_hire 95 = .ok (.iload 6, 2) := by decide +kernel
theorem d_M_hire_97 : decode b_M_hire 97 = .ok (.iload 10, 2) := by decide +kernel
theorem d_M_hire_99 : decode b_M_hire 99 = .ok (.invokestatic 417, 3) := by decide +kernel
theorem d_M_hire_102 : decode b_M_hire 102 = .ok (.ifCond .eq 8, 3) := by decide +kernel
theorem d_M_hire_105 : decode b_M_hire 105 = .ok (.bipush 10, 2) := by decide +kernel
theorem d_M_hire_107 : decode b_M_hire 107 = .ok (.goto 4, 3) := by decide +kernel
theorem d_M_hire_110 : decode b_M_hire 110 = .ok (.iconst 1, 1) := by decide +kernel
theorem d_M_hire_111 : decode b_M_hire 111 = .ok (.imul, 1) := by decide +kernel
theorem d_M_hire_112 : decode b_M_hire 112 = .ok (.istore 8, 2) := by decide +kernel
theorem d_M_hire_114 : decode b_M_hire 114 = .ok (.iload 9, 2) := by decide +kernel
theorem d_M_hire_116 : decode b_M_hire 116 = .ok (.iload 6, 2) := by decide +kernel
theorem d_M_hire_118 : decode b_M_hire 118 = .ok (.iload 10, 2) := by decide +kernel
theorem d_M_hire_120 : decode b_M_hire 120 = .ok (.invokestatic 417, 3) := by decide +kernel
theorem d_M_hire_123 : decode b_M_hire 123 = .ok (.ifCond .eq 17, 3) := by decide +kernel
theorem d_M_hire_126 : decode b_M_hire 126 = .ok (.aload_n 0, 1) := by decide +kernel
theorem d_M_hire_127 : decode b_M_hire 127 = .ok (.bipush 30, 2) := by decide +kernel
theorem d_M_hire_129 : decode b_M_hire 129 = .ok (.iconst 2, 1) := by decide +kernel
theorem d_M_hire_130 : decode b_M_hire 130 = .ok (.iload 10, 2) := by decide +kernel
theorem d_M_hire_132 : decode b_M_hire 132 = .ok (.imul, 1) := by decide +kernel
theorem d_M_hire_133 : decode b_M_hire 133 = .ok (.iadd, 1) := by decide +kernel
theorem d_M_hire_134 : decode b_M_hire 134 = .ok (.invokevirtual 240, 3) := by decide +kernel
theorem d_M_hire_137 : decode b_M_hire 137 = .ok (.goto 4, 3) := by decide +kernel
theorem d_M_hire_140 : decode b_M_hire 140 = .ok (.iconst 0, 1) := by decide +kernel
theorem d_M_hire_141 : decode b_M_hire 141 = .ok (.iadd, 1) := by decide +kernel
theorem d_M_hire_142 : decode b_M_hire 142 = .ok (.istore 9, 2) := by decide +kernel
theorem d_M_hire_144 : decode b_M_hire 144 = .ok (.iinc 10 1, 3) := by decide +kernel
theorem d_M_hire_147 : decode b_M_hire 147 = .ok (.goto (-88), 3) := by decide +kernel
theorem d_M_hire_150 : decode b_M_hire 150 = .ok (.bipush 100, 2) := by decide +kernel
theorem d_M_hire_152 : decode b_M_hire 152 = .ok (.iload 7, 2) := by decide +kernel
theorem d_M_hire_154 : decode b_M_hire 154 = .ok (.imul, 1) := by decide +kernel
theorem d_M_hire_155 : decode b_M_hire 155 = .ok (.iload_n 2, 1) := by decide +kernel
theorem d_M_hire_156 : decode b_M_hire 156 = .ok (.iload 8, 2) := by decide +kernel
theorem d_M_hire_158 : decode b_M_hire 158 = .ok (.imul, 1) := by decide +kernel
theorem d_M_hire_159 : decode b_M_hire 159 = .ok (.if_icmp .gt 14, 3) := by decide +kernel
theorem d_M_hire_162 : decode b_M_hire 162 = .ok (.iload 9, 2) := by decide +kernel
theorem d_M_hire_164 : decode b_M_hire 164 = .ok (.iload 5, 2) := by decide +kernel
theorem d_M_hire_166 : decode b_M_hire 166 = .ok (.if_icmp .ge 7, 3) := by decide +kernel
theorem d_M_hire_169 : decode b_M_hire 169 = .ok (.iconst 1, 1) := by decide +kernel
theorem d_M_hire_170 : decode b_M_hire 170 = .ok (.goto 4, 3) := by decide +kernel
theorem d_M_hire_173 : decode b_M_hire 173 = .ok (.iconst 0, 1) := by decide +kernel
theorem d_M_hire_174 : decode b_M_hire 174 = .ok (.istore 10, 2) := by decide +kernel
theorem d_M_hire_176 : decode b_M_hire 176 = .ok (.iload 10, 2) := by decide +kernel
theorem d_M_hire_178 : decode b_M_hire 178 = .ok (.ifCond .eq 8, 3) := by decide +kernel
theorem d_M_hire_181 : decode b_M_hire 181 = .ok (.iload 6, 2) := by decide +kernel
theorem d_M_hire_183 : decode b_M_hire 183 = .ok (.goto 5, 3) := by decide +kernel
theorem d_M_hire_186 : decode b_M_hire 186 = .ok (.iload 4, 2) := by decide +kernel
theorem d_M_hire_188 : decode b_M_hire 188 = .ok (.istore 4, 2) := by decide +kernel
theorem d_M_hire_190 : decode b_M_hire 190 = .ok (.iload 10, 2) := by decide +kernel
theorem d_M_hire_192 : decode b_M_hire 192 = .ok (.ifCond .eq 8, 3) := by decide +kernel
theorem d_M_hire_195 : decode b_M_hire 195 = .ok (.iload 9, 2) := by decide +kernel
theorem d_M_hire_197 : decode b_M_hire 197 = .ok (.goto 5, 3) := by decide +kernel
theorem d_M_hire_200 : decode b_M_hire 200 = .ok (.iload 5, 2) := by decide +kernel
theorem d_M_hire_202 : decode b_M_hire 202 = .ok (.istore 5, 2) := by decide +kernel
theorem d_M_hire_204 : decode b_M_hire 204 = .ok (.iinc 6 1, 3) := by decide +kernel
theorem d_M_hire_207 : decode b_M_hire 207 = .ok (.goto (-171), 3) := by decide +kernel
theorem d_M_hire_210 : decode b_M_hire 210 = .ok (.iload 4, 2) := by decide +kernel
theorem d_M_hire_212 : decode b_M_hire 212 = .ok (.iconst (-1), 1) := by decide +kernel
theorem d_M_hire_213 : decode b_M_hire 213 = .ok (.if_icmp .ne 7, 3) := by decide +kernel
theorem d_M_hire_216 : decode b_M_hire 216 = .ok (.iconst (-1), 1) := by decide +kernel
theorem d_M_hire_217 : decode b_M_hire 217 = .ok (.goto 14, 3) := by decide +kernel
theorem d_M_hire_220 : decode b_M_hire 220 = .ok (.iload_n 3, 1) := by decide +kernel
theorem d_M_hire_221 : decode b_M_hire 221 = .ok (.ifCond .eq 8, 3) := by decide +kernel
theorem d_M_hire_224 : decode b_M_hire 224 = .ok (.iload 4, 2) := by decide +kernel
theorem d_M_hire_226 : decode b_M_hire 226 = .ok (.goto 5, 3) := by decide +kernel
theorem d_M_hire_229 : decode b_M_hire 229 = .ok (.iload 5, 2) := by decide +kernel
theorem d_M_hire_231 : decode b_M_hire 231 = .ok (.ireturn, 1) := by decide +kernel
theorem d_M_seen_0 : decode b_M_seen 0 = .ok (.aload_n 0, 1) := by decide +kernel
theorem d_M_seen_1 : decode b_M_seen 1 = .ok (.iconst 0, 1) := by decide +kernel
theorem d_M_seen_2 : decode b_M_seen 2 = .ok (.putfield 80, 3) := by decide +kernel
theorem d_M_seen_5 : decode b_M_seen 5 = .ok (.aload_n 0, 1) := by decide +kernel
theorem d_M_seen_6 : decode b_M_seen 6 = .ok (.iload_n 1, 1) := by decide +kernel
theorem d_M_seen_7 : decode b_M_seen 7 = .ok (.invokevirtual 470, 3) := by decide +kernel
theorem d_M_seen_10 : decode b_M_seen 10 = .ok (.ifCond .ne 6, 3) := by decide +kernel
theorem d_M_seen_13 : decode b_M_seen 13 = .ok (.bipush (-2), 2) := by decide +kernel
theorem d_M_seen_15 : decode b_M_seen 15 = .ok (.ireturn, 1) := by decide +kernel
theorem d_M_seen_16 : decode b_M_seen 16 = .ok (.iload_n 2, 1) := by decide +kernel
theorem d_M_seen_17 : decode b_M_seen 17 = .ok (.iconst (-1), 1) := by decide +kernel
theorem d_M_seen_18 : decode b_M_seen 18 = .ok (.if_icmp .ne 17, 3) := by decide +kernel
theorem d_M_seen_21 : decode b_M_seen 21 = .ok (.iload_n 3, 1) := by decide +kernel
theorem d_M_seen_22 : decode b_M_seen 22 = .ok (.ifCond .ne 10, 3) := by decide +kernel
theorem d_M_seen_25 : decode b_M_seen 25 = .ok (.aload_n 0, 1) := by decide +kernel
theorem d_M_seen_26 : decode b_M_seen 26 = .ok (.invokevirtual 473, 3) := by decide +kernel
theorem d_M_seen_29 : decode b_M_seen 29 = .ok (.goto 5, 3) := by decide +kernel
theorem d_M_seen_32 : decode b_M_seen 32 = .ok (.bipush (-2), 2) := by decide +kernel
theorem d_M_seen_34 : decode b_M_seen 34 = .ok (.ireturn, 1) := by decide +kernel
theorem d_M_seen_35 : decode b_M_seen 35 = .ok (.iload_n 2, 1) := by decide +kernel
theorem d_M_seen_36 : decode b_M_seen 36 = .ok (.iconst 0, 1) := by decide +kernel
theorem d_M_seen_37 : decode b_M_seen 37 = .ok (.aload_n 0, 1) := by decide +kernel
theorem d_M_seen_38 : decode b_M_seen 38 = .ok (.invokevirtual 473, 3) := by decide +kernel
theorem d_M_seen_41 : decode b_M_seen 41 = .ok (.iconst 1, 1) := by decide +kernel
theorem d_M_seen_42 : decode b_M_seen 42 = .ok (.isub, 1) := by decide +kernel
theorem d_M_seen_43 : decode b_M_seen 43 = .ok (.invokestatic 88, 3) := by decide +kernel
theorem d_M_seen_46 : decode b_M_seen 46 = .ok (.ifCond .eq 21, 3) := by decide +kernel
theorem d_M_seen_49 : decode b_M_seen 49 = .ok (.iload_n 3, 1) := by decide +kernel
theorem d_M_seen_50 : decode b_M_seen 50 = .ok (.iconst 0, 1) := by decide +kernel
theorem d_M_seen_51 : decode b_M_seen 51 = .ok (.iconst 2, 1) := by decide +kernel
theorem d_M_seen_52 : decode b_M_seen 52 = .ok (.invokestatic 88, 3) := by decide +kernel
theorem d_M_seen_55 : decode b_M_seen 55 = .ok (.ifCond .eq 12, 3) := by decide +kernel
theorem d_M_seen_58 : decode b_M_seen 58 = .ok (.aload_n 0, 1) := by decide +kernel
theorem d_M_seen_59 : decode b_M_seen 59 = .ok (.iload_n 2, 1) := by decide +kernel
theorem d_M_seen_60 : decode b_M_seen 60 = .ok (.iload_n 3, 1) := by decide +kernel
theorem d_M_seen_61 : decode b_M_seen 61 = .ok (.invokevirtual 476, 3) := by decide +kernel
theorem d_M_seen_64 : decode b_M_seen 64 = .ok (.goto 5, 3) := by decide +kernel
theorem d_M_seen_67 : decode b_M_seen 67 = .ok (.bipush (-2), 2) := by decide +kernel
theorem d_M_seen_69 : decode b_M_seen 69 = .ok (.ireturn, 1) := by decide +kernel
theorem d_M_hasSight_0 : decode b_M_hasSight 0 = .ok (.aload_n 0, 1) := by decide +kernel
theorem d_M_hasSight_1 : decode b_M_hasSight 1 = .ok (.iload_n 1, 1) := by decide +kernel
theorem d_M_hasSight_2 : decode b_M_hasSight 2 = .ok (.putfield 467, 3) := by decide +kernel
theorem d_M_hasSight_5 : decode b_M_hasSight 5 = .ok (.aload_n 0, 1) := by decide +kernel
theorem d_M_hasSight_6 : decode b_M_hasSight 6 = .ok (.iconst 3, 1) := by decide +kernel
theorem d_M_hasSight_7 : decode b_M_hasSight 7 = .ok (.iload_n 1, 1) := by decide +kernel
theorem d_M_hasSight_8 : decode b_M_hasSight 8 = .ok (.invokevirtual 227, 3) := by decide +kernel
theorem d_M_hasSight_11 : decode b_M_hasSight 11 = .ok (.ireturn, 1) := by decide +kernel
theorem d_M_seenMany_0 : decode b_M_seenMany 0 = .ok (.aload_n 0, 1) := by decide +kernel
theorem d_M_seenMany_1 : decode b_M_seenMany 1 = .ok (.getfield 35, 3) := by decide +kernel
theorem d_M_seenMany_4 : decode b_M_seenMany 4 = .ok (.bipush 61, 2) := by decide +kernel
theorem d_M_seenMany_6 : decode b_M_seenMany 6 = .ok (.aload_n 0, 1) := by decide +kernel
theorem d_M_seenMany_7 : decode b_M_seenMany 7 = .ok (.getfield 467, 3) := by decide +kernel
theorem d_M_seenMany_10 : decode b_M_seenMany 10 = .ok (.imul, 1) := by decide +kernel
theorem d_M_seenMany_11 : decode b_M_seenMany 11 = .ok (.iaload, 1) := by decide +kernel
theorem d_M_seenMany_12 : decode b_M_seenMany 12 = .ok (.ireturn, 1) := by decide +kernel
theorem d_M_seenOf_0 : decode b_M_seenOf 0 = .ok (.aload_n 0, 1) := by decide +kernel
theorem d_M_seenOf_1 : decode b_M_seenOf 1 = .ok (.getfield 35, 3) := by decide +kernel
theorem d_M_seenOf_4 : decode b_M_seenOf 4 = .ok (.bipush 61, 2) := by decide +kernel
theorem d_M_seenOf_6 : decode b_M_seenOf 6 = .ok (.aload_n 0, 1) := by decide +kernel
theorem d_M_seenOf_7 : decode b_M_seenOf 7 = .ok (.getfield 467, 3) := by decide +kernel
theorem d_M_seenOf_10 : decode b_M_seenOf 10 = .ok (.imul, 1) := by decide +kernel
theorem d_M_seenOf_11 : decode b_M_seenOf 11 = .ok (.iconst 1, 1) := by decide +kernel
theorem d_M_seenOf_12 : decode b_M_seenOf 12 = .ok (.iadd, 1) := by decide +kernel
theorem d_M_seenOf_13 : decode b_M_seenOf 13 = .ok (.iconst 3, 1) := by decide +kernel
theorem d_M_seenOf_14 : decode b_M_seenOf 14 = .ok (.iload_n 1, 1) := by decide +kernel
theorem d_M_seenOf_15 : decode b_M_seenOf 15 = .ok (.imul, 1) := by decide +kernel
theorem d_M_seenOf_16 : decode b_M_seenOf 16 = .ok (.iadd, 1) := by decide +kernel
theorem d_M_seenOf_17 : decode b_M_seenOf 17 = .ok (.iload_n 2, 1) := by decide +kernel
theorem d_M_seenOf_18 : decode b_M_seenOf 18 = .ok (.iadd, 1) := by decide +kernel
theorem d_M_seenOf_19 : decode b_M_seenOf 19 = .ok (.iaload, 1) := by decide +kernel
theorem d_M_seenOf_20 : decode b_M_seenOf 20 = .ok (.ireturn, 1) := by decide +kernel
theorem d_M_stolen_0 : decode b_M_stolen 0 = .ok (.aload_n 0, 1) := by decide +kernel
theorem d_M_stolen_1 : decode b_M_stolen 1 = .ok (.iconst 0, 1) := by decide +kernel
theorem d_M_stolen_2 : decode b_M_stolen 2 = .ok (.putfield 80, 3) := by decide +kernel
theorem d_M_stolen_5 : decode b_M_stolen 5 = .ok (.iload 4, 2) := by decide +kernel
theorem d_M_stolen_7 : decode b_M_stolen 7 = .ok (.iconst 0, 1) := by decide +kernel
theorem d_M_stolen_8 : decode b_M_stolen 8 = .ok (.iconst 3, 1) := by decide +kernel
theorem d_M_stolen_9 : decode b_M_stolen 9 = .ok (.invokestatic 88, 3) := by decide +kernel
theorem d_M_stolen_12 : decode b_M_stolen 12 = .ok (.ifCond .eq 27, 3) := by decide +kernel
theorem d_M_stolen_15 : decode b_M_stolen 15 = .ok (.aload_n 0, 1) := by decide +kernel
theorem d_M_stolen_16 : decode b_M_stolen 16 = .ok (.iload_n 3, 1) := by decide +kernel
theorem d_M_stolen_17 : decode b_M_stolen 17 = .ok (.invokevirtual 470, 3) := by decide +kernel
theorem d_M_stolen_20 : decode b_M_stolen 20 = .ok (.ifCond .eq 19, 3) := by decide +kernel
theorem d_M_stolen_23 : decode b_M_stolen 23 = .ok (.aload_n 0, 1) := by decide +kernel
theorem d_M_stolen_24 : decode b_M_stolen 24 = .ok (.iload_n 1, 1) := by decide +kernel
theorem d_M_stolen_25 : decode b_M_stolen 25 = .ok (.iload_n 2, 1) := by decide +kernel
theorem d_M_stolen_26 : decode b_M_stolen 26 = .ok (.invokevirtual 293, 3) := by decide +kernel
theorem d_M_stolen_29 : decode b_M_stolen 29 = .ok (.ifCond .eq 10, 3) := by decide +kernel
theorem d_M_stolen_32 : decode b_M_stolen 32 = .ok (.aload_n 0, 1) := by decide +kernel
theorem d_M_stolen_33 : decode b_M_stolen 33 = .ok (.invokevirtual 482, 3) := by decide +kernel
theorem d_M_stolen_36 : decode b_M_stolen 36 = .ok (.ifCond .ne 6, 3) := by decide +kernel
theorem d_M_stolen_39 : decode b_M_stolen 39 = .ok (.bipush (-2), 2) := by decide +kernel
theorem d_M_stolen_41 : decode b_M_stolen 41 = .ok (.ireturn, 1) := by decide +kernel
theorem d_M_stolen_42 : decode b_M_stolen 42 = .ok (.iconst 0, 1) := by decide +kernel
theorem d_M_stolen_43 : decode b_M_stolen 43 = .ok (.istore 5, 2) := by decide +kernel
theorem d_M_stolen_45 : decode b_M_stolen 45 = .ok (.aload_n 0, 1) := by decide +kernel
theorem d_M_stolen_46 : decode b_M_stolen 46 = .ok (.invokevirtual 423, 3) := by decide +kernel
theorem d_M_stolen_49 : decode b_M_stolen 49 = .ok (.istore 6, 2) := by decide +kernel
theorem d_M_stolen_51 : decode b_M_stolen 51 = .ok (.iconst (-1), 1) := by decide +kernel
theorem d_M_stolen_52 : decode b_M_stolen 52 = .ok (.istore 7, 2) := by decide +kernel
theorem d_M_stolen_54 : decode b_M_stolen 54 = .ok (.iconst (-1), 1) := by decide +kernel
theorem d_M_stolen_55 : decode b_M_stolen 55 = .ok (.istore 8, 2) := by decide +kernel
theorem d_M_stolen_57 : decode b_M_stolen 57 = .ok (.iconst 0, 1) := by decide +kernel
theorem d_M_stolen_58 : decode b_M_stolen 58 = .ok (.istore 9, 2) := by decide +kernel
theorem d_M_stolen_60 : decode b_M_stolen 60 = .ok (.iload 9, 2) := by decide +kernel
theorem d_M_stolen_62 : decode b_M_stolen 62 = .ok (.aload_n 0, 1) := by decide +kernel
theorem d_M_stolen_63 : decode b_M_stolen 63 = .ok (.getfield 247, 3) := by decide +kernel
theorem d_M_stolen_66 : decode b_M_stolen 66 = .ok (.if_icmp .gt 106, 3) := by decide +kernel
theorem d_M_stolen_69 : decode b_M_stolen 69 = .ok (.iload 9, 2) := by decide +kernel
theorem d_M_stolen_71 : decode b_M_stolen 71 = .ok (.ifCond .eq 12, 3) := by decide +kernel
theorem d_M_stolen_74 : decode b_M_stolen 74 = .ok (.iload 9, 2) := by decide +kernel
theorem d_M_stolen_76 : decode b_M_stolen 76 = .ok (.aload_n 0, 1) := by decide +kernel
theorem d_M_stolen_77 : decode b_M_stolen 77 = .ok (.getfield 247, 3) := by decide +kernel
theorem d_M_stolen_80 : decode b_M_stolen 80 = .ok (.if_icmp .ne 7, 3) := by decide +kernel
theorem d_M_stolen_83 : decode b_M_stolen 83 = .ok (.iconst 1, 1) := by decide +kernel
theorem d_M_stolen_84 : decode b_M_stolen 84 = .ok (.goto 7, 3) := by decide +kernel
theorem d_M_stolen_87 : decode b_M_stolen 87 = .ok (.aload_n 0, 1) := by decide +kernel
theorem d_M_stolen_88 : decode b_M_stolen 88 = .ok (.getfield 247, 3) := by decide +kernel
theorem d_M_stolen_91 : decode b_M_stolen 91 = .ok (.istore 10, 2) := by decide +kernel
theorem d_M_stolen_93 : decode b_M_stolen 93 = .ok (.iconst 0, 1) := by decide +kernel
theorem d_M_stolen_94 : decode b_M_stolen 94 = .ok (.istore 11, 2) := by decide +kernel
theorem d_M_stolen_96 : decode b_M_stolen 96 = .ok (.iload 11, 2) := by decide +kernel
theorem d_M_stolen_98 : decode b_M_stolen 98 = .ok (.iload 10, 2) := by decide +kernel
theorem d_M_stolen_100 : decode b_M_stolen 100 = .ok (.if_icmp .ge 66, 3) := by decide +kernel
theorem d_M_stolen_103 : decode b_M_stolen 103 = .ok (.aload_n 0, 1) := by decide +kernel
theorem d_M_stolen_104 : decode b_M_stolen 104 = .ok (.iload 11, 2) := by decide +kernel
theorem d_M_stolen_106 : decode b_M_stolen 106 = .ok (.iload 9, 2) := by decide +kernel
theorem d_M_stolen_108 : decode b_M_stolen 108 = .ok (.invokevirtual 485, 3) := by decide +kernel
theorem d_M_stolen_111 : decode b_M_stolen 111 = .ok (.istore 12, 2) := by decide +kernel
theorem d_M_stolen_113 : decode b_M_stolen 113 = .ok (.aload_n 0, 1) := by decide +kernel
theorem d_M_stolen_114 : decode b_M_stolen 114 = .ok (.iload 12, 2) := by decide +kernel
theorem d_M_stolen_116 : decode b_M_stolen 116 = .ok (.invokevirtual 488, 3) := by decide +kernel
theorem d_M_stolen_119 : decode b_M_stolen 119 = .ok (.ifCond .eq 41, 3) := by decide +kernel
theorem d_M_stolen_122 : decode b_M_stolen 122 = .ok (.iload 5, 2) := by decide +kernel
theorem d_M_stolen_124 : decode b_M_stolen 124 = .ok (.ifCond .ne 8, 3) := by decide +kernel
theorem d_M_stolen_127 : decode b_M_stolen 127 = .ok (.iload 11, 2) := by decide +kernel
theorem d_M_stolen_129 : decode b_M_stolen 129 = .ok (.goto 5, 3) := by decide +kernel
theorem d_M_stolen_132 : decode b_M_stolen 132 = .ok (.iload 8, 2) := by decide +kernel
theorem d_M_stolen_134 : decode b_M_stolen 134 = .ok (.istore 8, 2) := by decide +kernel
theorem d_M_stolen_136 : decode b_M_stolen 136 = .ok (.iload 5, 2) := by decide +kernel
theorem d_M_stolen_138 : decode b_M_stolen 138 = .ok (.ifCond .ne 8, 3) := by decide +kernel
theorem d_M_stolen_141 : decode b_M_stolen 141 = .ok (.iload 9, 2) := by decide +kernel
theorem d_M_stolen_143 : decode b_M_stolen 143 = .ok (.goto 5, 3) := by decide +kernel
theorem d_M_stolen_146 : decode b_M_stolen 146 = .ok (.iload 7, 2) := by decide +kernel
theorem d_M_stolen_148 : decode b_M_stolen 148 = .ok (.istore 7, 2) := by decide +kernel
theorem d_M_stolen_150 : decode b_M_stolen 150 = .ok (.iload 6, 2) := by decide +kernel
theorem d_M_stolen_152 : decode b_M_stolen 152 = .ok (.iload 12, 2) := by decide +kernel
theorem d_M_stolen_154 : decode b_M_stolen 154 = .ok (.iand, 1) := by decide +kernel
theorem d_M_stolen_155 : decode b_M_stolen 155 = .ok (.istore 6, 2) := by decide +kernel
theorem d_M_stolen_157 : decode b_M_stolen 157 = .ok (.iinc 5 1, 3) := by decide +kernel
theorem d_M_stolen_160 : decode b_M_stolen 160 = .ok (.iinc 11 1, 3) := by decide +kernel
theorem d_M_stolen_163 : decode b_M_stolen 163 = .ok (.goto (-67), 3) := by decide +kernel
theorem d_M_stolen_166 : decode b_M_stolen 166 = .ok (.iinc 9 1, 3) := by decide +kernel
theorem d_M_stolen_169 : decode b_M_stolen 169 = .ok (.goto (-109), 3) := by decide +kernel
theorem d_M_stolen_172 : decode b_M_stolen 172 = .ok (.iload 4, 2) := by decide +kernel
theorem d_M_stolen_174 : decode b_M_stolen 174 = .ok (.ifCond .ne 8, 3) := by decide +kernel
theorem d_M_stolen_177 : decode b_M_stolen 177 = .ok (.iload 5, 2) := by decide +kernel
theorem d_M_stolen_179 : decode b_M_stolen 179 = .ok (.goto 36, 3) := by decide +kernel
theorem d_M_stolen_182 : decode b_M_stolen 182 = .ok (.iload 4, 2) := by decide +kernel
theorem d_M_stolen_184 : decode b_M_stolen 184 = .ok (.iconst 1, 1) := by decide +kernel
theorem d_M_stolen_185 : decode b_M_stolen 185 = .ok (.if_icmp .ne 17, 3) := by decide +kernel
theorem d_M_stolen_188 : decode b_M_stolen 188 = .ok (.iload 5, 2) := by decide +kernel
theorem d_M_stolen_190 : decode b_M_stolen 190 = .ok (.ifCond .ne 7, 3) := by decide +kernel
theorem d_M_stolen_193 : decode b_M_stolen 193 = .ok (.iconst 0, 1) := by decide +kernel
theorem d_M_stolen_194 : decode b_M_stolen 194 = .ok (.goto 21, 3) := by decide +kernel
theorem d_M_stolen_197 : decode b_M_stolen 197 = .ok (.iload 6, 2) := by decide +kernel
theorem d_M_stolen_199 : decode b_M_stolen 199 = .ok (.goto 16, 3) := by decide +kernel
theorem d_M_stolen_202 : decode b_M_stolen 202 = .ok (.iload 4, 2) := by decide +kernel
theorem d_M_stolen_204 : decode b_M_stolen 204 = .ok (.iconst 2, 1) := by decide +kernel
theorem d_M_stolen_205 : decode b_M_stolen 205 = .ok (.if_icmp .ne 8, 3) := by decide +kernel
theorem d_M_stolen_208 : decode b_M_stolen 208 = .ok (.iload 7, 2) := by decide +kernel
theorem d_M_stolen_210 : decode b_M_stolen 210 = .ok (.goto 5, 3) := by decide +kernel
theorem d_M_stolen_213 : decode b_M_stolen 213 = .ok (.iload 8, 2) := by decide +kernel
theorem d_M_stolen_215 : decode b_M_stolen 215 = .ok (.ireturn, 1) := by decide +kernel
theorem d_M_areThere_0 : decode b_M_areThere 0 = .ok (.iconst 0, 1) := by decide +kernel
theorem d_M_areThere_1 : decode b_M_areThere 1 = .ok (.istore_n 1, 1) := by decide +kernel
theorem d_M_areThere_2 : decode b_M_areThere 2 = .ok (.iload_n 1, 1) := by decide +kernel
theorem d_M_areThere_3 : decode b_M_areThere 3 = .ok (.aload_n 0, 1) := by decide +kernel
theorem d_M_areThere_4 : decode b_M_areThere 4 = .ok (.invokevirtual 473, 3) := by decide +kernel
theorem d_M_areThere_7 : decode b_M_areThere 7 = .ok (.if_icmp .ge 37, 3) := by decide +kernel
theorem d_M_areThere_10 : decode b_M_areThere 10 = .ok (.aload_n 0, 1) := by decide +kernel
theorem d_M_areThere_11 : decode b_M_areThere 11 = .ok (.aload_n 0, 1) := by decide +kernel
theorem d_M_areThere_12 : decode b_M_areThere 12 = .ok (.iload_n 1, 1) := by decide +kernel
theorem d_M_areThere_13 : decode b_M_areThere 13 = .ok (.iconst 0, 1) := by decide +kernel
theorem d_M_areThere_14 : decode b_M_areThere 14 = .ok (.invokevirtual 476, 3) := by decide +kernel
theorem d_M_areThere_17 : decode b_M_areThere 17 = .ok (.invokevirtual 262, 3) := by decide +kernel
theorem d_M_areThere_20 : decode b_M_areThere 20 = .ok (.ifCond .eq 16, 3) := by decide +kernel
theorem d_M_areThere_23 : decode b_M_areThere 23 = .ok (.aload_n 0, 1) := by decide +kernel
theorem d_M_areThere_24 : decode b_M_areThere 24 = .ok (.aload_n 0, 1) := by decide +kernel
theorem d_M_areThere_25 : decode b_M_areThere 25 = .ok (.iload_n 1, 1) := by decide +kernel
theorem d_M_areThere_26 : decode b_M_areThere 26 = .ok (.iconst 1, 1) := by decide +kernel
theorem d_M_areThere_27 : decode b_M_areThere 27 = .ok (.invokevirtual 476, 3) := by decide +kernel
theorem d_M_areThere_30 : decode b_M_areThere 30 = .ok (.invokevirtual 479, 3) := by decide +kernel
theorem d_M_areThere_33 : decode b_M_areThere 33 = .ok (.ifCond .ne 5, 3) := by decide +kernel
theorem d_M_areThere_36 : decode b_M_areThere 36 = .ok (.iconst 0, 1) := by decide +kernel
theorem d_M_areThere_37 : decode b_M_areThere 37 = .ok (.ireturn, 1) := by decide +kernel
theorem d_M_areThere_38 : decode b_M_areThere 38 = .ok (.iinc 1 1, 3) := by decide +kernel
theorem d_M_areThere_41 : decode b_M_areThere 41 = .ok (.goto (-39), 3) := by decide +kernel
theorem d_M_areThere_44 : decode b_M_areThere 44 = .ok (.iconst 1, 1) := by decide +kernel
theorem d_M_areThere_45 : decode b_M_areThere 45 = .ok (.ireturn, 1) := by decide +kernel
theorem d_M_isHour_0 : decode b_M_isHour 0 = .ok (.iload_n 1, 1) := by decide +kernel
theorem d_M_isHour_1 : decode b_M_isHour 1 = .ok (.iconst 0, 1) := by decide +kernel
theorem d_M_isHour_2 : decode b_M_isHour 2 = .ok (.aload_n 0, 1) := by decide +kernel
theorem d_M_isHour_3 : decode b_M_isHour 3 = .ok (.getfield 247, 3) := by decide +kernel
theorem d_M_isHour_6 : decode b_M_isHour 6 = .ok (.iconst 1, 1) := by decide +kernel
theorem d_M_isHour_7 : decode b_M_isHour 7 = .ok (.isub, 1) := by decide +kernel
theorem d_M_isHour_8 : decode b_M_isHour 8 = .ok (.invokestatic 88, 3) := by decide +kernel
theorem d_M_isHour_11 : decode b_M_isHour 11 = .ok (.ireturn, 1) := by decide +kernel
theorem d_M_awayFor_0 : decode b_M_awayFor 0 = .ok (.iconst 0, 1) := by decide +kernel
theorem d_M_awayFor_1 : decode b_M_awayFor 1 = .ok (.istore_n 3, 1) := by decide +kernel
theorem d_M_awayFor_2 : decode b_M_awayFor 2 = .ok (.iconst 0, 1) := by decide +kernel
theorem d_M_awayFor_3 : decode b_M_awayFor 3 = .ok (.istore 4, 2) := by decide +kernel
theorem d_M_awayFor_5 : decode b_M_awayFor 5 = .ok (.iload 4, 2) := by decide +kernel
theorem d_M_awayFor_7 : decode b_M_awayFor 7 = .ok (.iload_n 2, 1) := by decide +kernel
theorem d_M_awayFor_8 : decode b_M_awayFor 8 = .ok (.if_icmp .ge 23, 3) := by decide +kernel
theorem d_M_awayFor_11 : decode b_M_awayFor 11 = .ok (.iload_n 3, 1) := by decide +kernel
theorem d_M_awayFor_12 : decode b_M_awayFor 12 = .ok (.iconst 1, 1) := by decide +kernel
theorem d_M_awayFor_13 : decode b_M_awayFor 13 = .ok (.iload_n 1, 1) := by decide +kernel
theorem d_M_awayFor_14 : decode b_M_awayFor 14 = .ok (.iload 4, 2) := by decide +kernel
theorem d_M_awayFor_16 : decode b_M_awayFor 16 = .ok (.iadd, 1) := by decide +kernel
theorem d_M_awayFor_17 : decode b_M_awayFor 17 = .ok (.aload_n 0, 1) := by decide +kernel
theorem d_M_awayFor_18 : decode b_M_awayFor 18 = .ok (.getfield 247, 3) := by decide +kernel
theorem d_M_awayFor_21 : decode b_M_awayFor 21 = .ok (.irem, 1) := by decide +kernel
theorem d_M_awayFor_22 : decode b_M_awayFor 22 = .ok (.ishl, 1) := by decide +kernel
theorem d_M_awayFor_23 : decode b_M_awayFor 23 = .ok (.ior, 1) := by decide +kernel
theorem d_M_awayFor_24 : decode b_M_awayFor 24 = .ok (.istore_n 3, 1) := by decide +kernel
theorem d_M_awayFor_25 : decode b_M_awayFor 25 = .ok (.iinc 4 1, 3) := by decide +kernel
theorem d_M_awayFor_28 : decode b_M_awayFor 28 = .ok (.goto (-23), 3) := by decide +kernel
theorem d_M_awayFor_31 : decode b_M_awayFor 31 = .ok (.iload_n 3, 1) := by decide +kernel
theorem d_M_awayFor_32 : decode b_M_awayFor 32 = .ok (.ireturn, 1) := by decide +kernel
theorem d_M_fits_0 : decode b_M_fits 0 = .ok (.iconst 0, 1) := by decide +kernel
theorem d_M_fits_1 : decode b_M_fits 1 = .ok (.istore_n 2, 1) := by decide +kernel
theorem d_M_fits_2 : decode b_M_fits 2 = .ok (.iload_n 2, 1) := by decide +kernel
theorem d_M_fits_3 : decode b_M_fits 3 = .ok (.aload_n 0, 1) := by decide +kernel
theorem d_M_fits_4 : decode b_M_fits 4 = .ok (.invokevirtual 473, 3) := by decide +kernel
theorem d_M_fits_7 : decode b_M_fits 7 = .ok (.if_icmp .ge 73, 3) := by decide +kernel
theorem d_M_fits_10 : decode b_M_fits 10 = .ok (.aload_n 0, 1) := by decide +kernel
theorem d_M_fits_11 : decode b_M_fits 11 = .ok (.iload_n 2, 1) := by decide +kernel
theorem d_M_fits_12 : decode b_M_fits 12 = .ok (.iconst 1, 1) := by decide +kernel
theorem d_M_fits_13 : decode b_M_fits 13 = .ok (.invokevirtual 476, 3) := by decide +kernel
theorem d_M_fits_16 : decode b_M_fits 16 = .ok (.istore_n 3, 1) := by decide +kernel
theorem d_M_fits_17 : decode b_M_fits 17 = .ok (.aload_n 0, 1) := by decide +kernel
theorem d_M_fits_18 : decode b_M_fits 18 = .ok (.getfield 47, 3) := by decide +kernel
theorem d_M_fits_21 : decode b_M_fits 21 = .ok (.iload_n 3, 1) := by decide +kernel
theorem d_M_fits_22 : decode b_M_fits 22 = .ok (.iaload, 1) := by decide +kernel
theorem d_M_fits_23 : decode b_M_fits 23 = .ok (.aload_n 0, 1) := by decide +kernel
theorem d_M_fits_24 : decode b_M_fits 24 = .ok (.aload_n 0, 1) := by decide +kernel
theorem d_M_fits_25 : decode b_M_fits 25 = .ok (.iload_n 2, 1) := by decide +kernel
theorem d_M_fits_26 : decode b_M_fits 26 = .ok (.iconst 0, 1) := by decide +kernel
theorem d_M_fits_27 : decode b_M_fits 27 = .ok (.invokevirtual 476, 3) := by decide +kernel
theorem d_M_fits_30 : decode b_M_fits 30 = .ok (.iconst 0, 1) := by decide +kernel
theorem d_M_fits_31 : decode b_M_fits 31 = .ok (.invokevirtual 244, 3) := by decide +kernel
theorem d_M_fits_34 : decode b_M_fits 34 = .ok (.if_icmp .ne 15, 3) := by decide +kernel
theorem d_M_fits_37 : decode b_M_fits 37 = .ok (.iload_n 1, 1) := by decide +kernel
theorem d_M_fits_38 : decode b_M_fits 38 = .ok (.iload_n 3, 1) := by decide +kernel
theorem d_M_fits_39 : decode b_M_fits 39 = .ok (.invokestatic 417, 3) := by decide +kernel
theorem d_M_fits_42 : decode b_M_fits 42 = .ok (.ifCond .ne 7, 3) := by decide +kernel
theorem d_M_fits_45 : decode b_M_fits 45 = .ok (.iconst 1, 1) := by decide +kernel
theorem d_M_fits_46 : decode b_M_fits 46 = .ok (.goto 4, 3) := by decide +kernel
theorem d_M_fits_49 : decode b_M_fits 49 = .ok (.iconst 0, 1) := by decide +kernel
theorem d_M_fits_50 : decode b_M_fits 50 = .ok (.istore 4, 2) := by decide +kernel
theorem d_M_fits_52 : decode b_M_fits 52 = .ok (.iload 4, 2) := by decide +kernel
theorem d_M_fits_54 : decode b_M_fits 54 = .ok (.aload_n 0, 1) := by decide +kernel
theorem d_M_fits_55 : decode b_M_fits 55 = .ok (.iload_n 2, 1) := by decide +kernel
theorem d_M_fits_56 : decode b_M_fits 56 = .ok (.iconst 2, 1) := by decide +kernel
theorem d_M_fits_57 : decode b_M_fits 57 = .ok (.invokevirtual 476, 3) := by decide +kernel
theorem d_M_fits_60 : decode b_M_fits 60 = .ok (.iconst 1, 1) := by decide +kernel
theorem d_M_fits_61 : decode b_M_fits 61 = .ok (.if_icmp .ne 7, 3) := by decide +kernel
theorem d_M_fits_64 : decode b_M_fits 64 = .ok (.iconst 1, 1) := by decide +kernel
theorem d_M_fits_65 : decode b_M_fits 65 = .ok (.goto 4, 3) := by decide +kernel
theorem d_M_fits_68 : decode b_M_fits 68 = .ok (.iconst 0, 1) := by decide +kernel
theorem d_M_fits_69 : decode b_M_fits 69 = .ok (.if_icmp .eq 5, 3) := by decide +kernel
theorem d_M_fits_72 : decode b_M_fits 72 = .ok (.iconst 0, 1) := by decide +kernel
theorem d_M_fits_73 : decode b_M_fits 73 = .ok (.ireturn, 1) := by decide +kernel
theorem d_M_fits_74 : decode b_M_fits 74 = .ok (.iinc 2 1, 3) := by decide +kernel
theorem d_M_fits_77 : decode b_M_fits 77 = .ok (.goto (-75), 3) := by decide +kernel
theorem d_M_fits_80 : decode b_M_fits 80 = .ok (.iconst 1, 1) := by decide +kernel
theorem d_M_fits_81 : decode b_M_fits 81 = .ok (.ireturn, 1) := by decide +kernel
theorem d_M_game_0 : decode b_M_game 0 = .ok (.aload_n 0, 1) := by decide +kernel
theorem d_M_game_1 : decode b_M_game 1 = .ok (.iconst 0, 1) := by decide +kernel
theorem d_M_game_2 : decode b_M_game 2 = .ok (.putfield 80, 3) := by decide +kernel
theorem d_M_game_5 : decode b_M_game 5 = .ok (.aload_n 0, 1) := by decide +kernel
theorem d_M_game_6 : decode b_M_game 6 = .ok (.iload_n 1, 1) := by decide +kernel
theorem d_M_game_7 : decode b_M_game 7 = .ok (.putfield 491, 3) := by decide +kernel
theorem d_M_game_10 : decode b_M_game 10 = .ok (.aload_n 0, 1) := by decide +kernel
theorem d_M_game_11 : decode b_M_game 11 = .ok (.iconst 4, 1) := by decide +kernel
theorem d_M_game_12 : decode b_M_game 12 = .ok (.iload_n 1, 1) := by decide +kernel
theorem d_M_game_13 : decode b_M_game 13 = .ok (.invokevirtual 227, 3) := by decide +kernel
theorem d_M_game_16 : decode b_M_game 16 = .ok (.ifCond .eq 31, 3) := by decide +kernel
theorem d_M_game_19 : decode b_M_game 19 = .ok (.iload_n 2, 1) := by decide +kernel
theorem d_M_game_20 : decode b_M_game 20 = .ok (.iconst 0, 1) := by decide +kernel
theorem d_M_game_21 : decode b_M_game 21 = .ok (.bipush 7, 2) := by decide +kernel
theorem d_M_game_23 : decode b_M_game 23 = .ok (.invokestatic 88, 3) := by decide +kernel
theorem d_M_game_26 : decode b_M_game 26 = .ok (.ifCond .eq 21, 3) := by decide +kernel
theorem d_M_game_29 : decode b_M_game 29 = .ok (.iload_n 3, 1) := by decide +kernel
theorem d_M_game_30 : decode b_M_game 30 = .ok (.iconst 0, 1) := by decide +kernel
theorem d_M_game_31 : decode b_M_game 31 = .ok (.iload_n 2, 1) := by decide +kernel
theorem d_M_game_32 : decode b_M_game 32 = .ok (.ifCond .le 7, 3) := by decide +kernel
theorem d_M_game_35 : decode b_M_game 35 = .ok (.iconst 0, 1) := by decide +kernel
theorem d_M_game_36 : decode b_M_game 36 = .ok (.goto 5, 3) := by decide +kernel
theorem d_M_game_39 : decode b_M_game 39 = .ok (.bipush 6, 2) := by decide +kernel
theorem d_M_game_41 : decode b_M_game 41 = .ok (.invokestatic 88, 3) := by decide +kernel
theorem d_M_game_44 : decode b_M_game 44 = .ok (.ifCond .ne 7, 3) := by decide +kernel
theorem d_M_game_47 : decode b_M_game 47 = .ok (.sipush (-1000), 3) := by decide +kernel
theorem d_M_game_50 : decode b_M_game 50 = .ok (.ireturn, 1) := by decide +kernel
theorem d_M_game_51 : decode b_M_game 51 = .ok (.iload_n 2, 1) := by decide +kernel
theorem d_M_game_52 : decode b_M_game 52 = .ok (.ifCond .le 9, 3) := by decide +kernel
theorem d_M_game_55 : decode b_M_game 55 = .ok (.aload_n 0, 1) := by decide +kernel
theorem d_M_game_56 : decode b_M_game 56 = .ok (.iload_n 2, 1) := by decide +kernel
theorem d_M_game_57 : decode b_M_game 57 = .ok (.invokevirtual 494, 3) := by decide +kernel
theorem d_M_game_60 : decode b_M_game 60 = .ok (.ireturn, 1) := by decide +kernel
theorem d_M_game_61 : decode b_M_game 61 = .ok (.iload_n 3, 1) := by decide +kernel
theorem d_M_game_62 : decode b_M_game 62 = .ok (.iconst 3, 1) := by decide +kernel
theorem d_M_game_63 : decode b_M_game 63 = .ok (.if_icmp .le 11, 3) := by decide +kernel
theorem d_M_game_66 : decode b_M_game 66 = .ok (.aload_n 0, 1) := by decide +kernel
theorem d_M_game_67 : decode b_M_game 67 = .ok (.iload_n 3, 1) := by decide +kernel
theorem d_M_game_68 : decode b_M_game 68 = .ok (.iconst 4, 1) := by decide +kernel
theorem d_M_game_69 : decode b_M_game 69 = .ok (.isub, 1) := by decide +kernel
theorem d_M_game_70 : decode b_M_game 70 = .ok (.invokevirtual 497, 3) := by decide +kernel
theorem d_M_game_73 : decode b_M_game 73 = .ok (.ireturn, 1) := by decide +kernel
theorem d_M_game_74 : decode b_M_game 74 = .ok (.aload_n 0, 1) := by decide +kernel
theorem d_M_game_75 : decode b_M_game 75 = .ok (.bipush 7, 2) := by decide +kernel
theorem d_M_game_77 : decode b_M_game 77 = .ok (.invokevirtual 494, 3) := by decide +kernel
theorem d_M_game_80 : decode b_M_game 80 = .ok (.istore 4, 2) := by decide +kernel
theorem d_M_game_82 : decode b_M_game 82 = .ok (.iconst 0, 1) := by decide +kernel
theorem d_M_game_83 : decode b_M_game 83 = .ok (.istore 5, 2) := by decide +kernel
theorem d_M_game_85 : decode b_M_game 85 = .ok (.iconst 0, 1) := by decide +kernel
theorem d_M_game_86 : decode b_M_game 86 = .ok (.istore 6, 2) := by decide +kernel
theorem d_M_game_88 : decode b_M_game 88 = .ok (.iconst 0, 1) := by decide +kernel
theorem d_M_game_89 : decode b_M_game 89 = .ok (.istore 7, 2) := by decide +kernel
theorem d_M_game_91 : decode b_M_game 91 = .ok (.iload 7, 2) := by decide +kernel
theorem d_M_game_93 : decode b_M_game 93 = .ok (.iload 4, 2) := by decide +kernel
theorem d_M_game_95 : decode b_M_game 95 = .ok (.if_icmp .gt 70, 3) := by decide +kernel
theorem d_M_game_98 : decode b_M_game 98 = .ok (.iconst 0, 1) := by decide +kernel
theorem d_M_game_99 : decode b_M_game 99 = .ok (.istore 8, 2) := by decide +kernel
theorem d_M_game_101 : decode b_M_game 101 = .ok (.iload 8, 2) := by decide +kernel
theorem d_M_game_103 : decode b_M_game 103 = .ok (.iload 4, 2) := by decide +kernel
theorem d_M_game_105 : decode b_M_game 105 = .ok (.iload 7, 2) := by decide +kernel
theorem d_M_game_107 : decode b_M_game 107 = .ok (.isub, 1) := by decide +kernel
theorem d_M_game_108 : decode b_M_game 108 = .ok (.if_icmp .gt 51, 3) := by decide +kernel
theorem d_M_game_111 : decode b_M_game 111 = .ok (.aload_n 0, 1) := by decide +kernel
theorem d_M_game_112 : decode b_M_game 112 = .ok (.iload 7, 2) := by decide +kernel
theorem d_M_game_114 : decode b_M_game 114 = .ok (.iload 8, 2) := by decide +kernel
theorem d_M_game_116 : decode b_M_game 116 = .ok (.iload 4, 2) := by decide +kernel
theorem d_M_game_118 : decode b_M_game 118 = .ok (.iload 7, 2) := by decide +kernel
theorem d_M_game_120 : decode b_M_game 120 = .ok (.isub, 1) := by decide +kernel
theorem d_M_game_121 : decode b_M_game 121 = .ok (.iload 8, 2) := by decide +kernel
theorem d_M_game_123 : decode b_M_game 123 = .ok (.isub, 1) := by decide +kernel
theorem d_M_game_124 : decode b_M_game 124 = .ok (.invokevirtual 500, 3) := by decide +kernel
theorem d_M_game_127 : decode b_M_game 127 = .ok (.ifCond .eq 26, 3) := by decide +kernel
theorem d_M_game_130 : decode b_M_game 130 = .ok (.iload 5, 2) := by decide +kernel
theorem d_M_game_132 : decode b_M_game 132 = .ok (.ifCond .ne 14, 3) := by decide +kernel
theorem d_M_game_135 : decode b_M_game 135 = .ok (.bipush 100, 2) := by decide +kernel
theorem d_M_game_137 : decode b_M_game 137 = .ok (.iload 7, 2) := by decide +kernel
theorem d_M_game_139 : decode b_M_game 139 = .ok (.imul, 1) := by decide +kernel
theorem d_M_game_140 : decode b_M_game 140 = .ok (.iload 8, 2) := by decide +kernel
theorem d_M_game_142 : decode b_M_game 142 = .ok (.iadd, 1) := by decide +kernel
theorem d_M_game_143 : decode b_M_game 143 = .ok (.goto 5, 3) := by decide +kernel
theorem d_M_game_146 : decode b_M_game 146 = .ok (.iload 6, 2) := by decide +kernel
theorem d_M_game_148 : decode b_M_game 148 = .ok (.istore 6, 2) := by decide +kernel
theorem d_M_game_150 : decode b_M_game 150 = .ok (.iinc 5 1, 3) := by decide +kernel
theorem d_M_game_153 : decode b_M_game 153 = .ok (.iinc 8 1, 3) := by decide +kernel
theorem d_M_game_156 : decode b_M_game 156 = .ok (.goto (-55), 3) := by decide +kernel
theorem d_M_game_159 : decode b_M_game 159 = .ok (.iinc 7 1, 3) := by decide +kernel
theorem d_M_game_162 : decode b_M_game 162 = .ok (.goto (-71), 3) := by decide +kernel
theorem d_M_game_165 : decode b_M_game 165 = .ok (.iload_n 3, 1) := by decide +kernel
theorem d_M_game_166 : decode b_M_game 166 = .ok (.ifCond .ne 6, 3) := by decide +kernel
theorem d_M_game_169 : decode b_M_game 169 = .ok (.iload 5, 2) := by decide +kernel
theorem d_M_game_171 : decode b_M_game 171 = .ok (.ireturn, 1) := by decide +kernel
theorem d_M_game_172 : decode b_M_game 172 = .ok (.iload 5, 2) := by decide +kernel
theorem d_M_game_174 : decode b_M_game 174 = .ok (.ifCond .ne 7, 3) := by decide +kernel
theorem d_M_game_177 : decode b_M_game 177 = .ok (.iconst (-1), 1) := by decide +kernel
theorem d_M_game_178 : decode b_M_game 178 = .ok (.goto 43, 3) := by decide +kernel
theorem d_M_game_181 : decode b_M_game 181 = .ok (.iload_n 3, 1) := by decide +kernel
theorem d_M_game_182 : decode b_M_game 182 = .ok (.iconst 1, 1) := by decide +kernel
theorem d_M_game_183 : decode b_M_game 183 = .ok (.if_icmp .ne 11, 3) := by decide +kernel
theorem d_M_game_186 : decode b_M_game 186 = .ok (.iload 6, 2) := by decide +kernel
theorem d_M_game_188 : decode b_M_game 188 = .ok (.bipush 100, 2) := by decide +kernel
theorem d_M_game_190 : decode b_M_game 190 = .ok (.idiv, 1) := by decide +kernel
theorem d_M_game_191 : decode b_M_game 191 = .ok (.goto 30, 3) := by decide +kernel
theorem d_M_game_194 : decode b_M_game 194 = .ok (.iload_n 3, 1) := by decide +kernel
theorem d_M_game_195 : decode b_M_game 195 = .ok (.iconst 2, 1) := by decide +kernel
theorem d_M_game_196 : decode b_M_game 196 = .ok (.if_icmp .ne 11, 3) := by decide +kernel
theorem d_M_game_199 : decode b_M_game 199 = .ok (.iload 6, 2) := by decide +kernel
theorem d_M_game_201 : decode b_M_game 201 = .ok (.bipush 100, 2) := by decide +kernel
theorem d_M_game_203 : decode b_M_game 203 = .ok (.irem, 1) := by decide +kernel
theorem d_M_game_204 : decode b_M_game 204 = .ok (.goto 17, 3) := by decide +kernel
theorem d_M_game_207 : decode b_M_game 207 = .ok (.iload 4, 2) := by decide +kernel
theorem d_M_game_209 : decode b_M_game 209 = .ok (.iload 6, 2) := by decide +kernel
theorem d_M_game_211 : decode b_M_game 211 = .ok (.bipush 100, 2) := by decide +kernel
theorem d_M_game_213 : decode b_M_game 213 = .ok (.idiv, 1) := by decide +kernel
theorem d_M_game_214 : decode b_M_game 214 = .ok (.isub, 1) := by decide +kernel
theorem d_M_game_215 : decode b_M_game 215 = .ok (.iload 6, 2) := by decide +kernel
theorem d_M_game_217 : decode b_M_game 217 = .ok (.bipush 100, 2) := by decide +kernel
theorem d_M_game_219 : decode b_M_game 219 = .ok (.irem, 1) := by decide +kernel
theorem d_M_game_220 : decode b_M_game 220 = .ok (.isub, 1) := by decide +kernel
theorem d_M_game_221 : decode b_M_game 221 = .ok (.ireturn, 1) := by decide +kernel
theorem d_M_worthIn_0 : decode b_M_worthIn 0 = .ok (.iload_n 1, 1) := by decide +kernel
theorem d_M_worthIn_1 : decode b_M_worthIn 1 = .ok (.ifCond .ne 7, 3) := by decide +kernel
theorem d_M_worthIn_4 : decode b_M_worthIn 4 = .ok (.iconst 0, 1) := by decide +kernel
theorem d_M_worthIn_5 : decode b_M_worthIn 5 = .ok (.goto 17, 3) := by decide +kernel
theorem d_M_worthIn_8 : decode b_M_worthIn 8 = .ok (.aload_n 0, 1) := by decide +kernel
theorem d_M_worthIn_9 : decode b_M_worthIn 9 = .ok (.getfield 38, 3) := by decide +kernel
theorem d_M_worthIn_12 : decode b_M_worthIn 12 = .ok (.bipush 8, 2) := by decide +kernel
theorem d_M_worthIn_14 : decode b_M_worthIn 14 = .ok (.aload_n 0, 1) := by decide +kernel
theorem d_M_worthIn_15 : decode b_M_worthIn 15 = .ok (.getfield 491, 3) := by decide +kernel
theorem d_M_worthIn_18 : decode b_M_worthIn 18 = .ok (.imul, 1) := by decide +kernel
theorem d_M_worthIn_19 : decode b_M_worthIn 19 = .ok (.iload_n 1, 1) := by decide +kernel
theorem d_M_worthIn_20 : decode b_M_worthIn 20 = .ok (.iadd, 1) := by decide +kernel
theorem d_M_worthIn_21 : decode b_M_worthIn 21 = .ok (.iaload, 1) := by decide +kernel
theorem d_M_worthIn_22 : decode b_M_worthIn 22 = .ok (.ireturn, 1) := by decide +kernel
theorem d_M_addedBy_0 : decode b_M_addedBy 0 = .ok (.iconst 1, 1) := by decide +kernel
theorem d_M_addedBy_1 : decode b_M_addedBy 1 = .ok (.iload_n 1, 1) := by decide +kernel
theorem d_M_addedBy_2 : decode b_M_addedBy 2 = .ok (.ishl, 1) := by decide +kernel
theorem d_M_addedBy_3 : decode b_M_addedBy 3 = .ok (.istore_n 2, 1) := by decide +kernel
theorem d_M_addedBy_4 : decode b_M_addedBy 4 = .ok (.iconst 0, 1) := by decide +kernel
theorem d_M_addedBy_5 : decode b_M_addedBy 5 = .ok (.istore_n 3, 1) := by decide +kernel
theorem d_M_addedBy_6 : decode b_M_addedBy 6 = .ok (.iconst 0, 1) := by decide +kernel
theorem d_M_addedBy_7 : decode b_M_addedBy 7 = .ok (.istore 4, 2) := by decide +kernel
theorem d_M_addedBy_9 : decode b_M_addedBy 9 = .ok (.iload 4, 2) := by decide +kernel
theorem d_M_addedBy_11 : decode b_M_addedBy 11 = .ok (.bipush 8, 2) := by decide +kernel
theorem d_M_addedBy_13 : decode b_M_addedBy 13 = .ok (.if_icmp .ge 94, 3) := by decide +kernel
theorem d_M_addedBy_16 : decode b_M_addedBy 16 = .ok (.iload 4, 2) := by decide +kernel
theorem d_M_addedBy_18 : decode b_M_addedBy 18 = .ok (.iload_n 1, 1) := by decide +kernel
theorem d_M_addedBy_19 : decode b_M_addedBy 19 = .ok (.invokestatic 417, 3) := by decide +kernel
theorem d_M_addedBy_22 : decode b_M_addedBy 22 = .ok (.ifCond .ne 79, 3) := by decide +kernel
theorem d_M_addedBy_25 : decode b_M_addedBy 25 = .ok (.iload 4, 2) := by decide +kernel
theorem d_M_addedBy_27 : decode b_M_addedBy 27 = .ok (.iconst 0, 1) := by decide +kernel
theorem d_M_addedBy_28 : decode b_M_addedBy 28 = .ok (.invokestatic 417, 3) := by decide +kernel
theorem d_M_addedBy_31 : decode b_M_addedBy 31 = .ok (.ifCond .eq 7, 3) := by decide +kernel
theorem d_M_addedBy_34 : decode b_M_addedBy 34 = .ok (.iconst 1, 1) := by decide +kernel
theorem d_M_addedBy_35 : decode b_M_addedBy 35 = .ok (.goto 4, 3) := by decide +kernel
theorem d_M_addedBy_38 : decode b_M_addedBy 38 = .ok (.iconst 0, 1) := by decide +kernel
theorem d_M_addedBy_39 : decode b_M_addedBy 39 = .ok (.iload 4, 2) := by decide +kernel
theorem d_M_addedBy_41 : decode b_M_addedBy 41 = .ok (.iconst 1, 1) := by decide +kernel
theorem d_M_addedBy_42 : decode b_M_addedBy 42 = .ok (.invokestatic 417, 3) := by decide +kernel
theorem d_M_addedBy_45 : decode b_M_addedBy 45 = .ok (.ifCond .eq 7, 3) := by decide +kernel
theorem d_M_addedBy_48 : decode b_M_addedBy 48 = .ok (.iconst 1, 1) := by decide +kernel
theorem d_M_addedBy_49 : decode b_M_addedBy 49 = .ok (.goto 4, 3) := by decide +kernel
theorem d_M_addedBy_52 : decode b_M_addedBy 52 = .ok (.iconst 0, 1) := by decide +kernel
theorem d_M_addedBy_53 : decode b_M_addedBy 53 = .ok (.iadd, 1) := by decide +kernel
theorem d_M_addedBy_54 : decode b_M_addedBy 54 = .ok (.iload 4, 2) := by decide +kernel
theorem d_M_addedBy_56 : decode b_M_addedBy 56 = .ok (.iconst 2, 1) := by decide +kernel
theorem d_M_addedBy_57 : decode b_M_addedBy 57 = .ok (.invokestatic 417, 3) := by decide +kernel
theorem d_M_addedBy_60 : decode b_M_addedBy 60 = .ok (.ifCond .eq 7, 3) := by decide +kernel
theorem d_M_addedBy_63 : decode b_M_addedBy 63 = .ok (.iconst 1, 1) := by decide +kernel
theorem d_M_addedBy_64 : decode b_M_addedBy 64 = .ok (.goto 4, 3) := by decide +kernel
theorem d_M_addedBy_67 : decode b_M_addedBy 67 = .ok (.iconst 0, 1) := by decide +kernel
theorem d_M_addedBy_68 : decode b_M_addedBy 68 = .ok (.iadd, 1) := by decide +kernel
theorem d_M_addedBy_69 : decode b_M_addedBy 69 = .ok (.istore 5, 2) := by decide +kernel
theorem d_M_addedBy_71 : decode b_M_addedBy 71 = .ok (.iload_n 3, 1) := by decide +kernel
theorem d_M_addedBy_72 : decode b_M_addedBy 72 = .ok (.iload 5, 2) := by decide +kernel
theorem d_M_addedBy_74 : decode b_M_addedBy 74 = .ok (.iconst 1, 1) := by decide +kernel
theorem d_M_addedBy_75 : decode b_M_addedBy 75 = .ok (.if_icmp .ne 7, 3) := by decide +kernel
theorem d_M_addedBy_78 : decode b_M_addedBy 78 = .ok (.iconst 1, 1) := by decide +kernel
theorem d_M_addedBy_79 : decode b_M_addedBy 79 = .ok (.goto 4, 3) := by decide +kernel
theorem d_M_addedBy_82 : decode b_M_addedBy 82 = .ok (.iconst 2, 1) := by decide +kernel
theorem d_M_addedBy_83 : decode b_M_addedBy 83 = .ok (.aload_n 0, 1) := by decide +kernel
theorem d_M_addedBy_84 : decode b_M_addedBy 84 = .ok (.iload 4, 2) := by decide +kernel
theorem d_M_addedBy_86 : decode b_M_addedBy 86 = .ok (.iload_n 2, 1) := by decide +kernel
theorem d_M_addedBy_87 : decode b_M_addedBy 87 = .ok (.ior, 1) := by decide +kernel
theorem d_M_addedBy_88 : decode b_M_addedBy 88 = .ok (.invokevirtual 494, 3) := by decide +kernel
theorem d_M_addedBy_91 : decode b_M_addedBy 91 = .ok (.aload_n 0, 1) := by decide +kernel
theorem d_M_addedBy_92 : decode b_M_addedBy 92 = .ok (.iload 4, 2) := by decide +kernel
theorem d_M_addedBy_94 : decode b_M_addedBy 94 = .ok (.invokevirtual 494, 3) := by decide +kernel
theorem d_M_addedBy_97 : decode b_M_addedBy 97 = .ok (.isub, 1) := by decide +kernel
theorem d_M_addedBy_98 : decode b_M_addedBy 98 = .ok (.imul, 1) := by decide +kernel
theorem d_M_addedBy_99 : decode b_M_addedBy 99 = .ok (.iadd, 1) := by decide +kernel
theorem d_M_addedBy_100 : decode b_M_addedBy 100 = .ok (.istore_n 3, 1) := by decide +kernel
theorem d_M_addedBy_101 : decode b_M_addedBy 101 = .ok (.iinc 4 1, 3) := by decide +kernel
theorem d_M_addedBy_104 : decode b_M_addedBy 104 = .ok (.goto (-95), 3) := by decide +kernel
theorem d_M_addedBy_107 : decode b_M_addedBy 107 = .ok (.iload_n 3, 1) := by decide +kernel
theorem d_M_addedBy_108 : decode b_M_addedBy 108 = .ok (.ireturn, 1) := by decide +kernel
theorem d_M_isCore_0 : decode b_M_isCore 0 = .ok (.iconst 1, 1) := by decide +kernel
theorem d_M_isCore_1 : decode b_M_isCore 1 = .ok (.istore 4, 2) := by decide +kernel
theorem d_M_isCore_3 : decode b_M_isCore 3 = .ok (.iload 4, 2) := by decide +kernel
theorem d_M_isCore_5 : decode b_M_isCore 5 = .ok (.bipush 8, 2) := by decide +kernel
theorem d_M_isCore_7 : decode b_M_isCore 7 = .ok (.if_icmp .ge 68, 3) := by decide +kernel
theorem d_M_isCore_10 : decode b_M_isCore 10 = .ok (.iload 4, 2) := by decide +kernel
theorem d_M_isCore_12 : decode b_M_isCore 12 = .ok (.iconst 0, 1) := by decide +kernel
theorem d_M_isCore_13 : decode b_M_isCore 13 = .ok (.invokestatic 417, 3) := by decide +kernel
theorem d_M_isCore_16 : decode b_M_isCore 16 = .ok (.ifCond .eq 7, 3) := by decide +kernel
theorem d_M_isCore_19 : decode b_M_isCore 19 = .ok (.iload_n 1, 1) := by decide +kernel
theorem d_M_isCore_20 : decode b_M_isCore 20 = .ok (.goto 4, 3) := by decide +kernel
theorem d_M_isCore_23 : decode b_M_isCore 23 = .ok (.iconst 0, 1) := by decide +kernel
theorem d_M_isCore_24 : decode b_M_isCore 24 = .ok (.iload 4, 2) := by decide +kernel
theorem d_M_isCore_26 : decode b_M_isCore 26 = .ok (.iconst 1, 1) := by decide +kernel
theorem d_M_isCore_27 : decode b_M_isCore 27 = .ok (.invokestatic 417, 3) := by decide +kernel
theorem d_M_isCore_30 : decode b_M_isCore 30 = .ok (.ifCond .eq 7, 3) := by decide +kernel
theorem d_M_isCore_33 : decode b_M_isCore 33 = .ok (.iload_n 2, 1) := by decide +kernel
theorem d_M_isCore_34 : decode b_M_isCore 34 = .ok (.goto 4, 3) := by decide +kernel
theorem d_M_isCore_37 : decode b_M_isCore 37 = .ok (.iconst 0, 1) := by decide +kernel
theorem d_M_isCore_38 : decode b_M_isCore 38 = .ok (.iadd, 1) := by decide +kernel
theorem d_M_isCore_39 : decode b_M_isCore 39 = .ok (.iload 4, 2) := by decide +kernel
theorem d_M_isCore_41 : decode b_M_isCore 41 = .ok (.iconst 2, 1) := by decide +kernel
theorem d_M_isCore_42 : decode b_M_isCore 42 = .ok (.invokestatic 417, 3) := by decide +kernel
theorem d_M_isCore_45 : decode b_M_isCore 45 = .ok (.ifCond .eq 7, 3) := by decide +kernel
theorem d_M_isCore_48 : decode b_M_isCore 48 = .ok (.iload_n 3, 1) := by decide +kernel
theorem d_M_isCore_49 : decode b_M_isCore 49 = .ok (.goto 4, 3) := by decide +kernel
theorem d_M_isCore_52 : decode b_M_isCore 52 = .ok (.iconst 0, 1) := by decide +kernel
theorem d_M_isCore_53 : decode b_M_isCore 53 = .ok (.iadd, 1) := by decide +kernel
theorem d_M_isCore_54 : decode b_M_isCore 54 = .ok (.istore 5, 2) := by decide +kernel
theorem d_M_isCore_56 : decode b_M_isCore 56 = .ok (.iload 5, 2) := by decide +kernel
theorem d_M_isCore_58 : decode b_M_isCore 58 = .ok (.aload_n 0, 1) := by decide +kernel
theorem d_M_isCore_59 : decode b_M_isCore 59 = .ok (.iload 4, 2) := by decide +kernel
theorem d_M_isCore_61 : decode b_M_isCore 61 = .ok (.invokevirtual 494, 3) := by decide +kernel
theorem d_M_isCore_64 : decode b_M_isCore 64 = .ok (.if_icmp .ge 5, 3) := by decide +kernel
theorem d_M_isCore_67 : decode b_M_isCore 67 = .ok (.iconst 0, 1) := by decide +kernel
theorem d_M_isCore_68 : decode b_M_isCore 68 = .ok (.ireturn, 1) := by decide +kernel
theorem d_M_isCore_69 : decode b_M_isCore 69 = .ok (.iinc 4 1, 3) := by decide +kernel
theorem d_M_isCore_72 : decode b_M_isCore 72 = .ok (.goto (-69), 3) := by decide +kernel
theorem d_M_isCore_75 : decode b_M_isCore 75 = .ok (.iconst 1, 1) := by decide +kernel
theorem d_M_isCore_76 : decode b_M_isCore 76 = .ok (.ireturn, 1) := by decide +kernel
theorem d_M_errand_0 : decode b_M_errand 0 = .ok (.aload_n 0, 1) := by decide +kernel
theorem d_M_errand_1 : decode b_M_errand 1 = .ok (.iconst 0, 1) := by decide +kernel
theorem d_M_errand_2 : decode b_M_errand 2 = .ok (.putfield 80, 3) := by decide +kernel
theorem d_M_errand_5 : decode b_M_errand 5 = .ok (.iload 5, 2) := by decide +kernel
theorem d_M_errand_7 : decode b_M_errand 7 = .ok (.iconst 1, 1) := by decide +kernel
theorem d_M_errand_8 : decode b_M_errand 8 = .ok (.bipush 12, 2) := by decide +kernel
theorem d_M_errand_10 : decode b_M_errand 10 = .ok (.invokestatic 88, 3) := by decide +kernel
theorem d_M_errand_13 : decode b_M_errand 13 = .ok (.ifCond .eq 29, 3) := by decide +kernel
theorem d_M_errand_16 : decode b_M_errand 16 = .ok (.aload_n 0, 1) := by decide +kernel
theorem d_M_errand_17 : decode b_M_errand 17 = .ok (.iload_n 1, 1) := by decide +kernel
theorem d_M_errand_18 : decode b_M_errand 18 = .ok (.iload_n 2, 1) := by decide +kernel
theorem d_M_errand_19 : decode b_M_errand 19 = .ok (.invokevirtual 293, 3) := by decide +kernel
theorem d_M_errand_22 : decode b_M_errand 22 = .ok (.ifCond .eq 20, 3) := by decide +kernel
theorem d_M_errand_25 : decode b_M_errand 25 = .ok (.aload_n 0, 1) := by decide +kernel
theorem d_M_errand_26 : decode b_M_errand 26 = .ok (.iload_n 3, 1) := by decide +kernel
theorem d_M_errand_27 : decode b_M_errand 27 = .ok (.invokevirtual 262, 3) := by decide +kernel
theorem d_M_errand_30 : decode b_M_errand 30 = .ok (.ifCond .eq 12, 3) := by decide +kernel
theorem d_M_errand_33 : decode b_M_errand 33 = .ok (.aload_n 0, 1) := by decide +kernel
theorem d_M_errand_34 : decode b_M_errand 34 = .ok (.iload 4, 2) := by decide +kernel
theorem d_M_errand_36 : decode b_M_errand 36 = .ok (.invokevirtual 479, 3) := by decide +kernel
theorem d_M_errand_39 : decode b_M_errand 39 = .ok (.ifCond .ne 5, 3) := by decide +kernel
theorem d_M_errand_42 : decode b_M_errand 42 = .ok (.iconst (-1), 1) := by decide +kernel
theorem d_M_errand_43 : decode b_M_errand 43 = .ok (.ireturn, 1) := by decide +kernel
theorem d_M_errand_44 : decode b_M_errand 44 = .ok (.iconst 0, 1) := by decide +kernel
theorem d_M_errand_45 : decode b_M_errand 45 = .ok (.istore 7, 2) := by decide +kernel
theorem d_M_errand_47 : decode b_M_errand 47 = .ok (.iload 7, 2) := by decide +kernel
theorem d_M_errand_49 : decode b_M_errand 49 = .ok (.aload_n 0, 1) := by decide +kernel
theorem d_M_errand_50 : decode b_M_errand 50 = .ok (.getfield 247, 3) := by decide +kernel
theorem d_M_errand_53 : decode b_M_errand 53 = .ok (.if_icmp .ge 53, 3) := by decide +kernel
theorem d_M_errand_56 : decode b_M_errand 56 = .ok (.aload_n 0, 1) := by decide +kernel
theorem d_M_errand_57 : decode b_M_errand 57 = .ok (.aload_n 0, 1) := by decide +kernel
theorem d_M_errand_58 : decode b_M_errand 58 = .ok (.iload_n 3, 1) := by decide +kernel
theorem d_M_errand_59 : decode b_M_errand 59 = .ok (.iconst 0, 1) := by decide +kernel
theorem d_M_errand_60 : decode b_M_errand 60 = .ok (.invokevirtual 244, 3) := by decide +kernel
theorem d_M_errand_63 : decode b_M_errand 63 = .ok (.iload 4, 2) := by decide +kernel
theorem d_M_errand_65 : decode b_M_errand 65 = .ok (.iload 7, 2) := by decide +kernel
theorem d_M_errand_67 : decode b_M_errand 67 = .ok (.iadd, 1) := by decide +kernel
theorem d_M_errand_68 : decode b_M_errand 68 = .ok (.iload 5, 2) := by decide +kernel
theorem d_M_errand_70 : decode b_M_errand 70 = .ok (.invokevirtual 506, 3) := by decide +kernel
theorem d_M_errand_73 : decode b_M_errand 73 = .ok (.ifCond .eq 27, 3) := by decide +kernel
theorem d_M_errand_76 : decode b_M_errand 76 = .ok (.iload 6, 2) := by decide +kernel
theorem d_M_errand_78 : decode b_M_errand 78 = .ok (.ifCond .eq 8, 3) := by decide +kernel
theorem d_M_errand_81 : decode b_M_errand 81 = .ok (.iload 7, 2) := by decide +kernel
theorem d_M_errand_83 : decode b_M_errand 83 = .ok (.goto 16, 3) := by decide +kernel
theorem d_M_errand_86 : decode b_M_errand 86 = .ok (.iload 7, 2) := by decide +kernel
theorem d_M_errand_88 : decode b_M_errand 88 = .ok (.iload 5, 2) := by decide +kernel
theorem d_M_errand_90 : decode b_M_errand 90 = .ok (.iadd, 1) := by decide +kernel
theorem d_M_errand_91 : decode b_M_errand 91 = .ok (.iconst 2, 1) := by decide +kernel
theorem d_M_errand_92 : decode b_M_errand 92 = .ok (.aload_n 0, 1) := by decide +kernel
theorem d_M_errand_93 : decode b_M_errand 93 = .ok (.iconst 3, 1) := by decide +kernel
theorem d_M_errand_94 : decode b_M_errand 94 = .ok (.invokevirtual 240, 3) := by decide +kernel
theorem d_M_errand_97 : decode b_M_errand 97 = .ok (.imul, 1) := by decide +kernel
theorem d_M_errand_98 : decode b_M_errand 98 = .ok (.iadd, 1) := by decide +kernel
theorem d_M_errand_99 : decode b_M_errand 99 = .ok (.ireturn, 1) := by decide +kernel
theorem d_M_errand_100 : decode b_M_errand 100 = .ok (.iinc 7 1, 3) := by decide +kernel
theorem d_M_errand_103 : decode b_M_errand 103 = .ok (.goto (-56), 3) := by decide +kernel
theorem d_M_errand_106 : decode b_M_errand 106 = .ok (.iconst (-1), 1) := by decide +kernel
theorem d_M_errand_107 : decode b_M_errand 107 = .ok (.ireturn, 1) := by decide +kernel
theorem d_M_canGo_0 : decode b_M_canGo 0 = .ok (.aload_n 0, 1) := by decide +kernel
theorem d_M_canGo_1 : decode b_M_canGo 1 = .ok (.iconst 3, 1) := by decide +kernel
theorem d_M_canGo_2 : decode b_M_canGo 2 = .ok (.invokevirtual 240, 3) := by decide +kernel
theorem d_M_canGo_5 : decode b_M_canGo 5 = .ok (.istore 4, 2) := by decide +kernel
theorem d_M_canGo_7 : decode b_M_canGo 7 = .ok (.aload_n 0, 1) := by decide +kernel
theorem d_M_canGo_8 : decode b_M_canGo 8 = .ok (.iload_n 1, 1) := by decide +kernel
theorem d_M_canGo_9 : decode b_M_canGo 9 = .ok (.iload_n 2, 1) := by decide +kernel
theorem d_M_canGo_10 : decode b_M_canGo 10 = .ok (.invokevirtual 503, 3) := by decide +kernel
theorem d_M_canGo_13 : decode b_M_canGo 13 = .ok (.ifCond .eq 23, 3) := by decide +kernel
theorem d_M_canGo_16 : decode b_M_canGo 16 = .ok (.aload_n 0, 1) := by decide +kernel
theorem d_M_canGo_17 : decode b_M_canGo 17 = .ok (.iload_n 1, 1) := by decide +kernel
theorem d_M_canGo_18 : decode b_M_canGo 18 = .ok (.iload_n 2, 1) := by decide +kernel
theorem d_M_canGo_19 : decode b_M_canGo 19 = .ok (.iconst 2, 1) := by decide +kernel
theorem d_M_canGo_20 : decode b_M_canGo 20 = .ok (.iload 4, 2) := by decide +kernel
theorem d_M_canGo_22 : decode b_M_canGo 22 = .ok (.imul, 1) := by decide +kernel
theorem d_M_canGo_23 : decode b_M_canGo 23 = .ok (.iadd, 1) := by decide +kernel
theorem d_M_canGo_24 : decode b_M_canGo 24 = .ok (.iload_n 3, 1) := by decide +kernel
theorem d_M_canGo_25 : decode b_M_canGo 25 = .ok (.iadd, 1) := by decide +kernel
theorem d_M_canGo_26 : decode b_M_canGo 26 = .ok (.invokevirtual 503, 3) := by decide +kernel
theorem d_M_canGo_29 : decode b_M_canGo 29 = .ok (.ifCond .eq 7, 3) := by decide +kernel
theorem d_M_canGo_32 : decode b_M_canGo 32 = .ok (.iconst 1, 1) := by decide +kernel
theorem d_M_canGo_33 : decode b_M_canGo 33 = .ok (.goto 4, 3) := by decide +kernel
theorem d_M_canGo_36 : decode b_M_canGo 36 = .ok (.iconst 0, 1) := by decide +kernel
theorem d_M_canGo_37 : decode b_M_canGo 37 = .ok (.istore 5, 2) := by decide +kernel
theorem d_M_canGo_39 : decode b_M_canGo 39 = .ok (.iconst 0, 1) := by decide +kernel
theorem d_M_canGo_40 : decode b_M_canGo 40 = .ok (.istore 6, 2) := by decide +kernel
theorem d_M_canGo_42 : decode b_M_canGo 42 = .ok (.iload 6, 2) := by decide +kernel
theorem d_M_canGo_44 : decode b_M_canGo 44 = .ok (.iload_n 3, 1) := by decide +kernel
theorem d_M_canGo_45 : decode b_M_canGo 45 = .ok (.if_icmp .ge 38, 3) := by decide +kernel
theorem d_M_canGo_48 : decode b_M_canGo 48 = .ok (.iload 5, 2) := by decide +kernel
theorem d_M_canGo_50 : decode b_M_canGo 50 = .ok (.ifCond .eq 24, 3) := by decide +kernel
theorem d_M_canGo_53 : decode b_M_canGo 53 = .ok (.aload_n 0, 1) := by decide +kernel
theorem d_M_canGo_54 : decode b_M_canGo 54 = .ok (.iconst 1, 1) := by decide +kernel
theorem d_M_canGo_55 : decode b_M_canGo 55 = .ok (.iload_n 1, 1) := by decide +kernel
theorem d_M_canGo_56 : decode b_M_canGo 56 = .ok (.isub, 1) := by decide +kernel
theorem d_M_canGo_57 : decode b_M_canGo 57 = .ok (.iload_n 2, 1) := by decide +kernel
theorem d_M_canGo_58 : decode b_M_canGo 58 = .ok (.iload 4, 2) := by decide +kernel
theorem d_M_canGo_60 : decode b_M_canGo 60 = .ok (.iadd, 1) := by decide +kernel
theorem d_M_canGo_61 : decode b_M_canGo 61 = .ok (.iload 6, 2) := by decide +kernel
theorem d_M_canGo_63 : decode b_M_canGo 63 = .ok (.iadd, 1) := by decide +kernel
theorem d_M_canGo_64 : decode b_M_canGo 64 = .ok (.invokevirtual 503, 3) := by decide +kernel
theorem d_M_canGo_67 : decode b_M_canGo 67 = .ok (.ifCond .eq 7, 3) := by decide +kernel
theorem d_M_canGo_70 : decode b_M_canGo 70 = .ok (.iconst 1, 1) := by decide +kernel
theorem d_M_canGo_71 : decode b_M_canGo 71 = .ok (.goto 4, 3) := by decide +kernel
theorem d_M_canGo_74 : decode b_M_canGo 74 = .ok (.iconst 0, 1) := by decide +kernel
theorem d_M_canGo_75 : decode b_M_canGo 75 = .ok (.istore 5, 2) := by decide +kernel
theorem d_M_canGo_77 : decode b_M_canGo 77 = .ok (.iinc 6 1, 3) := by decide +kernel
theorem d_M_canGo_80 : decode b_M_canGo 80 = .ok (.goto (-38), 3) := by decide +kernel
theorem d_M_canGo_83 : decode b_M_canGo 83 = .ok (.iload 5, 2) := by decide +kernel
theorem d_M_canGo_85 : decode b_M_canGo 85 = .ok (.ireturn, 1) := by decide +kernel
theorem d_M_isLight_0 : decode b_M_isLight 0 = .ok (.aload_n 0, 1) := by decide +kernel
theorem d_M_isLight_1 : decode b_M_isLight 1 = .ok (.getfield 47, 3) := by decide +kernel
theorem d_M_isLight_4 : decode b_M_isLight 4 = .ok (.iload_n 2, 1) := by decide +kernel
theorem d_M_isLight_5 : decode b_M_isLight 5 = .ok (.aload_n 0, 1) := by decide +kernel
theorem d_M_isLight_6 : decode b_M_isLight 6 = .ok (.getfield 247, 3) := by decide +kernel
theorem d_M_isLight_9 : decode b_M_isLight 9 = .ok (.irem, 1) := by decide +kernel
theorem d_M_isLight_10 : decode b_M_isLight 10 = .ok (.iaload, 1) := by decide +kernel
theorem d_M_isLight_11 : decode b_M_isLight 11 = .ok (.iload_n 1, 1) := by decide +kernel
theorem d_M_isLight_12 : decode b_M_isLight 12 = .ok (.if_icmp .eq 7, 3) := by decide +kernel
theorem d_M_isLight_15 : decode b_M_isLight 15 = .ok (.iconst 1, 1) := by decide +kernel
theorem d_M_isLight_16 : decode b_M_isLight 16 = .ok (.goto 4, 3) := by decide +kernel
theorem d_M_isLight_19 : decode b_M_isLight 19 = .ok (.iconst 0, 1) := by decide +kernel
theorem d_M_isLight_20 : decode b_M_isLight 20 = .ok (.ireturn, 1) := by decide +kernel
theorem d_M_meet_0 : decode b_M_meet 0 = .ok (.aload_n 0, 1) := by decide +kernel
theorem d_M_meet_1 : decode b_M_meet 1 = .ok (.iconst 0, 1) := by decide +kernel
theorem d_M_meet_2 : decode b_M_meet 2 = .ok (.putfield 80, 3) := by decide +kernel
theorem d_M_meet_5 : decode b_M_meet 5 = .ok (.aload_n 0, 1) := by decide +kernel
theorem d_M_meet_6 : decode b_M_meet 6 = .ok (.iload_n 1, 1) := by decide +kernel
theorem d_M_meet_7 : decode b_M_meet 7 = .ok (.iload_n 2, 1) := by decide +kernel
theorem d_M_meet_8 : decode b_M_meet 8 = .ok (.invokevirtual 293, 3) := by decide +kernel
theorem d_M_meet_11 : decode b_M_meet 11 = .ok (.ifCond .eq 29, 3) := by decide +kernel
theorem d_M_meet_14 : decode b_M_meet 14 = .ok (.aload_n 0, 1) := by decide +kernel
theorem d_M_meet_15 : decode b_M_meet 15 = .ok (.iload_n 3, 1) := by decide +kernel
theorem d_M_meet_16 : decode b_M_meet 16 = .ok (.invokevirtual 262, 3) := by decide +kernel
theorem d_M_meet_19 : decode b_M_meet 19 = .ok (.ifCond .eq 21, 3) := by decide +kernel
theorem d_M_meet_22 : decode b_M_meet 22 = .ok (.aload_n 0, 1) := by decide +kernel
theorem d_M_meet_23 : decode b_M_meet 23 = .ok (.iload 4, 2) := by decide +kernel
theorem d_M_meet_25 : decode b_M_meet 25 = .ok (.invokevirtual 262, 3) := by decide +kernel
theorem d_M_meet_28 : decode b_M_meet 28 = .ok (.ifCond .eq 12, 3) := by decide +kernel
theorem d_M_meet_31 : decode b_M_meet 31 = .ok (.aload_n 0, 1) := by decide +kernel
theorem d_M_meet_32 : decode b_M_meet 32 = .ok (.iload 5, 2) := by decide +kernel
theorem d_M_meet_34 : decode b_M_meet 34 = .ok (.invokevirtual 479, 3) := by decide +kernel
theorem d_M_meet_37 : decode b_M_meet 37 = .ok (.ifCond .ne 5, 3) := by decide +kernel
theorem d_M_meet_40 : decode b_M_meet 40 = .ok (.iconst (-1), 1) := by decide +kernel
theorem d_M_meet_41 : decode b_M_meet 41 = .ok (.ireturn, 1) := by decide +kernel
theorem d_M_meet_42 : decode b_M_meet 42 = .ok (.iconst 0, 1) := by decide +kernel
theorem d_M_meet_43 : decode b_M_meet 43 = .ok (.istore 6, 2) := by decide +kernel
theorem d_M_meet_45 : decode b_M_meet 45 = .ok (.iload 6, 2) := by decide +kernel
theorem d_M_meet_47 : decode b_M_meet 47 = .ok (.aload_n 0, 1) := by decide +kernel
theorem d_M_meet_48 : decode b_M_meet 48 = .ok (.getfield 247, 3) := by decide +kernel
theorem d_M_meet_51 : decode b_M_meet 51 = .ok (.if_icmp .ge 49, 3) := by decide +kernel
theorem d_M_meet_54 : decode b_M_meet 54 = .ok (.aload_n 0, 1) := by decide +kernel
theorem d_M_meet_55 : decode b_M_meet 55 = .ok (.aload_n 0, 1) := by decide +kernel
theorem d_M_meet_56 : decode b_M_meet 56 = .ok (.iload_n 3, 1) := by decide +kernel
theorem d_M_meet_57 : decode b_M_meet 57 = .ok (.iconst 0, 1) := by decide +kernel
theorem d_M_meet_58 : decode b_M_meet 58 = .ok (.invokevirtual 244, 3) := by decide +kernel
theorem d_M_meet_61 : decode b_M_meet 61 = .ok (.iload 5, 2) := by decide +kernel
theorem d_M_meet_63 : decode b_M_meet 63 = .ok (.iload 6, 2) := by decide +kernel
theorem d_M_meet_65 : decode b_M_meet 65 = .ok (.iadd, 1) := by decide +kernel
theorem d_M_meet_66 : decode b_M_meet 66 = .ok (.invokevirtual 503, 3) := by decide +kernel
theorem d_M_meet_69 : decode b_M_meet 69 = .ok (.ifCond .eq 25, 3) := by decide +kernel
theorem d_M_meet_72 : decode b_M_meet 72 = .ok (.aload_n 0, 1) := by decide +kernel
theorem d_M_meet_73 : decode b_M_meet 73 = .ok (.aload_n 0, 1) := by decide +kernel
theorem d_M_meet_74 : decode b_M_meet 74 = .ok (.iload 4, 2) := by decide +kernel
theorem d_M_meet_76 : decode b_M_meet 76 = .ok (.iconst 0, 1) := by decide +kernel
theorem d_M_meet_77 : decode b_M_meet 77 = .ok (.invokevirtual 244, 3) := by decide +kernel
theorem d_M_meet_80 : decode b_M_meet 80 = .ok (.iload 5, 2) := by decide +kernel
theorem d_M_meet_82 : decode b_M_meet 82 = .ok (.iload 6, 2) := by decide +kernel
theorem d_M_meet_84 : decode b_M_meet 84 = .ok (.iadd, 1) := by decide +kernel
theorem d_M_meet_85 : decode b_M_meet 85 = .ok (.invokevirtual 503, 3) := by decide +kernel
theorem d_M_meet_88 : decode b_M_meet 88 = .ok (.ifCond .eq 6, 3) := by decide +kernel
theorem d_M_meet_91 : decode b_M_meet 91 = .ok (.iload 6, 2) := by decide +kernel
theorem d_M_meet_93 : decode b_M_meet 93 = .ok (.ireturn, 1) := by decide +kernel
theorem d_M_meet_94 : decode b_M_meet 94 = .ok (.iinc 6 1, 3) := by decide +kernel
theorem d_M_meet_97 : decode b_M_meet 97 = .ok (.goto (-52), 3) := by decide +kernel
theorem d_M_meet_100 : decode b_M_meet 100 = .ok (.iconst (-1), 1) := by decide +kernel
theorem d_M_meet_101 : decode b_M_meet 101 = .ok (.ireturn, 1) := by decide +kernel
theorem d_M_drawn_0 : decode b_M_drawn 0 = .ok (.aload_n 0, 1) := by decide +kernel
theorem d_M_drawn_1 : decode b_M_drawn 1 = .ok (.iconst 0, 1) := by decide +kernel
theorem d_M_drawn_2 : decode b_M_drawn 2 = .ok (.putfield 80, 3) := by decide +kernel
theorem d_M_drawn_5 : decode b_M_drawn 5 = .ok (.iload 4, 2) := by decide +kernel
theorem d_M_drawn_7 : decode b_M_drawn 7 = .ok (.iconst 1, 1) := by decide +kernel
theorem d_M_drawn_8 : decode b_M_drawn 8 = .ok (.bipush 60, 2) := by decide +kernel
theorem d_M_drawn_10 : decode b_M_drawn 10 = .ok (.invokestatic 88, 3) := by decide +kernel
theorem d_M_drawn_13 : decode b_M_drawn 13 = .ok (.ifCond .eq 39, 3) := by decide +kernel
theorem d_M_drawn_16 : decode b_M_drawn 16 = .ok (.aload_n 0, 1) := by decide +kernel
theorem d_M_drawn_17 : decode b_M_drawn 17 = .ok (.iload_n 1, 1) := by decide +kernel
theorem d_M_drawn_18 : decode b_M_drawn 18 = .ok (.iload_n 2, 1) := by decide +kernel
theorem d_M_drawn_19 : decode b_M_drawn 19 = .ok (.invokevirtual 293, 3) := by decide +kernel
theorem d_M_drawn_22 : decode b_M_drawn 22 = .ok (.ifCond .eq 30, 3) := by decide +kernel
theorem d_M_drawn_25 : decode b_M_drawn 25 = .ok (.iload 5, 2) := by decide +kernel
theorem d_M_drawn_27 : decode b_M_drawn 27 = .ok (.iconst 0, 1) := by decide +kernel
theorem d_M_drawn_28 : decode b_M_drawn 28 = .ok (.iconst 1, 1) := by decide +kernel
theorem d_M_drawn_29 : decode b_M_drawn 29 = .ok (.invokestatic 88, 3) := by decide +kernel
theorem d_M_drawn_32 : decode b_M_drawn 32 = .ok (.ifCond .ne 23, 3) := by decide +kernel
theorem d_M_drawn_35 : decode b_M_drawn 35 = .ok (.iload 5, 2) := by decide +kernel
theorem d_M_drawn_37 : decode b_M_drawn 37 = .ok (.bipush 10, 2) := by decide +kernel
theorem d_M_drawn_39 : decode b_M_drawn 39 = .ok (.bipush 9, 2) := by decide +kernel
theorem d_M_drawn_41 : decode b_M_drawn 41 = .ok (.aload_n 0, 1) := by decide +kernel
theorem d_M_drawn_42 : decode b_M_drawn 42 = .ok (.getfield 253, 3) := by decide +kernel
theorem d_M_drawn_45 : decode b_M_drawn 45 = .ok (.iadd, 1) := by decide +kernel
theorem d_M_drawn_46 : decode b_M_drawn 46 = .ok (.invokestatic 88, 3) := by decide +kernel
theorem d_M_drawn_49 : decode b_M_drawn 49 = .ok (.ifCond .ne 6, 3) := by decide +kernel
theorem d_M_drawn_52 : decode b_M_drawn 52 = .ok (.bipush (-2), 2) := by decide +kernel
theorem d_M_drawn_54 : decode b_M_drawn 54 = .ok (.ireturn, 1) := by decide +kernel
theorem d_M_drawn_55 : decode b_M_drawn 55 = .ok (.aload_n 0, 1) := by decide +kernel
theorem d_M_drawn_56 : decode b_M_drawn 56 = .ok (.iload_n 3, 1) := by decide +kernel
theorem d_M_drawn_57 : decode b_M_drawn 57 = .ok (.putfield 509, 3) := by decide +kernel
theorem d_M_drawn_60 : decode b_M_drawn 60 = .ok (.aload_n 0, 1) := by decide +kernel
theorem d_M_drawn_61 : decode b_M_drawn 61 = .ok (.iconst 0, 1) := by decide +kernel
theorem d_M_drawn_62 : decode b_M_drawn 62 = .ok (.putfield 522, 3) := by decide +kernel
theorem d_M_drawn_65 : decode b_M_drawn 65 = .ok (.aload_n 0, 1) := by decide +kernel
theorem d_M_drawn_66 : decode b_M_drawn 66 = .ok (.iconst 0, 1) := by decide +kernel
theorem d_M_drawn_67 : decode b_M_drawn 67 = .ok (.putfield 513, 3) := by decide +kernel
theorem d_M_drawn_70 : decode b_M_drawn 70 = .ok (.aload_n 0, 1) := by decide +kernel
theorem d_M_drawn_71 : decode b_M_drawn 71 = .ok (.iconst 0, 1) := by decide +kernel
theorem d_M_drawn_72 : decode b_M_drawn 72 = .ok (.putfield 519, 3) := by decide +kernel
theorem d_M_drawn_75 : decode b_M_drawn 75 = .ok (.iconst 0, 1) := by decide +kernel
theorem d_M_drawn_76 : decode b_M_drawn 76 = .ok (.istore 6, 2) := by decide +kernel
theorem d_M_drawn_78 : decode b_M_drawn 78 = .ok (.iload 6, 2) := by decide +kernel
theorem d_M_drawn_80 : decode b_M_drawn 80 = .ok (.bipush 10, 2) := by decide +kernel
theorem d_M_drawn_82 : decode b_M_drawn 82 = .ok (.if_icmp .ge 17, 3) := by decide +kernel
theorem d_M_drawn_85 : decode b_M_drawn 85 = .ok (.aload_n 0, 1) := by decide +kernel
theorem d_M_drawn_86 : decode b_M_drawn 86 = .ok (.getfield 73, 3) := by decide +kernel
theorem d_M_drawn_89 : decode b_M_drawn 89 = .ok (.iload 6, 2) := by decide +kernel
theorem d_M_drawn_91 : decode b_M_drawn 91 = .ok (.iconst 0, 1) := by decide +kernel
theorem d_M_drawn_92 : decode b_M_drawn 92 = .ok (.iastore, 1) := by decide +kernel
theorem d_M_drawn_93 : decode b_M_drawn 93 = .ok (.iinc 6 1, 3) := by decide +kernel
theorem d_M_drawn_96 : decode b_M_drawn 96 = .ok (.goto (-18), 3) := by decide +kernel
theorem d_M_drawn_99 : decode b_M_drawn 99 = .ok (.iconst 0, 1) := by decide +kernel
theorem d_M_drawn_100 : decode b_M_drawn 100 = .ok (.istore 6, 2) := by decide +kernel
theorem d_M_drawn_102 : decode b_M_drawn 102 = .ok (.iload 6, 2) := by decide +kernel
theorem d_M_drawn_104 : decode b_M_drawn 104 = .ok (.iload 4, 2) := by decide +kernel
theorem d_M_drawn_106 : decode b_M_drawn 106 = .ok (.if_icmp .ge 13, 3) := by decide +kernel
theorem d_M_drawn_109 : decode b_M_drawn 109 = .ok (.aload_n 0, 1) := by decide +kernel
theorem d_M_drawn_110 : decode b_M_drawn 110 = .ok (.invokevirtual 525, 3) := by decide +kernel
theorem d_M_drawn_113 : decode b_M_drawn 113 = .ok (.iinc 6 1, 3) := by decide +kernel
theorem d_M_drawn_116 : decode b_M_drawn 116 = .ok (.goto (-14), 3) := by decide +kernel
theorem d_M_drawn_119 : decode b_M_drawn 119 = .ok (.iload 5, 2) := by decide +kernel
theorem d_M_drawn_121 : decode b_M_drawn 121 = .ok (.ifCond .ne 10, 3) := by decide +kernel
theorem d_M_drawn_124 : decode b_M_drawn 124 = .ok (.aload_n 0, 1) := by decide +kernel
theorem d_M_drawn_125 : decode b_M_drawn 125 = .ok (.getfield 522, 3) := by decide +kernel
theorem d_M_drawn_128 : decode b_M_drawn 128 = .ok (.goto 26, 3) := by decide +kernel
theorem d_M_drawn_131 : decode b_M_drawn 131 = .ok (.iload 5, 2) := by decide +kernel
theorem d_M_drawn_133 : decode b_M_drawn 133 = .ok (.iconst 1, 1) := by decide +kernel
theorem d_M_drawn_134 : decode b_M_drawn 134 = .ok (.if_icmp .ne 10, 3) := by decide +kernel
theorem d_M_drawn_137 : decode b_M_drawn 137 = .ok (.aload_n 0, 1) := by decide +kernel
theorem d_M_drawn_138 : decode b_M_drawn 138 = .ok (.getfield 513, 3) := by decide +kernel
theorem d_M_drawn_141 : decode b_M_drawn 141 = .ok (.goto 13, 3) := by decide +kernel
theorem d_M_drawn_144 : decode b_M_drawn 144 = .ok (.aload_n 0, 1) := by decide +kernel
theorem d_M_drawn_145 : decode b_M_drawn 145 = .ok (.getfield 73, 3) := by decide +kernel
theorem d_M_drawn_148 : decode b_M_drawn 148 = .ok (.iload 5, 2) := by decide +kernel
theorem d_M_drawn_150 : decode b_M_drawn 150 = .ok (.bipush 10, 2) := by decide +kernel
theorem d_M_drawn_152 : decode b_M_drawn 152 = .ok (.isub, 1) := by decide +kernel
theorem d_M_drawn_153 : decode b_M_drawn 153 = .ok (.iaload, 1) := by decide +kernel
theorem d_M_drawn_154 : decode b_M_drawn 154 = .ok (.ireturn, 1) := by decide +kernel
theorem d_M_drawDay_0 : decode b_M_drawDay 0 = .ok (.iconst 0, 1) := by decide +kernel
theorem d_M_drawDay_1 : decode b_M_drawDay 1 = .ok (.istore_n 1, 1) := by decide +kernel
theorem d_M_drawDay_2 : decode b_M_drawDay 2 = .ok (.iconst 0, 1) := by decide +kernel
theorem d_M_drawDay_3 : decode b_M_drawDay 3 = .ok (.istore_n 2, 1) := by decide +kernel
theorem d_M_drawDay_4 : decode b_M_drawDay 4 = .ok (.iconst 0, 1) := by decide +kernel
theorem d_M_drawDay_5 : decode b_M_drawDay 5 = .ok (.istore_n 3, 1) := by decide +kernel
theorem d_M_drawDay_6 : decode b_M_drawDay 6 = .ok (.iload_n 3, 1) := by decide +kernel
theorem d_M_drawDay_7 : decode b_M_drawDay 7 = .ok (.aload_n 0, 1) := by decide +kernel
theorem d_M_drawDay_8 : decode b_M_drawDay 8 = .ok (.getfield 247, 3) := by decide +kernel
theorem d_M_drawDay_11 : decode b_M_drawDay 11 = .ok (.if_icmp .ge 137, 3) := by decide +kernel
theorem d_M_drawDay_14 : decode b_M_drawDay 14 = .ok (.aload_n 0, 1) := by decide +kernel
theorem d_M_drawDay_15 : decode b_M_drawDay 15 = .ok (.iload_n 3, 1) := by decide +kernel
theorem d_M_drawDay_16 : decode b_M_drawDay 16 = .ok (.invokevirtual 280, 3) := by decide +kernel
theorem d_M_drawDay_19 : decode b_M_drawDay 19 = .ok (.ifCond .eq 123, 3) := by decide +kernel
theorem d_M_drawDay_22 : decode b_M_drawDay 22 = .ok (.aload_n 0, 1) := by decide +kernel
theorem d_M_drawDay_23 : decode b_M_drawDay 23 = .ok (.dup, 1) := by decide +kernel
theorem d_M_drawDay_24 : decode b_M_drawDay 24 = .ok (.getfield 513, 3) := by decide +kernel
theorem d_M_drawDay_27 : decode b_M_drawDay 27 = .ok (.iconst 1, 1) := by decide +kernel
theorem d_M_drawDay_28 : decode b_M_drawDay 28 = .ok (.iadd, 1) := by decide +kernel
theorem d_M_drawDay_29 : decode b_M_drawDay 29 = .ok (.putfield 513, 3) := by decide +kernel
theorem d_M_drawDay_32 : decode b_M_drawDay 32 = .ok (.aload_n 0, 1) := by decide +kernel
theorem d_M_drawDay_33 : decode b_M_drawDay 33 = .ok (.getfield 256, 3) := by decide +kernel
theorem d_M_drawDay_36 : decode b_M_drawDay 36 = .ok (.ifCond .le 106, 3) := by decide +kernel
theorem d_M_drawDay_39 : decode b_M_drawDay 39 = .ok (.aload_n 0, 1) := by decide +kernel
theorem d_M_drawDay_40 : decode b_M_drawDay 40 = .ok (.bipush 10, 2) := by decide +kernel
theorem d_M_drawDay_42 : decode b_M_drawDay 42 = .ok (.invokevirtual 516, 3) := by decide +kernel
theorem d_M_drawDay_45 : decode b_M_drawDay 45 = .ok (.aload_n 0, 1) := by decide +kernel
theorem d_M_drawDay_46 : decode b_M_drawDay 46 = .ok (.aload_n 0, 1) := by decide +kernel
theorem d_M_drawDay_47 : decode b_M_drawDay 47 = .ok (.getfield 519, 3) := by decide +kernel
theorem d_M_drawDay_50 : decode b_M_drawDay 50 = .ok (.invokevirtual 455, 3) := by decide +kernel
theorem d_M_drawDay_53 : decode b_M_drawDay 53 = .ok (.if_icmp .ge 7, 3) := by decide +kernel
theorem d_M_drawDay_56 : decode b_M_drawDay 56 = .ok (.iconst 1, 1) := by decide +kernel
theorem d_M_drawDay_57 : decode b_M_drawDay 57 = .ok (.goto 4, 3) := by decide +kernel
theorem d_M_drawDay_60 : decode b_M_drawDay 60 = .ok (.iconst 0, 1) := by decide +kernel
theorem d_M_drawDay_61 : decode b_M_drawDay 61 = .ok (.istore 4, 2) := by decide +kernel
theorem d_M_drawDay_63 : decode b_M_drawDay 63 = .ok (.aload_n 0, 1) := by decide +kernel
theorem d_M_drawDay_64 : decode b_M_drawDay 64 = .ok (.aload_n 0, 1) := by decide +kernel
theorem d_M_drawDay_65 : decode b_M_drawDay 65 = .ok (.getfield 519, 3) := by decide +kernel
theorem d_M_drawDay_68 : decode b_M_drawDay 68 = .ok (.iconst 1, 1) := by decide +kernel
theorem d_M_drawDay_69 : decode b_M_drawDay 69 = .ok (.iadd, 1) := by decide +kernel
theorem d_M_drawDay_70 : decode b_M_drawDay 70 = .ok (.aload_n 0, 1) := by decide +kernel
theorem d_M_drawDay_71 : decode b_M_drawDay 71 = .ok (.getfield 256, 3) := by decide +kernel
theorem d_M_drawDay_74 : decode b_M_drawDay 74 = .ok (.irem, 1) := by decide +kernel
theorem d_M_drawDay_75 : decode b_M_drawDay 75 = .ok (.putfield 519, 3) := by decide +kernel
theorem d_M_drawDay_78 : decode b_M_drawDay 78 = .ok (.aload_n 0, 1) := by decide +kernel
theorem d_M_drawDay_79 : decode b_M_drawDay 79 = .ok (.dup, 1) := by decide +kernel
theorem d_M_drawDay_80 : decode b_M_drawDay 80 = .ok (.getfield 522, 3) := by decide +kernel
theorem d_M_drawDay_83 : decode b_M_drawDay 83 = .ok (.iload 4, 2) := by decide +kernel
theorem d_M_drawDay_85 : decode b_M_drawDay 85 = .ok (.ifCond .eq 7, 3) := by decide +kernel
theorem d_M_drawDay_88 : decode b_M_drawDay 88 = .ok (.iconst 1, 1) := by decide +kernel
theorem d_M_drawDay_89 : decode b_M_drawDay 89 = .ok (.goto 4, 3) := by decide +kernel
theorem d_M_drawDay_92 : decode b_M_drawDay 92 = .ok (.iconst 0, 1) := by decide +kernel
theorem d_M_drawDay_93 : decode b_M_drawDay 93 = .ok (.iadd, 1) := by decide +kernel
theorem d_M_drawDay_94 : decode b_M_drawDay 94 = .ok (.putfield 522, 3) := by decide +kernel
theorem d_M_drawDay_97 : decode b_M_drawDay 97 = .ok (.iload_n 1, 1) := by decide +kernel
theorem d_M_drawDay_98 : decode b_M_drawDay 98 = .ok (.iload 4, 2) := by decide +kernel
theorem d_M_drawDay_100 : decode b_M_drawDay 100 = .ok (.ifCond .eq 16, 3) := by decide +kernel
theorem d_M_drawDay_103 : decode b_M_drawDay 103 = .ok (.aload_n 0, 1) := by decide +kernel
theorem d_M_drawDay_104 : decode b_M_drawDay 104 = .ok (.getfield 47, 3) := by decide +kernel
theorem d_M_drawDay_107 : decode b_M_drawDay 107 = .ok (.iload_n 3, 1) := by decide +kernel
theorem d_M_drawDay_108 : decode b_M_drawDay 108 = .ok (.iaload, 1) := by decide +kernel
theorem d_M_drawDay_109 : decode b_M_drawDay 109 = .ok (.ifCond .ne 7, 3) := by decide +kernel
theorem d_M_drawDay_112 : decode b_M_drawDay 112 = .ok (.iconst 1, 1) := by decide +kernel
theorem d_M_drawDay_113 : decode b_M_drawDay 113 = .ok (.goto 4, 3) := by decide +kernel
theorem d_M_drawDay_116 : decode b_M_drawDay 116 = .ok (.iconst 0, 1) := by decide +kernel
theorem d_M_drawDay_117 : decode b_M_drawDay 117 = .ok (.iadd, 1) := by decide +kernel
theorem d_M_drawDay_118 : decode b_M_drawDay 118 = .ok (.istore_n 1, 1) := by decide +kernel
theorem d_M_drawDay_119 : decode b_M_drawDay 119 = .ok (.iload_n 2, 1) := by decide +kernel
theorem d_M_drawDay_120 : decode b_M_drawDay 120 = .ok (.iload 4, 2) := by decide +kernel
theorem d_M_drawDay_122 : decode b_M_drawDay 122 = .ok (.ifCond .eq 17, 3) := by decide +kernel
theorem d_M_drawDay_125 : decode b_M_drawDay 125 = .ok (.aload_n 0, 1) := by decide +kernel
theorem d_M_drawDay_126 : decode b_M_drawDay 126 = .ok (.getfield 47, 3) := by decide +kernel
theorem d_M_drawDay_129 : decode b_M_drawDay 129 = .ok (.iload_n 3, 1) := by decide +kernel
theorem d_M_drawDay_130 : decode b_M_drawDay 130 = .ok (.iaload, 1) := by decide +kernel
theorem d_M_drawDay_131 : decode b_M_drawDay 131 = .ok (.iconst 1, 1) := by decide +kernel
theorem d_M_drawDay_132 : decode b_M_drawDay 132 = .ok (.if_icmp .ne 7, 3) := by decide +kernel
theorem d_M_drawDay_135 : decode b_M_drawDay 135 = .ok (.iconst 1, 1) := by decide +kernel
theorem d_M_drawDay_136 : decode b_M_drawDay 136 = .ok (.goto 4, 3) := by decide +kernel
theorem d_M_drawDay_139 : decode b_M_drawDay 139 = .ok (.iconst 0, 1) := by decide +kernel
theorem d_M_drawDay_140 : decode b_M_drawDay 140 = .ok (.iadd, 1) := by decide +kernel
theorem d_M_drawDay_141 : decode b_M_drawDay 141 = .ok (.istore_n 2, 1) := by decide +kernel
theorem d_M_drawDay_142 : decode b_M_drawDay 142 = .ok (.iinc 3 1, 3) := by decide +kernel
theorem d_M_drawDay_145 : decode b_M_drawDay 145 = .ok (.goto (-139), 3) := by decide +kernel
theorem d_M_drawDay_148 : decode b_M_drawDay 148 = .ok (.iconst 0, 1) := by decide +kernel
theorem d_M_drawDay_149 : decode b_M_drawDay 149 = .ok (.istore_n 3, 1) := by decide +kernel
theorem d_M_drawDay_150 : decode b_M_drawDay 150 = .ok (.iload_n 3, 1) := by decide +kernel
theorem d_M_drawDay_151 : decode b_M_drawDay 151 = .ok (.aload_n 0, 1) := by decide +kernel
theorem d_M_drawDay_152 : decode b_M_drawDay 152 = .ok (.getfield 253, 3) := by decide +kernel
theorem d_M_drawDay_155 : decode b_M_drawDay 155 = .ok (.if_icmp .ge 60, 3) := by decide +kernel
theorem d_M_drawDay_158 : decode b_M_drawDay 158 = .ok (.aload_n 0, 1) := by decide +kernel
theorem d_M_drawDay_159 : decode b_M_drawDay 159 = .ok (.iload_n 3, 1) := by decide +kernel
theorem d_M_drawDay_160 : decode b_M_drawDay 160 = .ok (.iconst 0, 1) := by decide +kernel
theorem d_M_drawDay_161 : decode b_M_drawDay 161 = .ok (.invokevirtual 244, 3) := by decide +kernel
theorem d_M_drawDay_164 : decode b_M_drawDay 164 = .ok (.ifCond .ne 12, 3) := by decide +kernel
theorem d_M_drawDay_167 : decode b_M_drawDay 167 = .ok (.aload_n 0, 1) := by decide +kernel
theorem d_M_drawDay_168 : decode b_M_drawDay 168 = .ok (.getfield 268, 3) := by decide +kernel
theorem d_M_drawDay_171 : decode b_M_drawDay 171 = .ok (.iload_n 1, 1) := by decide +kernel
theorem d_M_drawDay_172 : decode b_M_drawDay 172 = .ok (.isub, 1) := by decide +kernel
theorem d_M_drawDay_173 : decode b_M_drawDay 173 = .ok (.goto 9, 3) := by decide +kernel
theorem d_M_drawDay_176 : decode b_M_drawDay 176 = .ok (.aload_n 0, 1) := by decide +kernel
theorem d_M_drawDay_177 : decode b_M_drawDay 177 = .ok (.getfield 271, 3) := by decide +kernel
theorem d_M_drawDay_180 : decode b_M_drawDay 180 = .ok (.iload_n 2, 1) := by decide +kernel
theorem d_M_drawDay_181 : decode b_M_drawDay 181 = .ok (.isub, 1) := by decide +kernel
theorem d_M_drawDay_182 : decode b_M_drawDay 182 = .ok (.istore 4, 2) := by decide +kernel
theorem d_M_drawDay_184 : decode b_M_drawDay 184 = .ok (.aload_n 0, 1) := by decide +kernel
theorem d_M_drawDay_185 : decode b_M_drawDay 185 = .ok (.getfield 73, 3) := by decide +kernel
theorem d_M_drawDay_188 : decode b_M_drawDay 188 = .ok (.iload_n 3, 1) := by decide +kernel
theorem d_M_drawDay_189 : decode b_M_drawDay 189 = .ok (.dup2, 1) := by decide +kernel
theorem d_M_drawDay_190 : decode b_M_drawDay 190 = .ok (.iaload, 1) := by decide +kernel
theorem d_M_drawDay_191 : decode b_M_drawDay 191 = .ok (.iload 4, 2) := by decide +kernel
theorem d_M_drawDay_193 : decode b_M_drawDay 193 = .ok (.aload_n 0, 1) := by decide +kernel
theorem d_M_drawDay_194 : decode b_M_drawDay 194 = .ok (.iload_n 3, 1) := by decide +kernel
theorem d_M_drawDay_195 : decode b_M_drawDay 195 = .ok (.iconst 1, 1) := by decide +kernel
theorem d_M_drawDay_196 : decode b_M_drawDay 196 = .ok (.invokevirtual 244, 3) := by decide +kernel
theorem d_M_drawDay_199 : decode b_M_drawDay 199 = .ok (.if_icmp .lt 7, 3) := by decide +kernel
theorem d_M_drawDay_202 : decode b_M_drawDay 202 = .ok (.iconst 1, 1) := by decide +kernel
theorem d_M_drawDay_203 : decode b_M_drawDay 203 = .ok (.goto 4, 3) := by decide +kernel
theorem d_M_drawDay_206 : decode b_M_drawDay 206 = .ok (.iconst 0, 1) := by decide +kernel
theorem d_M_drawDay_207 : decode b_M_drawDay 207 = .ok (.iadd, 1) := by decide +kernel
theorem d_M_drawDay_208 : decode b_M_drawDay 208 = .ok (.iastore, 1) := by decide +kernel
theorem d_M_drawDay_209 : decode b_M_drawDay 209 = .ok (.iinc 3 1, 3) := by decide +kernel
theorem d_M_drawDay_212 : decode b_M_drawDay 212 = .ok (.goto (-62), 3) := by decide +kernel
theorem d_M_drawDay_215 : decode b_M_drawDay 215 = .ok (.return_, 1) := by decide +kernel
theorem d_M_draw_0 : decode b_M_draw 0 = .ok (.aload_n 0, 1) := by decide +kernel
theorem d_M_draw_1 : decode b_M_draw 1 = .ok (.aload_n 0, 1) := by decide +kernel
theorem d_M_draw_2 : decode b_M_draw 2 = .ok (.getfield 509, 3) := by decide +kernel
theorem d_M_draw_5 : decode b_M_draw 5 = .ok (.ldc_w 512, 3) := by decide +kernel
theorem d_M_draw_8 : decode b_M_draw 8 = .ok (.imul, 1) := by decide +kernel
theorem d_M_draw_9 : decode b_M_draw 9 = .ok (.sipush 12345, 3) := by decide +kernel
theorem d_M_draw_12 : decode b_M_draw 12 = .ok (.iadd, 1) := by decide +kernel
theorem d_M_draw_13 : decode b_M_draw 13 = .ok (.putfield 509, 3) := by decide +kernel
theorem d_M_draw_16 : decode b_M_draw 16 = .ok (.aload_n 0, 1) := by decide +kernel
theorem d_M_draw_17 : decode b_M_draw 17 = .ok (.getfield 509, 3) := by decide +kernel
theorem d_M_draw_20 : decode b_M_draw 20 = .ok (.bipush 16, 2) := by decide +kernel
theorem d_M_draw_22 : decode b_M_draw 22 = .ok (.iushr, 1) := by decide +kernel
theorem d_M_draw_23 : decode b_M_draw 23 = .ok (.iload_n 1, 1) := by decide +kernel
theorem d_M_draw_24 : decode b_M_draw 24 = .ok (.irem, 1) := by decide +kernel
theorem d_M_draw_25 : decode b_M_draw 25 = .ok (.ireturn, 1) := by decide +kernel
theorem d_M_count_0 : decode b_M_count 0 = .ok (.aload_n 0, 1) := by decide +kernel
theorem d_M_count_1 : decode b_M_count 1 = .ok (.iconst 0, 1) := by decide +kernel
theorem d_M_count_2 : decode b_M_count 2 = .ok (.putfield 80, 3) := by decide +kernel
theorem d_M_count_5 : decode b_M_count 5 = .ok (.iload_n 1, 1) := by decide +kernel
theorem d_M_count_6 : decode b_M_count 6 = .ok (.iconst 0, 1) := by decide +kernel
theorem d_M_count_7 : decode b_M_count 7 = .ok (.iconst 4, 1) := by decide +kernel
theorem d_M_count_8 : decode b_M_count 8 = .ok (.invokestatic 88, 3) := by decide +kernel
theorem d_M_count_11 : decode b_M_count 11 = .ok (.ifCond .eq 12, 3) := by decide +kernel
theorem d_M_count_14 : decode b_M_count 14 = .ok (.aload_n 0, 1) := by decide +kernel
theorem d_M_count_15 : decode b_M_count 15 = .ok (.getfield 23, 3) := by decide +kernel
theorem d_M_count_18 : decode b_M_count 18 = .ok (.iload_n 1, 1) := by decide +kernel
theorem d_M_count_19 : decode b_M_count 19 = .ok (.iaload, 1) := by decide +kernel
theorem d_M_count_20 : decode b_M_count 20 = .ok (.goto 5, 3) := by decide +kernel
theorem d_M_count_23 : decode b_M_count 23 = .ok (.bipush (-2), 2) := by decide +kernel
theorem d_M_count_25 : decode b_M_count 25 = .ok (.ireturn, 1) := by decide +kernel
theorem d_M_image_0 : decode b_M_image 0 = .ok (.aload_n 0, 1) := by decide +kernel
theorem d_M_image_1 : decode b_M_image 1 = .ok (.iconst 0, 1) := by decide +kernel
theorem d_M_image_2 : decode b_M_image 2 = .ok (.putfield 80, 3) := by decide +kernel
theorem d_M_image_5 : decode b_M_image 5 = .ok (.iload_n 1, 1) := by decide +kernel
theorem d_M_image_6 : decode b_M_image 6 = .ok (.iconst 0, 1) := by decide +kernel
theorem d_M_image_7 : decode b_M_image 7 = .ok (.iconst 2, 1) := by decide +kernel
theorem d_M_image_8 : decode b_M_image 8 = .ok (.invokestatic 88, 3) := by decide +kernel
theorem d_M_image_11 : decode b_M_image 11 = .ok (.ifCond .ne 5, 3) := by decide +kernel
theorem d_M_image_14 : decode b_M_image 14 = .ok (.iconst 0, 1) := by decide +kernel
theorem d_M_image_15 : decode b_M_image 15 = .ok (.ireturn, 1) := by decide +kernel
theorem d_M_image_16 : decode b_M_image 16 = .ok (.aload_n 0, 1) := by decide +kernel
theorem d_M_image_17 : decode b_M_image 17 = .ok (.iconst 0, 1) := by decide +kernel
theorem d_M_image_18 : decode b_M_image 18 = .ok (.iload_n 1, 1) := by decide +kernel
theorem d_M_image_19 : decode b_M_image 19 = .ok (.iconst 1, 1) := by decide +kernel
theorem d_M_image_20 : decode b_M_image 20 = .ok (.iadd, 1) := by decide +kernel
theorem d_M_image_21 : decode b_M_image 21 = .ok (.invokevirtual 528, 3) := by decide +kernel
theorem d_M_image_24 : decode b_M_image 24 = .ok (.aload_n 0, 1) := by decide +kernel
theorem d_M_image_25 : decode b_M_image 25 = .ok (.getfield 76, 3) := by decide +kernel
theorem d_M_image_28 : decode b_M_image 28 = .ok (.iload_n 1, 1) := by decide +kernel
theorem d_M_image_29 : decode b_M_image 29 = .ok (.iconst 1, 1) := by decide +kernel
theorem d_M_image_30 : decode b_M_image 30 = .ok (.bastore, 1) := by decide +kernel
theorem d_M_image_31 : decode b_M_image 31 = .ok (.iconst 1, 1) := by decide +kernel
theorem d_M_image_32 : decode b_M_image 32 = .ok (.ireturn, 1) := by decide +kernel
theorem d_M_copyAll_0 : decode b_M_copyAll 0 = .ok (.iconst 0, 1) := by decide +kernel
theorem d_M_copyAll_1 : decode b_M_copyAll 1 = .ok (.istore_n 3, 1) := by decide +kernel
theorem d_M_copyAll_2 : decode b_M_copyAll 2 = .ok (.iload_n 3, 1) := by decide +kernel
theorem d_M_copyAll_3 : decode b_M_copyAll 3 = .ok (.sipush 600, 3) := by decide +kernel
theorem d_M_copyAll_6 : decode b_M_copyAll 6 = .ok (.if_icmp .ge 33, 3) := by decide +kernel
theorem d_M_copyAll_9 : decode b_M_copyAll 9 = .ok (.aload_n 0, 1) := by decide +kernel
theorem d_M_copyAll_10 : decode b_M_copyAll 10 = .ok (.getfield 7, 3) := by decide +kernel
theorem d_M_copyAll_13 : decode b_M_copyAll 13 = .ok (.sipush 600, 3) := by decide +kernel
theorem d_M_copyAll_16 : decode b_M_copyAll 16 = .ok (.iload_n 2, 1) := by decide +kernel
theorem d_M_copyAll_17 : decode b_M_copyAll 17 = .ok (.imul, 1) := by decide +kernel
theorem d_M_copyAll_18 : decode b_M_copyAll 18 = .ok (.iload_n 3, 1) := by decide +kernel
theorem d_M_copyAll_19 : decode b_M_copyAll 19 = .ok (.iadd, 1) := by decide +kernel
theorem d_M_copyAll_20 : decode b_M_copyAll 20 = .ok (.aload_n 0, 1) := by decide +kernel
theorem d_M_copyAll_21 : decode b_M_copyAll 21 = .ok (.getfield 7, 3) := by decide +kernel
theorem d_M_copyAll_24 : decode b_M_copyAll 24 = .ok (.sipush 600, 3) := by decide +kernel
theorem d_M_copyAll_27 : decode b_M_copyAll 27 = .ok (.iload_n 1, 1) := by decide +kernel
theorem d_M_copyAll_28 : decode b_M_copyAll 28 = .ok (.imul, 1) := by decide +kernel
theorem d_M_copyAll_29 : decode b_M_copyAll 29 = .ok (.iload_n 3, 1) := by decide +kernel
theorem d_M_copyAll_30 : decode b_M_copyAll 30 = .ok (.iadd, 1) := by decide +kernel
theorem d_M_copyAll_31 : decode b_M_copyAll 31 = .ok (.baload, 1) := by decide +kernel
theorem d_M_copyAll_32 : decode b_M_copyAll 32 = .ok (.bastore, 1) := by decide +kernel
theorem d_M_copyAll_33 : decode b_M_copyAll 33 = .ok (.iinc 3 1, 3) := by decide +kernel
theorem d_M_copyAll_36 : decode b_M_copyAll 36 = .ok (.goto (-34), 3) := by decide +kernel
theorem d_M_copyAll_39 : decode b_M_copyAll 39 = .ok (.aload_n 0, 1) := by decide +kernel
theorem d_M_copyAll_40 : decode b_M_copyAll 40 = .ok (.getfield 13, 3) := by decide +kernel
theorem d_M_copyAll_43 : decode b_M_copyAll 43 = .ok (.iconst 1, 1) := by decide +kernel
theorem d_M_copyAll_44 : decode b_M_copyAll 44 = .ok (.iload_n 1, 1) := by decide +kernel
theorem d_M_copyAll_45 : decode b_M_copyAll 45 = .ok (.iload_n 2, 1) := by decide +kernel
theorem d_M_copyAll_46 : decode b_M_copyAll 46 = .ok (.invokestatic 84, 3) := by decide +kernel
theorem d_M_copyAll_49 : decode b_M_copyAll 49 = .ok (.aload_n 0, 1) := by decide +kernel
theorem d_M_copyAll_50 : decode b_M_copyAll 50 = .ok (.getfield 17, 3) := by decide +kernel
theorem d_M_copyAll_53 : decode b_M_copyAll 53 = .ok (.iconst 1, 1) := by decide +kernel
theorem d_M_copyAll_54 : decode b_M_copyAll 54 = .ok (.iload_n 1, 1) := by decide +kernel
theorem d_M_copyAll_55 : decode b_M_copyAll 55 = .ok (.iload_n 2, 1) := by decide +kernel
theorem d_M_copyAll_56 : decode b_M_copyAll 56 = .ok (.invokestatic 84, 3) := by decide +kernel
theorem d_M_copyAll_59 : decode b_M_copyAll 59 = .ok (.aload_n 0, 1) := by decide +kernel
theorem d_M_copyAll_60 : decode b_M_copyAll 60 = .ok (.getfield 20, 3) := by decide +kernel
theorem d_M_copyAll_63 : decode b_M_copyAll 63 = .ok (.iconst 1, 1) := by decide +kernel
theorem d_M_copyAll_64 : decode b_M_copyAll 64 = .ok (.iload_n 1, 1) := by decide +kernel
theorem d_M_copyAll_65 : decode b_M_copyAll 65 = .ok (.iload_n 2, 1) := by decide +kernel
theorem d_M_copyAll_66 : decode b_M_copyAll 66 = .ok (.invokestatic 84, 3) := by decide +kernel
theorem d_M_copyAll_69 : decode b_M_copyAll 69 = .ok (.aload_n 0, 1) := by decide +kernel
theorem d_M_copyAll_70 : decode b_M_copyAll 70 = .ok (.getfield 23, 3) := by decide +kernel
theorem d_M_copyAll_73 : decode b_M_copyAll 73 = .ok (.iconst 5, 1) := by decide +kernel
theorem d_M_copyAll_74 : decode b_M_copyAll 74 = .ok (.iload_n 1, 1) := by decide +kernel
theorem d_M_copyAll_75 : decode b_M_copyAll 75 = .ok (.iload_n 2, 1) := by decide +kernel
theorem d_M_copyAll_76 : decode b_M_copyAll 76 = .ok (.invokestatic 84, 3) := by decide +kernel
theorem d_M_copyAll_79 : decode b_M_copyAll 79 = .ok (.aload_n 0, 1) := by decide +kernel
theorem d_M_copyAll_80 : decode b_M_copyAll 80 = .ok (.getfield 26, 3) := by decide +kernel
theorem d_M_copyAll_83 : decode b_M_copyAll 83 = .ok (.sipush 624, 3) := by decide +kernel
theorem d_M_copyAll_86 : decode b_M_copyAll 86 = .ok (.iload_n 1, 1) := by decide +kernel
theorem d_M_copyAll_87 : decode b_M_copyAll 87 = .ok (.iload_n 2, 1) := by decide +kernel
theorem d_M_copyAll_88 : decode b_M_copyAll 88 = .ok (.invokestatic 84, 3) := by decide +kernel
theorem d_M_copyAll_91 : decode b_M_copyAll 91 = .ok (.aload_n 0, 1) := by decide +kernel
theorem d_M_copyAll_92 : decode b_M_copyAll 92 = .ok (.getfield 29, 3) := by decide +kernel
theorem d_M_copyAll_95 : decode b_M_copyAll 95 = .ok (.bipush 48, 2) := by decide +kernel
theorem d_M_copyAll_97 : decode b_M_copyAll 97 = .ok (.iload_n 1, 1) := by decide +kernel
theorem d_M_copyAll_98 : decode b_M_copyAll 98 = .ok (.iload_n 2, 1) := by decide +kernel
theorem d_M_copyAll_99 : decode b_M_copyAll 99 = .ok (.invokestatic 84, 3) := by decide +kernel
theorem d_M_copyAll_102 : decode b_M_copyAll 102 = .ok (.aload_n 0, 1) := by decide +kernel
theorem d_M_copyAll_103 : decode b_M_copyAll 103 = .ok (.getfield 32, 3) := by decide +kernel
theorem d_M_copyAll_106 : decode b_M_copyAll 106 = .ok (.bipush 122, 2) := by decide +kernel
theorem d_M_copyAll_108 : decode b_M_copyAll 108 = .ok (.iload_n 1, 1) := by decide +kernel
theorem d_M_copyAll_109 : decode b_M_copyAll 109 = .ok (.iload_n 2, 1) := by decide +kernel
theorem d_M_copyAll_110 : decode b_M_copyAll 110 = .ok (.invokestatic 84, 3) := by decide +kernel
theorem d_M_copyAll_113 : decode b_M_copyAll 113 = .ok (.aload_n 0, 1) := by decide +kernel
theorem d_M_copyAll_114 : decode b_M_copyAll 114 = .ok (.getfield 35, 3) := by decide +kernel
theorem d_M_copyAll_117 : decode b_M_copyAll 117 = .ok (.bipush 122, 2) := by decide +kernel
theorem d_M_copyAll_119 : decode b_M_copyAll 119 = .ok (.iload_n 1, 1) := by decide +kernel
theorem d_M_copyAll_120 : decode b_M_copyAll 120 = .ok (.iload_n 2, 1) := by decide +kernel
theorem d_M_copyAll_121 : decode b_M_copyAll 121 = .ok (.invokestatic 84, 3) := by decide +kernel
theorem d_M_copyAll_124 : decode b_M_copyAll 124 = .ok (.aload_n 0, 1) := by decide +kernel
theorem d_M_copyAll_125 : decode b_M_copyAll 125 = .ok (.getfield 38, 3) := by decide +kernel
theorem d_M_copyAll_128 : decode b_M_copyAll 128 = .ok (.bipush 16, 2) := by decide +kernel
theorem d_M_copyAll_130 : decode b_M_copyAll 130 = .ok (.iload_n 1, 1) := by decide +kernel
theorem d_M_copyAll_131 : decode b_M_copyAll 131 = .ok (.iload_n 2, 1) := by decide +kernel
theorem d_M_copyAll_132 : decode b_M_copyAll 132 = .ok (.invokestatic 84, 3) := by decide +kernel
theorem d_M_copyAll_135 : decode b_M_copyAll 135 = .ok (.return_, 1) := by decide +kernel
theorem d_M_copyRow_0 : decode b_M_copyRow 0 = .ok (.iconst 0, 1) := by decide +kernel
theorem d_M_copyRow_1 : decode b_M_copyRow 1 = .ok (.istore 4, 2) := by decide +kernel
theorem d_M_copyRow_3 : decode b_M_copyRow 3 = .ok (.iload 4, 2) := by decide +kernel
theorem d_M_copyRow_5 : decode b_M_copyRow 5 = .ok (.iload_n 1, 1) := by decide +kernel
theorem d_M_copyRow_6 : decode b_M_copyRow 6 = .ok (.if_icmp .ge 25, 3) := by decide +kernel
theorem d_M_copyRow_9 : decode b_M_copyRow 9 = .ok (.aload_n 0, 1) := by decide +kernel
theorem d_M_copyRow_10 : decode b_M_copyRow 10 = .ok (.iload_n 1, 1) := by decide +kernel
theorem d_M_copyRow_11 : decode b_M_copyRow 11 = .ok (.iload_n 3, 1) := by decide +kernel
theorem d_M_copyRow_12 : decode b_M_copyRow 12 = .ok (.imul, 1) := by decide +kernel
theorem d_M_copyRow_13 : decode b_M_copyRow 13 = .ok (.iload 4, 2) := by decide +kernel
theorem d_M_copyRow_15 : decode b_M_copyRow 15 = .ok (.iadd, 1) := by decide +kernel
theorem d_M_copyRow_16 : decode b_M_copyRow 16 = .ok (.aload_n 0, 1) := by decide +kernel
theorem d_M_copyRow_17 : decode b_M_copyRow 17 = .ok (.iload_n 1, 1) := by decide +kernel
theorem d_M_copyRow_18 : decode b_M_copyRow 18 = .ok (.iload_n 2, 1) := by decide +kernel
theorem d_M_copyRow_19 : decode b_M_copyRow 19 = .ok (.imul, 1) := by decide +kernel
theorem d_M_copyRow_20 : decode b_M_copyRow 20 = .ok (.iload 4, 2) := by decide +kernel
theorem d_M_copyRow_22 : decode b_M_copyRow 22 = .ok (.iadd, 1) := by decide +kernel
theorem d_M_copyRow_23 : decode b_M_copyRow 23 = .ok (.iaload, 1) := by decide +kernel
theorem d_M_copyRow_24 : decode b_M_copyRow 24 = .ok (.iastore, 1) := by decide +kernel
theorem d_M_copyRow_25 : decode b_M_copyRow 25 = .ok (.iinc 4 1, 3) := by decide +kernel
theorem d_M_copyRow_28 : decode b_M_copyRow 28 = .ok (.goto (-25), 3) := by decide +kernel
theorem d_M_copyRow_31 : decode b_M_copyRow 31 = .ok (.return_, 1) := by decide +kernel
theorem d_M_again_0 : decode b_M_again 0 = .ok (.aload_n 0, 1) := by decide +kernel
theorem d_M_again_1 : decode b_M_again 1 = .ok (.iconst 0, 1) := by decide +kernel
theorem d_M_again_2 : decode b_M_again 2 = .ok (.putfield 80, 3) := by decide +kernel
theorem d_M_again_5 : decode b_M_again 5 = .ok (.iload_n 1, 1) := by decide +kernel
theorem d_M_again_6 : decode b_M_again 6 = .ok (.iconst 0, 1) := by decide +kernel
theorem d_M_again_7 : decode b_M_again 7 = .ok (.iconst 2, 1) := by decide +kernel
theorem d_M_again_8 : decode b_M_again 8 = .ok (.invokestatic 88, 3) := by decide +kernel
theorem d_M_again_11 : decode b_M_again 11 = .ok (.ifCond .eq 12, 3) := by decide +kernel
theorem d_M_again_14 : decode b_M_again 14 = .ok (.aload_n 0, 1) := by decide +kernel
theorem d_M_again_15 : decode b_M_again 15 = .ok (.getfield 76, 3) := by decide +kernel
theorem d_M_again_18 : decode b_M_again 18 = .ok (.iload_n 1, 1) := by decide +kernel
theorem d_M_again_19 : decode b_M_again 19 = .ok (.baload, 1) := by decide +kernel
theorem d_M_again_20 : decode b_M_again 20 = .ok (.ifCond .ne 5, 3) := by decide +kernel
theorem d_M_again_23 : decode b_M_again 23 = .ok (.iconst 0, 1) := by decide +kernel
theorem d_M_again_24 : decode b_M_again 24 = .ok (.ireturn, 1) := by decide +kernel
theorem d_M_again_25 : decode b_M_again 25 = .ok (.aload_n 0, 1) := by decide +kernel
theorem d_M_again_26 : decode b_M_again 26 = .ok (.iload_n 1, 1) := by decide +kernel
theorem d_M_again_27 : decode b_M_again 27 = .ok (.iconst 1, 1) := by decide +kernel
theorem d_M_again_28 : decode b_M_again 28 = .ok (.iadd, 1) := by decide +kernel
theorem d_M_again_29 : decode b_M_again 29 = .ok (.iconst 0, 1) := by decide +kernel
theorem d_M_again_30 : decode b_M_again 30 = .ok (.invokevirtual 528, 3) := by decide +kernel
theorem d_M_again_33 : decode b_M_again 33 = .ok (.iconst 1, 1) := by decide +kernel
theorem d_M_again_34 : decode b_M_again 34 = .ok (.ireturn, 1) := by decide +kernel

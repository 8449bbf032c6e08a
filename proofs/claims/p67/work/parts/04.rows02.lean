theorem dX10_isLetter_6 : decode cX10_isLetter 6 = .ok (.iload_n 0, 1) := by decide +kernel
theorem dX10_isLetter_7 : decode cX10_isLetter 7 = .ok (.bipush 122, 2) := by decide +kernel
theorem dX10_isLetter_9 : decode cX10_isLetter 9 = .ok (.if_icmp .gt 7, 3) := by decide +kernel
theorem dX10_isLetter_12 : decode cX10_isLetter 12 = .ok (.iconst 1, 1) := by decide +kernel
theorem dX10_isLetter_13 : decode cX10_isLetter 13 = .ok (.goto 4, 3) := by decide +kernel
theorem dX10_isLetter_16 : decode cX10_isLetter 16 = .ok (.iconst 0, 1) := by decide +kernel
theorem dX10_isLetter_17 : decode cX10_isLetter 17 = .ok (.ireturn, 1) := by decide +kernel
theorem dX10_isDigit_0 : decode cX10_isDigit 0 = .ok (.iload_n 0, 1) := by decide +kernel
theorem dX10_isDigit_1 : decode cX10_isDigit 1 = .ok (.bipush 48, 2) := by decide +kernel
theorem dX10_isDigit_3 : decode cX10_isDigit 3 = .ok (.if_icmp .lt 13, 3) := by decide +kernel
theorem dX10_isDigit_6 : decode cX10_isDigit 6 = .ok (.iload_n 0, 1) := by decide +kernel
theorem dX10_isDigit_7 : decode cX10_isDigit 7 = .ok (.bipush 57, 2) := by decide +kernel
theorem dX10_isDigit_9 : decode cX10_isDigit 9 = .ok (.if_icmp .gt 7, 3) := by decide +kernel
theorem dX10_isDigit_12 : decode cX10_isDigit 12 = .ok (.iconst 1, 1) := by decide +kernel
theorem dX10_isDigit_13 : decode cX10_isDigit 13 = .ok (.goto 4, 3) := by decide +kernel
theorem dX10_isDigit_16 : decode cX10_isDigit 16 = .ok (.iconst 0, 1) := by decide +kernel
theorem dX10_isDigit_17 : decode cX10_isDigit 17 = .ok (.ireturn, 1) := by decide +kernel
theorem dX11_init_0 : decode cX11_init 0 = .ok (.aload_n 0, 1) := by decide +kernel
theorem dX11_init_1 : decode cX11_init 1 = .ok (.invokespecial 1, 3) := by decide +kernel
theorem dX11_init_4 : decode cX11_init 4 = .ok (.aload_n 0, 1) := by decide +kernel
theorem dX11_init_5 : decode cX11_init 5 = .ok (.new 7, 3) := by decide +kernel
theorem dX11_init_8 : decode cX11_init 8 = .ok (.dup, 1) := by decide +kernel
theorem dX11_init_9 : decode cX11_init 9 = .ok (.invokespecial 9, 3) := by decide +kernel
theorem dX11_init_12 : decode cX11_init 12 = .ok (.putfield 10, 3) := by decide +kernel
theorem dX11_init_15 : decode cX11_init 15 = .ok (.aload_n 0, 1) := by decide +kernel
theorem dX11_init_16 : decode cX11_init 16 = .ok (.new 16, 3) := by decide +kernel
theorem dX11_init_19 : decode cX11_init 19 = .ok (.dup, 1) := by decide +kernel
theorem dX11_init_20 : decode cX11_init 20 = .ok (.invokespecial 18, 3) := by decide +kernel
theorem dX11_init_23 : decode cX11_init 23 = .ok (.putfield 19, 3) := by decide +kernel
theorem dX11_init_26 : decode cX11_init 26 = .ok (.aload_n 0, 1) := by decide +kernel
theorem dX11_init_27 : decode cX11_init 27 = .ok (.new 16, 3) := by decide +kernel
theorem dX11_init_30 : decode cX11_init 30 = .ok (.dup, 1) := by decide +kernel
theorem dX11_init_31 : decode cX11_init 31 = .ok (.invokespecial 18, 3) := by decide +kernel
theorem dX11_init_34 : decode cX11_init 34 = .ok (.putfield 23, 3) := by decide +kernel
theorem dX11_init_37 : decode cX11_init 37 = .ok (.aload_n 0, 1) := by decide +kernel
theorem dX11_init_38 : decode cX11_init 38 = .ok (.iconst 3, 1) := by decide +kernel
theorem dX11_init_39 : decode cX11_init 39 = .ok (.anewarray 16, 3) := by decide +kernel
theorem dX11_init_42 : decode cX11_init 42 = .ok (.putfield 26, 3) := by decide +kernel
theorem dX11_init_45 : decode cX11_init 45 = .ok (.iconst 0, 1) := by decide +kernel
theorem dX11_init_46 : decode cX11_init 46 = .ok (.istore_n 1, 1) := by decide +kernel
theorem dX11_init_47 : decode cX11_init 47 = .ok (.iload_n 1, 1) := by decide +kernel
theorem dX11_init_48 : decode cX11_init 48 = .ok (.iconst 3, 1) := by decide +kernel
theorem dX11_init_49 : decode cX11_init 49 = .ok (.if_icmp .ge 22, 3) := by decide +kernel
theorem dX11_init_52 : decode cX11_init 52 = .ok (.aload_n 0, 1) := by decide +kernel
theorem dX11_init_53 : decode cX11_init 53 = .ok (.getfield 26, 3) := by decide +kernel
theorem dX11_init_56 : decode cX11_init 56 = .ok (.iload_n 1, 1) := by decide +kernel
theorem dX11_init_57 : decode cX11_init 57 = .ok (.new 16, 3) := by decide +kernel
theorem dX11_init_60 : decode cX11_init 60 = .ok (.dup, 1) := by decide +kernel
theorem dX11_init_61 : decode cX11_init 61 = .ok (.invokespecial 18, 3) := by decide +kernel
theorem dX11_init_64 : decode cX11_init 64 = .ok (.aastore, 1) := by decide +kernel
theorem dX11_init_65 : decode cX11_init 65 = .ok (.iinc 1 1, 3) := by decide +kernel
theorem dX11_init_68 : decode cX11_init 68 = .ok (.goto (-21), 3) := by decide +kernel
theorem dX11_init_71 : decode cX11_init 71 = .ok (.aload_n 0, 1) := by decide +kernel
theorem dX11_init_72 : decode cX11_init 72 = .ok (.iconst 3, 1) := by decide +kernel
theorem dX11_init_73 : decode cX11_init 73 = .ok (.newarray .boolean, 2) := by decide +kernel
theorem dX11_init_75 : decode cX11_init 75 = .ok (.putfield 30, 3) := by decide +kernel
theorem dX11_init_78 : decode cX11_init 78 = .ok (.aload_n 0, 1) := by decide +kernel
theorem dX11_init_79 : decode cX11_init 79 = .ok (.new 34, 3) := by decide +kernel
theorem dX11_init_82 : decode cX11_init 82 = .ok (.dup, 1) := by decide +kernel
theorem dX11_init_83 : decode cX11_init 83 = .ok (.invokespecial 36, 3) := by decide +kernel
theorem dX11_init_86 : decode cX11_init 86 = .ok (.putfield 37, 3) := by decide +kernel
theorem dX11_init_89 : decode cX11_init 89 = .ok (.aload_n 0, 1) := by decide +kernel
theorem dX11_init_90 : decode cX11_init 90 = .ok (.new 41, 3) := by decide +kernel
theorem dX11_init_93 : decode cX11_init 93 = .ok (.dup, 1) := by decide +kernel
theorem dX11_init_94 : decode cX11_init 94 = .ok (.invokespecial 43, 3) := by decide +kernel
theorem dX11_init_97 : decode cX11_init 97 = .ok (.putfield 44, 3) := by decide +kernel
theorem dX11_init_100 : decode cX11_init 100 = .ok (.aload_n 0, 1) := by decide +kernel
theorem dX11_init_101 : decode cX11_init 101 = .ok (.new 48, 3) := by decide +kernel
theorem dX11_init_104 : decode cX11_init 104 = .ok (.dup, 1) := by decide +kernel
theorem dX11_init_105 : decode cX11_init 105 = .ok (.invokespecial 50, 3) := by decide +kernel
theorem dX11_init_108 : decode cX11_init 108 = .ok (.putfield 51, 3) := by decide +kernel
theorem dX11_init_111 : decode cX11_init 111 = .ok (.aload_n 0, 1) := by decide +kernel
theorem dX11_init_112 : decode cX11_init 112 = .ok (.new 55, 3) := by decide +kernel
theorem dX11_init_115 : decode cX11_init 115 = .ok (.dup, 1) := by decide +kernel
theorem dX11_init_116 : decode cX11_init 116 = .ok (.invokespecial 57, 3) := by decide +kernel
theorem dX11_init_119 : decode cX11_init 119 = .ok (.putfield 58, 3) := by decide +kernel
theorem dX11_init_122 : decode cX11_init 122 = .ok (.aload_n 0, 1) := by decide +kernel
theorem dX11_init_123 : decode cX11_init 123 = .ok (.new 62, 3) := by decide +kernel
theorem dX11_init_126 : decode cX11_init 126 = .ok (.dup, 1) := by decide +kernel
theorem dX11_init_127 : decode cX11_init 127 = .ok (.invokespecial 64, 3) := by decide +kernel
theorem dX11_init_130 : decode cX11_init 130 = .ok (.putfield 65, 3) := by decide +kernel
theorem dX11_init_133 : decode cX11_init 133 = .ok (.aload_n 0, 1) := by decide +kernel
theorem dX11_init_134 : decode cX11_init 134 = .ok (.new 69, 3) := by decide +kernel
theorem dX11_init_137 : decode cX11_init 137 = .ok (.dup, 1) := by decide +kernel
theorem dX11_init_138 : decode cX11_init 138 = .ok (.invokespecial 71, 3) := by decide +kernel
theorem dX11_init_141 : decode cX11_init 141 = .ok (.putfield 72, 3) := by decide +kernel
theorem dX11_init_144 : decode cX11_init 144 = .ok (.aload_n 0, 1) := by decide +kernel
theorem dX11_init_145 : decode cX11_init 145 = .ok (.new 76, 3) := by decide +kernel
theorem dX11_init_148 : decode cX11_init 148 = .ok (.dup, 1) := by decide +kernel
theorem dX11_init_149 : decode cX11_init 149 = .ok (.invokespecial 78, 3) := by decide +kernel
theorem dX11_init_152 : decode cX11_init 152 = .ok (.putfield 79, 3) := by decide +kernel
theorem dX11_init_155 : decode cX11_init 155 = .ok (.aload_n 0, 1) := by decide +kernel
theorem dX11_init_156 : decode cX11_init 156 = .ok (.bipush 7, 2) := by decide +kernel
theorem dX11_init_158 : decode cX11_init 158 = .ok (.newarray .int, 2) := by decide +kernel
theorem dX11_init_160 : decode cX11_init 160 = .ok (.putfield 83, 3) := by decide +kernel
theorem dX11_init_163 : decode cX11_init 163 = .ok (.aload_n 0, 1) := by decide +kernel
theorem dX11_init_164 : decode cX11_init 164 = .ok (.bipush 7, 2) := by decide +kernel
theorem dX11_init_166 : decode cX11_init 166 = .ok (.newarray .int, 2) := by decide +kernel
theorem dX11_init_168 : decode cX11_init 168 = .ok (.putfield 87, 3) := by decide +kernel
theorem dX11_init_171 : decode cX11_init 171 = .ok (.aload_n 0, 1) := by decide +kernel
theorem dX11_init_172 : decode cX11_init 172 = .ok (.aconst_null, 1) := by decide +kernel
theorem dX11_init_173 : decode cX11_init 173 = .ok (.putfield 90, 3) := by decide +kernel
theorem dX11_init_176 : decode cX11_init 176 = .ok (.return_, 1) := by decide +kernel
theorem dX11_feed_0 : decode cX11_feed 0 = .ok (.aload_n 0, 1) := by decide +kernel
theorem dX11_feed_1 : decode cX11_feed 1 = .ok (.getfield 10, 3) := by decide +kernel
theorem dX11_feed_4 : decode cX11_feed 4 = .ok (.invokevirtual 94, 3) := by decide +kernel
theorem dX11_feed_7 : decode cX11_feed 7 = .ok (.ifCond .ne 5, 3) := by decide +kernel
theorem dX11_feed_10 : decode cX11_feed 10 = .ok (.iconst (-1), 1) := by decide +kernel
theorem dX11_feed_11 : decode cX11_feed 11 = .ok (.ireturn, 1) := by decide +kernel
theorem dX11_feed_12 : decode cX11_feed 12 = .ok (.aload_n 0, 1) := by decide +kernel
theorem dX11_feed_13 : decode cX11_feed 13 = .ok (.getfield 10, 3) := by decide +kernel
theorem dX11_feed_16 : decode cX11_feed 16 = .ok (.iload_n 1, 1) := by decide +kernel
theorem dX11_feed_17 : decode cX11_feed 17 = .ok (.invokevirtual 98, 3) := by decide +kernel
theorem dX11_feed_20 : decode cX11_feed 20 = .ok (.aload_n 0, 1) := by decide +kernel
theorem dX11_feed_21 : decode cX11_feed 21 = .ok (.getfield 10, 3) := by decide +kernel
theorem dX11_feed_24 : decode cX11_feed 24 = .ok (.iload_n 2, 1) := by decide +kernel
theorem dX11_feed_25 : decode cX11_feed 25 = .ok (.invokevirtual 98, 3) := by decide +kernel
theorem dX11_feed_28 : decode cX11_feed 28 = .ok (.aload_n 0, 1) := by decide +kernel
theorem dX11_feed_29 : decode cX11_feed 29 = .ok (.getfield 10, 3) := by decide +kernel
theorem dX11_feed_32 : decode cX11_feed 32 = .ok (.iload_n 3, 1) := by decide +kernel
theorem dX11_feed_33 : decode cX11_feed 33 = .ok (.invokevirtual 98, 3) := by decide +kernel
theorem dX11_feed_36 : decode cX11_feed 36 = .ok (.aload_n 0, 1) := by decide +kernel
theorem dX11_feed_37 : decode cX11_feed 37 = .ok (.getfield 10, 3) := by decide +kernel
theorem dX11_feed_40 : decode cX11_feed 40 = .ok (.iload 4, 2) := by decide +kernel
theorem dX11_feed_42 : decode cX11_feed 42 = .ok (.invokevirtual 98, 3) := by decide +kernel
theorem dX11_feed_45 : decode cX11_feed 45 = .ok (.aload_n 0, 1) := by decide +kernel
theorem dX11_feed_46 : decode cX11_feed 46 = .ok (.getfield 10, 3) := by decide +kernel
theorem dX11_feed_49 : decode cX11_feed 49 = .ok (.iload 5, 2) := by decide +kernel
theorem dX11_feed_51 : decode cX11_feed 51 = .ok (.invokevirtual 98, 3) := by decide +kernel
theorem dX11_feed_54 : decode cX11_feed 54 = .ok (.aload_n 0, 1) := by decide +kernel
theorem dX11_feed_55 : decode cX11_feed 55 = .ok (.getfield 10, 3) := by decide +kernel
theorem dX11_feed_58 : decode cX11_feed 58 = .ok (.getfield 102, 3) := by decide +kernel
theorem dX11_feed_61 : decode cX11_feed 61 = .ok (.ireturn, 1) := by decide +kernel
theorem dX11_end_0 : decode cX11_end 0 = .ok (.iload_n 1, 1) := by decide +kernel
theorem dX11_end_1 : decode cX11_end 1 = .ok (.ifCond .lt 14, 3) := by decide +kernel
theorem dX11_end_4 : decode cX11_end 4 = .ok (.iload_n 1, 1) := by decide +kernel
theorem dX11_end_5 : decode cX11_end 5 = .ok (.aload_n 0, 1) := by decide +kernel
theorem dX11_end_6 : decode cX11_end 6 = .ok (.getfield 10, 3) := by decide +kernel
theorem dX11_end_9 : decode cX11_end 9 = .ok (.getfield 102, 3) := by decide +kernel
theorem dX11_end_12 : decode cX11_end 12 = .ok (.if_icmp .le 5, 3) := by decide +kernel
theorem dX11_end_15 : decode cX11_end 15 = .ok (.iconst (-1), 1) := by decide +kernel
theorem dX11_end_16 : decode cX11_end 16 = .ok (.ireturn, 1) := by decide +kernel
theorem dX11_end_17 : decode cX11_end 17 = .ok (.aload_n 0, 1) := by decide +kernel
theorem dX11_end_18 : decode cX11_end 18 = .ok (.getfield 10, 3) := by decide +kernel
theorem dX11_end_21 : decode cX11_end 21 = .ok (.iload_n 1, 1) := by decide +kernel
theorem dX11_end_22 : decode cX11_end 22 = .ok (.putfield 102, 3) := by decide +kernel
theorem dX11_end_25 : decode cX11_end 25 = .ok (.iload_n 1, 1) := by decide +kernel
theorem dX11_end_26 : decode cX11_end 26 = .ok (.ireturn, 1) := by decide +kernel
theorem dX11_hall_0 : decode cX11_hall 0 = .ok (.aload_n 0, 1) := by decide +kernel
theorem dX11_hall_1 : decode cX11_hall 1 = .ok (.getfield 10, 3) := by decide +kernel
theorem dX11_hall_4 : decode cX11_hall 4 = .ok (.aload_n 0, 1) := by decide +kernel
theorem dX11_hall_5 : decode cX11_hall 5 = .ok (.getfield 23, 3) := by decide +kernel
theorem dX11_hall_8 : decode cX11_hall 8 = .ok (.invokevirtual 106, 3) := by decide +kernel
theorem dX11_hall_11 : decode cX11_hall 11 = .ok (.aload_n 0, 1) := by decide +kernel
theorem dX11_hall_12 : decode cX11_hall 12 = .ok (.getfield 10, 3) := by decide +kernel
theorem dX11_hall_15 : decode cX11_hall 15 = .ok (.getfield 110, 3) := by decide +kernel
theorem dX11_hall_18 : decode cX11_hall 18 = .ok (.ifCond .eq 6, 3) := by decide +kernel
theorem dX11_hall_21 : decode cX11_hall 21 = .ok (.bipush (-4), 2) := by decide +kernel
theorem dX11_hall_23 : decode cX11_hall 23 = .ok (.ireturn, 1) := by decide +kernel
theorem dX11_hall_24 : decode cX11_hall 24 = .ok (.aload_n 0, 1) := by decide +kernel
theorem dX11_hall_25 : decode cX11_hall 25 = .ok (.getfield 10, 3) := by decide +kernel
theorem dX11_hall_28 : decode cX11_hall 28 = .ok (.iconst 0, 1) := by decide +kernel
theorem dX11_hall_29 : decode cX11_hall 29 = .ok (.putfield 102, 3) := by decide +kernel
theorem dX11_hall_32 : decode cX11_hall 32 = .ok (.aload_n 0, 1) := by decide +kernel
theorem dX11_hall_33 : decode cX11_hall 33 = .ok (.getfield 19, 3) := by decide +kernel
theorem dX11_hall_36 : decode cX11_hall 36 = .ok (.aload_n 0, 1) := by decide +kernel
theorem dX11_hall_37 : decode cX11_hall 37 = .ok (.getfield 23, 3) := by decide +kernel
theorem dX11_hall_40 : decode cX11_hall 40 = .ok (.invokevirtual 113, 3) := by decide +kernel
theorem dX11_hall_43 : decode cX11_hall 43 = .ok (.aload_n 0, 1) := by decide +kernel
theorem dX11_hall_44 : decode cX11_hall 44 = .ok (.getfield 19, 3) := by decide +kernel
theorem dX11_hall_47 : decode cX11_hall 47 = .ok (.getfield 116, 3) := by decide +kernel
theorem dX11_hall_50 : decode cX11_hall 50 = .ok (.ireturn, 1) := by decide +kernel
theorem dX11_fault_0 : decode cX11_fault 0 = .ok (.iload_n 1, 1) := by decide +kernel
theorem dX11_fault_1 : decode cX11_fault 1 = .ok (.ifCond .ne 11, 3) := by decide +kernel
theorem dX11_fault_4 : decode cX11_fault 4 = .ok (.aload_n 0, 1) := by decide +kernel
theorem dX11_fault_5 : decode cX11_fault 5 = .ok (.getfield 10, 3) := by decide +kernel
theorem dX11_fault_8 : decode cX11_fault 8 = .ok (.getfield 110, 3) := by decide +kernel
theorem dX11_fault_11 : decode cX11_fault 11 = .ok (.ireturn, 1) := by decide +kernel
theorem dX11_fault_12 : decode cX11_fault 12 = .ok (.iload_n 1, 1) := by decide +kernel
theorem dX11_fault_13 : decode cX11_fault 13 = .ok (.iconst 1, 1) := by decide +kernel
theorem dX11_fault_14 : decode cX11_fault 14 = .ok (.if_icmp .ne 13, 3) := by decide +kernel
theorem dX11_fault_17 : decode cX11_fault 17 = .ok (.aload_n 0, 1) := by decide +kernel
theorem dX11_fault_18 : decode cX11_fault 18 = .ok (.getfield 10, 3) := by decide +kernel
theorem dX11_fault_21 : decode cX11_fault 21 = .ok (.getfield 119, 3) := by decide +kernel
theorem dX11_fault_24 : decode cX11_fault 24 = .ok (.goto 4, 3) := by decide +kernel
theorem dX11_fault_27 : decode cX11_fault 27 = .ok (.iconst (-1), 1) := by decide +kernel
theorem dX11_fault_28 : decode cX11_fault 28 = .ok (.ireturn, 1) := by decide +kernel
theorem dX11_law_0 : decode cX11_law 0 = .ok (.iload_n 1, 1) := by decide +kernel
theorem dX11_law_1 : decode cX11_law 1 = .ok (.ifCond .lt 14, 3) := by decide +kernel
theorem dX11_law_4 : decode cX11_law 4 = .ok (.iload_n 1, 1) := by decide +kernel
theorem dX11_law_5 : decode cX11_law 5 = .ok (.aload_n 0, 1) := by decide +kernel
theorem dX11_law_6 : decode cX11_law 6 = .ok (.getfield 19, 3) := by decide +kernel
theorem dX11_law_9 : decode cX11_law 9 = .ok (.getfield 122, 3) := by decide +kernel
theorem dX11_law_12 : decode cX11_law 12 = .ok (.if_icmp .lt 6, 3) := by decide +kernel
theorem dX11_law_15 : decode cX11_law 15 = .ok (.bipush (-2), 2) := by decide +kernel
theorem dX11_law_17 : decode cX11_law 17 = .ok (.ireturn, 1) := by decide +kernel
theorem dX11_law_18 : decode cX11_law 18 = .ok (.iload_n 2, 1) := by decide +kernel
theorem dX11_law_19 : decode cX11_law 19 = .ok (.tableswitch 69 0 3 #[29, 39, 49, 59], 29) := by decide +kernel
theorem dX11_law_48 : decode cX11_law 48 = .ok (.aload_n 0, 1) := by decide +kernel
theorem dX11_law_49 : decode cX11_law 49 = .ok (.getfield 19, 3) := by decide +kernel
theorem dX11_law_52 : decode cX11_law 52 = .ok (.getfield 125, 3) := by decide +kernel
theorem dX11_law_55 : decode cX11_law 55 = .ok (.iload_n 1, 1) := by decide +kernel
theorem dX11_law_56 : decode cX11_law 56 = .ok (.iaload, 1) := by decide +kernel
theorem dX11_law_57 : decode cX11_law 57 = .ok (.ireturn, 1) := by decide +kernel
theorem dX11_law_58 : decode cX11_law 58 = .ok (.aload_n 0, 1) := by decide +kernel
theorem dX11_law_59 : decode cX11_law 59 = .ok (.getfield 19, 3) := by decide +kernel
theorem dX11_law_62 : decode cX11_law 62 = .ok (.getfield 128, 3) := by decide +kernel
theorem dX11_law_65 : decode cX11_law 65 = .ok (.iload_n 1, 1) := by decide +kernel
theorem dX11_law_66 : decode cX11_law 66 = .ok (.iaload, 1) := by decide +kernel
theorem dX11_law_67 : decode cX11_law 67 = .ok (.ireturn, 1) := by decide +kernel
theorem dX11_law_68 : decode cX11_law 68 = .ok (.aload_n 0, 1) := by decide +kernel
theorem dX11_law_69 : decode cX11_law 69 = .ok (.getfield 19, 3) := by decide +kernel
theorem dX11_law_72 : decode cX11_law 72 = .ok (.getfield 131, 3) := by decide +kernel
theorem dX11_law_75 : decode cX11_law 75 = .ok (.iload_n 1, 1) := by decide +kernel
theorem dX11_law_76 : decode cX11_law 76 = .ok (.iaload, 1) := by decide +kernel
theorem dX11_law_77 : decode cX11_law 77 = .ok (.ireturn, 1) := by decide +kernel
theorem dX11_law_78 : decode cX11_law 78 = .ok (.aload_n 0, 1) := by decide +kernel
theorem dX11_law_79 : decode cX11_law 79 = .ok (.getfield 19, 3) := by decide +kernel
theorem dX11_law_82 : decode cX11_law 82 = .ok (.getfield 134, 3) := by decide +kernel
theorem dX11_law_85 : decode cX11_law 85 = .ok (.iload_n 1, 1) := by decide +kernel
theorem dX11_law_86 : decode cX11_law 86 = .ok (.iaload, 1) := by decide +kernel
theorem dX11_law_87 : decode cX11_law 87 = .ok (.ireturn, 1) := by decide +kernel
theorem dX11_law_88 : decode cX11_law 88 = .ok (.bipush (-2), 2) := by decide +kernel
theorem dX11_law_90 : decode cX11_law 90 = .ok (.ireturn, 1) := by decide +kernel
theorem dX11_suits_0 : decode cX11_suits 0 = .ok (.aload_n 0, 1) := by decide +kernel
theorem dX11_suits_1 : decode cX11_suits 1 = .ok (.getfield 19, 3) := by decide +kernel
theorem dX11_suits_4 : decode cX11_suits 4 = .ok (.iload_n 1, 1) := by decide +kernel
theorem dX11_suits_5 : decode cX11_suits 5 = .ok (.invokevirtual 137, 3) := by decide +kernel
theorem dX11_suits_8 : decode cX11_suits 8 = .ok (.ifCond .eq 14, 3) := by decide +kernel
theorem dX11_suits_11 : decode cX11_suits 11 = .ok (.aload_n 0, 1) := by decide +kernel
theorem dX11_suits_12 : decode cX11_suits 12 = .ok (.getfield 19, 3) := by decide +kernel
theorem dX11_suits_15 : decode cX11_suits 15 = .ok (.iload_n 2, 1) := by decide +kernel
theorem dX11_suits_16 : decode cX11_suits 16 = .ok (.invokevirtual 137, 3) := by decide +kernel
theorem dX11_suits_19 : decode cX11_suits 19 = .ok (.ifCond .ne 6, 3) := by decide +kernel
theorem dX11_suits_22 : decode cX11_suits 22 = .ok (.bipush (-2), 2) := by decide +kernel
theorem dX11_suits_24 : decode cX11_suits 24 = .ok (.ireturn, 1) := by decide +kernel
theorem dX11_suits_25 : decode cX11_suits 25 = .ok (.aload_n 0, 1) := by decide +kernel
theorem dX11_suits_26 : decode cX11_suits 26 = .ok (.getfield 19, 3) := by decide +kernel
theorem dX11_suits_29 : decode cX11_suits 29 = .ok (.iload_n 1, 1) := by decide +kernel
theorem dX11_suits_30 : decode cX11_suits 30 = .ok (.iload_n 2, 1) := by decide +kernel
theorem dX11_suits_31 : decode cX11_suits 31 = .ok (.invokevirtual 141, 3) := by decide +kernel
theorem dX11_suits_34 : decode cX11_suits 34 = .ok (.ireturn, 1) := by decide +kernel
theorem dX11_apart_0 : decode cX11_apart 0 = .ok (.aload_n 0, 1) := by decide +kernel
theorem dX11_apart_1 : decode cX11_apart 1 = .ok (.getfield 19, 3) := by decide +kernel
theorem dX11_apart_4 : decode cX11_apart 4 = .ok (.iload_n 1, 1) := by decide +kernel
theorem dX11_apart_5 : decode cX11_apart 5 = .ok (.invokevirtual 137, 3) := by decide +kernel
theorem dX11_apart_8 : decode cX11_apart 8 = .ok (.ifCond .eq 15, 3) := by decide +kernel
theorem dX11_apart_11 : decode cX11_apart 11 = .ok (.aload_n 0, 1) := by decide +kernel
theorem dX11_apart_12 : decode cX11_apart 12 = .ok (.getfield 19, 3) := by decide +kernel
theorem dX11_apart_15 : decode cX11_apart 15 = .ok (.getfield 145, 3) := by decide +kernel
theorem dX11_apart_18 : decode cX11_apart 18 = .ok (.iload_n 1, 1) := by decide +kernel
theorem dX11_apart_19 : decode cX11_apart 19 = .ok (.iaload, 1) := by decide +kernel
theorem dX11_apart_20 : decode cX11_apart 20 = .ok (.goto 5, 3) := by decide +kernel
theorem dX11_apart_23 : decode cX11_apart 23 = .ok (.bipush (-2), 2) := by decide +kernel
theorem dX11_apart_25 : decode cX11_apart 25 = .ok (.ireturn, 1) := by decide +kernel
theorem dX11_at_0 : decode cX11_at 0 = .ok (.aload_n 0, 1) := by decide +kernel
theorem dX11_at_1 : decode cX11_at 1 = .ok (.getfield 19, 3) := by decide +kernel
theorem dX11_at_4 : decode cX11_at 4 = .ok (.iload_n 1, 1) := by decide +kernel
theorem dX11_at_5 : decode cX11_at 5 = .ok (.invokevirtual 137, 3) := by decide +kernel
theorem dX11_at_8 : decode cX11_at 8 = .ok (.ifCond .eq 15, 3) := by decide +kernel
theorem dX11_at_11 : decode cX11_at 11 = .ok (.aload_n 0, 1) := by decide +kernel
theorem dX11_at_12 : decode cX11_at 12 = .ok (.getfield 19, 3) := by decide +kernel
theorem dX11_at_15 : decode cX11_at 15 = .ok (.getfield 148, 3) := by decide +kernel
theorem dX11_at_18 : decode cX11_at 18 = .ok (.iload_n 1, 1) := by decide +kernel
theorem dX11_at_19 : decode cX11_at 19 = .ok (.iaload, 1) := by decide +kernel
theorem dX11_at_20 : decode cX11_at 20 = .ok (.goto 5, 3) := by decide +kernel
theorem dX11_at_23 : decode cX11_at 23 = .ok (.bipush (-2), 2) := by decide +kernel
theorem dX11_at_25 : decode cX11_at 25 = .ok (.ireturn, 1) := by decide +kernel
theorem dX11_where_0 : decode cX11_where 0 = .ok (.aload_n 0, 1) := by decide +kernel
theorem dX11_where_1 : decode cX11_where 1 = .ok (.getfield 19, 3) := by decide +kernel
theorem dX11_where_4 : decode cX11_where 4 = .ok (.iload_n 1, 1) := by decide +kernel
theorem dX11_where_5 : decode cX11_where 5 = .ok (.invokevirtual 137, 3) := by decide +kernel
theorem dX11_where_8 : decode cX11_where 8 = .ok (.ifCond .eq 14, 3) := by decide +kernel
theorem dX11_where_11 : decode cX11_where 11 = .ok (.aload_n 0, 1) := by decide +kernel
theorem dX11_where_12 : decode cX11_where 12 = .ok (.getfield 19, 3) := by decide +kernel
theorem dX11_where_15 : decode cX11_where 15 = .ok (.iload_n 1, 1) := by decide +kernel
theorem dX11_where_16 : decode cX11_where 16 = .ok (.invokevirtual 151, 3) := by decide +kernel
theorem dX11_where_19 : decode cX11_where 19 = .ok (.goto 5, 3) := by decide +kernel
theorem dX11_where_22 : decode cX11_where 22 = .ok (.bipush (-2), 2) := by decide +kernel
theorem dX11_where_24 : decode cX11_where 24 = .ok (.ireturn, 1) := by decide +kernel
theorem dX11_later_0 : decode cX11_later 0 = .ok (.aload_n 0, 1) := by decide +kernel
theorem dX11_later_1 : decode cX11_later 1 = .ok (.getfield 19, 3) := by decide +kernel
theorem dX11_later_4 : decode cX11_later 4 = .ok (.iload_n 1, 1) := by decide +kernel
theorem dX11_later_5 : decode cX11_later 5 = .ok (.invokevirtual 137, 3) := by decide +kernel
theorem dX11_later_8 : decode cX11_later 8 = .ok (.ifCond .eq 13, 3) := by decide +kernel
theorem dX11_later_11 : decode cX11_later 11 = .ok (.iload_n 2, 1) := by decide +kernel
theorem dX11_later_12 : decode cX11_later 12 = .ok (.iconst 0, 1) := by decide +kernel
theorem dX11_later_13 : decode cX11_later 13 = .ok (.ldc 155, 2) := by decide +kernel
theorem dX11_later_15 : decode cX11_later 15 = .ok (.invokestatic 156, 3) := by decide +kernel
theorem dX11_later_18 : decode cX11_later 18 = .ok (.ifCond .ne 6, 3) := by decide +kernel
theorem dX11_later_21 : decode cX11_later 21 = .ok (.bipush (-2), 2) := by decide +kernel
theorem dX11_later_23 : decode cX11_later 23 = .ok (.ireturn, 1) := by decide +kernel
theorem dX11_later_24 : decode cX11_later 24 = .ok (.aload_n 0, 1) := by decide +kernel
theorem dX11_later_25 : decode cX11_later 25 = .ok (.getfield 44, 3) := by decide +kernel
theorem dX11_later_28 : decode cX11_later 28 = .ok (.aload_n 0, 1) := by decide +kernel
theorem dX11_later_29 : decode cX11_later 29 = .ok (.getfield 19, 3) := by decide +kernel
theorem dX11_later_32 : decode cX11_later 32 = .ok (.invokevirtual 160, 3) := by decide +kernel
theorem dX11_later_35 : decode cX11_later 35 = .ok (.aload_n 0, 1) := by decide +kernel
theorem dX11_later_36 : decode cX11_later 36 = .ok (.getfield 44, 3) := by decide +kernel
theorem dX11_later_39 : decode cX11_later 39 = .ok (.iload_n 2, 1) := by decide +kernel
theorem dX11_later_40 : decode cX11_later 40 = .ok (.invokevirtual 163, 3) := by decide +kernel
theorem dX11_later_43 : decode cX11_later 43 = .ok (.aload_n 0, 1) := by decide +kernel
theorem dX11_later_44 : decode cX11_later 44 = .ok (.getfield 44, 3) := by decide +kernel
theorem dX11_later_47 : decode cX11_later 47 = .ok (.getfield 166, 3) := by decide +kernel
theorem dX11_later_50 : decode cX11_later 50 = .ok (.iload_n 1, 1) := by decide +kernel
theorem dX11_later_51 : decode cX11_later 51 = .ok (.iaload, 1) := by decide +kernel
theorem dX11_later_52 : decode cX11_later 52 = .ok (.ireturn, 1) := by decide +kernel
theorem dX11_right_0 : decode cX11_right 0 = .ok (.aload_n 0, 1) := by decide +kernel
theorem dX11_right_1 : decode cX11_right 1 = .ok (.getfield 19, 3) := by decide +kernel
theorem dX11_right_4 : decode cX11_right 4 = .ok (.invokevirtual 169, 3) := by decide +kernel
theorem dX11_right_7 : decode cX11_right 7 = .ok (.ifCond .ne 13, 3) := by decide +kernel
theorem dX11_right_10 : decode cX11_right 10 = .ok (.iload_n 1, 1) := by decide +kernel
theorem dX11_right_11 : decode cX11_right 11 = .ok (.iconst 0, 1) := by decide +kernel
theorem dX11_right_12 : decode cX11_right 12 = .ok (.ldc 155, 2) := by decide +kernel
theorem dX11_right_14 : decode cX11_right 14 = .ok (.invokestatic 156, 3) := by decide +kernel
theorem dX11_right_17 : decode cX11_right 17 = .ok (.ifCond .ne 6, 3) := by decide +kernel
theorem dX11_right_20 : decode cX11_right 20 = .ok (.bipush (-2), 2) := by decide +kernel
theorem dX11_right_22 : decode cX11_right 22 = .ok (.ireturn, 1) := by decide +kernel
theorem dX11_right_23 : decode cX11_right 23 = .ok (.aload_n 0, 1) := by decide +kernel
theorem dX11_right_24 : decode cX11_right 24 = .ok (.getfield 44, 3) := by decide +kernel
theorem dX11_right_27 : decode cX11_right 27 = .ok (.aload_n 0, 1) := by decide +kernel
theorem dX11_right_28 : decode cX11_right 28 = .ok (.getfield 19, 3) := by decide +kernel
theorem dX11_right_31 : decode cX11_right 31 = .ok (.invokevirtual 160, 3) := by decide +kernel
theorem dX11_right_34 : decode cX11_right 34 = .ok (.aload_n 0, 1) := by decide +kernel
theorem dX11_right_35 : decode cX11_right 35 = .ok (.getfield 44, 3) := by decide +kernel
theorem dX11_right_38 : decode cX11_right 38 = .ok (.iload_n 1, 1) := by decide +kernel
theorem dX11_right_39 : decode cX11_right 39 = .ok (.invokevirtual 163, 3) := by decide +kernel
theorem dX11_right_42 : decode cX11_right 42 = .ok (.aload_n 0, 1) := by decide +kernel
theorem dX11_right_43 : decode cX11_right 43 = .ok (.getfield 44, 3) := by decide +kernel
theorem dX11_right_46 : decode cX11_right 46 = .ok (.getfield 166, 3) := by decide +kernel
theorem dX11_right_49 : decode cX11_right 49 = .ok (.aload_n 0, 1) := by decide +kernel
theorem dX11_right_50 : decode cX11_right 50 = .ok (.getfield 19, 3) := by decide +kernel
theorem dX11_right_53 : decode cX11_right 53 = .ok (.getfield 172, 3) := by decide +kernel
theorem dX11_right_56 : decode cX11_right 56 = .ok (.invokestatic 175, 3) := by decide +kernel
theorem dX11_right_59 : decode cX11_right 59 = .ok (.ireturn, 1) := by decide +kernel
theorem dX11_rights_0 : decode cX11_rights 0 = .ok (.aload_n 0, 1) := by decide +kernel
theorem dX11_rights_1 : decode cX11_rights 1 = .ok (.getfield 19, 3) := by decide +kernel
theorem dX11_rights_4 : decode cX11_rights 4 = .ok (.invokevirtual 169, 3) := by decide +kernel
theorem dX11_rights_7 : decode cX11_rights 7 = .ok (.ifCond .eq 8, 3) := by decide +kernel
theorem dX11_rights_10 : decode cX11_rights 10 = .ok (.bipush (-2), 2) := by decide +kernel
theorem dX11_rights_12 : decode cX11_rights 12 = .ok (.goto 20, 3) := by decide +kernel
theorem dX11_rights_15 : decode cX11_rights 15 = .ok (.aload_n 0, 1) := by decide +kernel
theorem dX11_rights_16 : decode cX11_rights 16 = .ok (.getfield 19, 3) := by decide +kernel
theorem dX11_rights_19 : decode cX11_rights 19 = .ok (.getfield 148, 3) := by decide +kernel
theorem dX11_rights_22 : decode cX11_rights 22 = .ok (.aload_n 0, 1) := by decide +kernel
theorem dX11_rights_23 : decode cX11_rights 23 = .ok (.getfield 19, 3) := by decide +kernel
theorem dX11_rights_26 : decode cX11_rights 26 = .ok (.getfield 172, 3) := by decide +kernel
theorem dX11_rights_29 : decode cX11_rights 29 = .ok (.invokestatic 181, 3) := by decide +kernel
theorem dX11_rights_32 : decode cX11_rights 32 = .ok (.ireturn, 1) := by decide +kernel
theorem dX11_whole_0 : decode cX11_whole 0 = .ok (.aload_n 0, 1) := by decide +kernel
theorem dX11_whole_1 : decode cX11_whole 1 = .ok (.getfield 19, 3) := by decide +kernel
theorem dX11_whole_4 : decode cX11_whole 4 = .ok (.invokevirtual 169, 3) := by decide +kernel
theorem dX11_whole_7 : decode cX11_whole 7 = .ok (.ifCond .eq 6, 3) := by decide +kernel
theorem dX11_whole_10 : decode cX11_whole 10 = .ok (.bipush (-2), 2) := by decide +kernel
theorem dX11_whole_12 : decode cX11_whole 12 = .ok (.ireturn, 1) := by decide +kernel
theorem dX11_whole_13 : decode cX11_whole 13 = .ok (.aload_n 0, 1) := by decide +kernel
theorem dX11_whole_14 : decode cX11_whole 14 = .ok (.getfield 44, 3) := by decide +kernel
theorem dX11_whole_17 : decode cX11_whole 17 = .ok (.aload_n 0, 1) := by decide +kernel
theorem dX11_whole_18 : decode cX11_whole 18 = .ok (.getfield 19, 3) := by decide +kernel
theorem dX11_whole_21 : decode cX11_whole 21 = .ok (.invokevirtual 160, 3) := by decide +kernel
theorem dX11_whole_24 : decode cX11_whole 24 = .ok (.iconst 0, 1) := by decide +kernel
theorem dX11_whole_25 : decode cX11_whole 25 = .ok (.istore_n 1, 1) := by decide +kernel
theorem dX11_whole_26 : decode cX11_whole 26 = .ok (.iload_n 1, 1) := by decide +kernel
theorem dX11_whole_27 : decode cX11_whole 27 = .ok (.sipush 720, 3) := by decide +kernel
theorem dX11_whole_30 : decode cX11_whole 30 = .ok (.if_icmp .gt 41, 3) := by decide +kernel
theorem dX11_whole_33 : decode cX11_whole 33 = .ok (.aload_n 0, 1) := by decide +kernel
theorem dX11_whole_34 : decode cX11_whole 34 = .ok (.getfield 44, 3) := by decide +kernel
theorem dX11_whole_37 : decode cX11_whole 37 = .ok (.getfield 166, 3) := by decide +kernel
theorem dX11_whole_40 : decode cX11_whole 40 = .ok (.getstatic 184, 3) := by decide +kernel
theorem dX11_whole_43 : decode cX11_whole 43 = .ok (.aload_n 0, 1) := by decide +kernel
theorem dX11_whole_44 : decode cX11_whole 44 = .ok (.getfield 19, 3) := by decide +kernel
theorem dX11_whole_47 : decode cX11_whole 47 = .ok (.getfield 172, 3) := by decide +kernel
theorem dX11_whole_50 : decode cX11_whole 50 = .ok (.invokestatic 187, 3) := by decide +kernel
theorem dX11_whole_53 : decode cX11_whole 53 = .ok (.ifCond .eq 5, 3) := by decide +kernel
theorem dX11_whole_56 : decode cX11_whole 56 = .ok (.iload_n 1, 1) := by decide +kernel
theorem dX11_whole_57 : decode cX11_whole 57 = .ok (.ireturn, 1) := by decide +kernel
theorem dX11_whole_58 : decode cX11_whole 58 = .ok (.aload_n 0, 1) := by decide +kernel
theorem dX11_whole_59 : decode cX11_whole 59 = .ok (.getfield 44, 3) := by decide +kernel
theorem dX11_whole_62 : decode cX11_whole 62 = .ok (.invokevirtual 191, 3) := by decide +kernel
theorem dX11_whole_65 : decode cX11_whole 65 = .ok (.iinc 1 1, 3) := by decide +kernel
theorem dX11_whole_68 : decode cX11_whole 68 = .ok (.goto (-42), 3) := by decide +kernel
theorem dX11_whole_71 : decode cX11_whole 71 = .ok (.iconst (-1), 1) := by decide +kernel
theorem dX11_whole_72 : decode cX11_whole 72 = .ok (.ireturn, 1) := by decide +kernel
theorem dX11_round_0 : decode cX11_round 0 = .ok (.aload_n 0, 1) := by decide +kernel
theorem dX11_round_1 : decode cX11_round 1 = .ok (.getfield 19, 3) := by decide +kernel
theorem dX11_round_4 : decode cX11_round 4 = .ok (.invokevirtual 169, 3) := by decide +kernel
theorem dX11_round_7 : decode cX11_round 7 = .ok (.ifCond .eq 6, 3) := by decide +kernel
theorem dX11_round_10 : decode cX11_round 10 = .ok (.bipush (-2), 2) := by decide +kernel
theorem dX11_round_12 : decode cX11_round 12 = .ok (.ireturn, 1) := by decide +kernel
theorem dX11_round_13 : decode cX11_round 13 = .ok (.aload_n 0, 1) := by decide +kernel
theorem dX11_round_14 : decode cX11_round 14 = .ok (.getfield 44, 3) := by decide +kernel
theorem dX11_round_17 : decode cX11_round 17 = .ok (.aload_n 0, 1) := by decide +kernel
theorem dX11_round_18 : decode cX11_round 18 = .ok (.getfield 19, 3) := by decide +kernel
theorem dX11_round_21 : decode cX11_round 21 = .ok (.invokevirtual 160, 3) := by decide +kernel
theorem dX11_round_24 : decode cX11_round 24 = .ok (.iconst 1, 1) := by decide +kernel
theorem dX11_round_25 : decode cX11_round 25 = .ok (.istore_n 1, 1) := by decide +kernel
theorem dX11_round_26 : decode cX11_round 26 = .ok (.iload_n 1, 1) := by decide +kernel
theorem dX11_round_27 : decode cX11_round 27 = .ok (.sipush 720, 3) := by decide +kernel
theorem dX11_round_30 : decode cX11_round 30 = .ok (.if_icmp .gt 45, 3) := by decide +kernel
theorem dX11_round_33 : decode cX11_round 33 = .ok (.aload_n 0, 1) := by decide +kernel
theorem dX11_round_34 : decode cX11_round 34 = .ok (.getfield 44, 3) := by decide +kernel
theorem dX11_round_37 : decode cX11_round 37 = .ok (.invokevirtual 191, 3) := by decide +kernel
theorem dX11_round_40 : decode cX11_round 40 = .ok (.aload_n 0, 1) := by decide +kernel
theorem dX11_round_41 : decode cX11_round 41 = .ok (.getfield 44, 3) := by decide +kernel
theorem dX11_round_44 : decode cX11_round 44 = .ok (.getfield 166, 3) := by decide +kernel
theorem dX11_round_47 : decode cX11_round 47 = .ok (.aload_n 0, 1) := by decide +kernel
theorem dX11_round_48 : decode cX11_round 48 = .ok (.getfield 19, 3) := by decide +kernel
theorem dX11_round_51 : decode cX11_round 51 = .ok (.getfield 148, 3) := by decide +kernel
theorem dX11_round_54 : decode cX11_round 54 = .ok (.aload_n 0, 1) := by decide +kernel
theorem dX11_round_55 : decode cX11_round 55 = .ok (.getfield 19, 3) := by decide +kernel
theorem dX11_round_58 : decode cX11_round 58 = .ok (.getfield 172, 3) := by decide +kernel
theorem dX11_round_61 : decode cX11_round 61 = .ok (.invokestatic 187, 3) := by decide +kernel
theorem dX11_round_64 : decode cX11_round 64 = .ok (.ifCond .eq 5, 3) := by decide +kernel
theorem dX11_round_67 : decode cX11_round 67 = .ok (.iload_n 1, 1) := by decide +kernel
theorem dX11_round_68 : decode cX11_round 68 = .ok (.ireturn, 1) := by decide +kernel
theorem dX11_round_69 : decode cX11_round 69 = .ok (.iinc 1 1, 3) := by decide +kernel
theorem dX11_round_72 : decode cX11_round 72 = .ok (.goto (-46), 3) := by decide +kernel
theorem dX11_round_75 : decode cX11_round 75 = .ok (.iconst (-1), 1) := by decide +kernel
theorem dX11_round_76 : decode cX11_round 76 = .ok (.ireturn, 1) := by decide +kernel
theorem dX11_comes_0 : decode cX11_comes 0 = .ok (.aload_n 0, 1) := by decide +kernel
theorem dX11_comes_1 : decode cX11_comes 1 = .ok (.getfield 19, 3) := by decide +kernel
theorem dX11_comes_4 : decode cX11_comes 4 = .ok (.iload_n 1, 1) := by decide +kernel
theorem dX11_comes_5 : decode cX11_comes 5 = .ok (.invokevirtual 137, 3) := by decide +kernel
theorem dX11_comes_8 : decode cX11_comes 8 = .ok (.ifCond .eq 14, 3) := by decide +kernel
theorem dX11_comes_11 : decode cX11_comes 11 = .ok (.aload_n 0, 1) := by decide +kernel
theorem dX11_comes_12 : decode cX11_comes 12 = .ok (.getfield 19, 3) := by decide +kernel
theorem dX11_comes_15 : decode cX11_comes 15 = .ok (.iload_n 2, 1) := by decide +kernel
theorem dX11_comes_16 : decode cX11_comes 16 = .ok (.invokevirtual 137, 3) := by decide +kernel
theorem dX11_comes_19 : decode cX11_comes 19 = .ok (.ifCond .ne 6, 3) := by decide +kernel
theorem dX11_comes_22 : decode cX11_comes 22 = .ok (.bipush (-2), 2) := by decide +kernel
theorem dX11_comes_24 : decode cX11_comes 24 = .ok (.ireturn, 1) := by decide +kernel
theorem dX11_comes_25 : decode cX11_comes 25 = .ok (.aload_n 0, 1) := by decide +kernel
theorem dX11_comes_26 : decode cX11_comes 26 = .ok (.getfield 44, 3) := by decide +kernel
theorem dX11_comes_29 : decode cX11_comes 29 = .ok (.aload_n 0, 1) := by decide +kernel
theorem dX11_comes_30 : decode cX11_comes 30 = .ok (.getfield 19, 3) := by decide +kernel
theorem dX11_comes_33 : decode cX11_comes 33 = .ok (.invokevirtual 160, 3) := by decide +kernel
theorem dX11_comes_36 : decode cX11_comes 36 = .ok (.iconst 0, 1) := by decide +kernel
theorem dX11_comes_37 : decode cX11_comes 37 = .ok (.istore_n 3, 1) := by decide +kernel
theorem dX11_comes_38 : decode cX11_comes 38 = .ok (.iload_n 3, 1) := by decide +kernel
theorem dX11_comes_39 : decode cX11_comes 39 = .ok (.sipush 720, 3) := by decide +kernel
theorem dX11_comes_42 : decode cX11_comes 42 = .ok (.if_icmp .gt 31, 3) := by decide +kernel
theorem dX11_comes_45 : decode cX11_comes 45 = .ok (.aload_n 0, 1) := by decide +kernel
theorem dX11_comes_46 : decode cX11_comes 46 = .ok (.getfield 44, 3) := by decide +kernel
theorem dX11_comes_49 : decode cX11_comes 49 = .ok (.getfield 166, 3) := by decide +kernel
theorem dX11_comes_52 : decode cX11_comes 52 = .ok (.iload_n 2, 1) := by decide +kernel
theorem dX11_comes_53 : decode cX11_comes 53 = .ok (.iaload, 1) := by decide +kernel
theorem dX11_comes_54 : decode cX11_comes 54 = .ok (.iload_n 1, 1) := by decide +kernel
theorem dX11_comes_55 : decode cX11_comes 55 = .ok (.if_icmp .ne 5, 3) := by decide +kernel
theorem dX11_comes_58 : decode cX11_comes 58 = .ok (.iload_n 3, 1) := by decide +kernel
theorem dX11_comes_59 : decode cX11_comes 59 = .ok (.ireturn, 1) := by decide +kernel
theorem dX11_comes_60 : decode cX11_comes 60 = .ok (.aload_n 0, 1) := by decide +kernel
theorem dX11_comes_61 : decode cX11_comes 61 = .ok (.getfield 44, 3) := by decide +kernel
theorem dX11_comes_64 : decode cX11_comes 64 = .ok (.invokevirtual 191, 3) := by decide +kernel
theorem dX11_comes_67 : decode cX11_comes 67 = .ok (.iinc 3 1, 3) := by decide +kernel
theorem dX11_comes_70 : decode cX11_comes 70 = .ok (.goto (-32), 3) := by decide +kernel
theorem dX11_comes_73 : decode cX11_comes 73 = .ok (.iconst (-1), 1) := by decide +kernel
theorem dX11_comes_74 : decode cX11_comes 74 = .ok (.ireturn, 1) := by decide +kernel
theorem dX11_meet_0 : decode cX11_meet 0 = .ok (.aload_n 0, 1) := by decide +kernel
theorem dX11_meet_1 : decode cX11_meet 1 = .ok (.getfield 19, 3) := by decide +kernel
theorem dX11_meet_4 : decode cX11_meet 4 = .ok (.iload_n 1, 1) := by decide +kernel
theorem dX11_meet_5 : decode cX11_meet 5 = .ok (.invokevirtual 137, 3) := by decide +kernel
theorem dX11_meet_8 : decode cX11_meet 8 = .ok (.ifCond .eq 19, 3) := by decide +kernel
theorem dX11_meet_11 : decode cX11_meet 11 = .ok (.aload_n 0, 1) := by decide +kernel
theorem dX11_meet_12 : decode cX11_meet 12 = .ok (.getfield 19, 3) := by decide +kernel
theorem dX11_meet_15 : decode cX11_meet 15 = .ok (.iload_n 2, 1) := by decide +kernel
theorem dX11_meet_16 : decode cX11_meet 16 = .ok (.invokevirtual 137, 3) := by decide +kernel
theorem dX11_meet_19 : decode cX11_meet 19 = .ok (.ifCond .eq 8, 3) := by decide +kernel
theorem dX11_meet_22 : decode cX11_meet 22 = .ok (.iload_n 1, 1) := by decide +kernel
theorem dX11_meet_23 : decode cX11_meet 23 = .ok (.iload_n 2, 1) := by decide +kernel
theorem dX11_meet_24 : decode cX11_meet 24 = .ok (.if_icmp .ne 6, 3) := by decide +kernel
theorem dX11_meet_27 : decode cX11_meet 27 = .ok (.bipush (-2), 2) := by decide +kernel
theorem dX11_meet_29 : decode cX11_meet 29 = .ok (.ireturn, 1) := by decide +kernel
theorem dX11_meet_30 : decode cX11_meet 30 = .ok (.aload_n 0, 1) := by decide +kernel
theorem dX11_meet_31 : decode cX11_meet 31 = .ok (.getfield 44, 3) := by decide +kernel
theorem dX11_meet_34 : decode cX11_meet 34 = .ok (.aload_n 0, 1) := by decide +kernel
theorem dX11_meet_35 : decode cX11_meet 35 = .ok (.getfield 19, 3) := by decide +kernel
theorem dX11_meet_38 : decode cX11_meet 38 = .ok (.invokevirtual 160, 3) := by decide +kernel
theorem dX11_meet_41 : decode cX11_meet 41 = .ok (.iconst 0, 1) := by decide +kernel
theorem dX11_meet_42 : decode cX11_meet 42 = .ok (.istore_n 3, 1) := by decide +kernel
theorem dX11_meet_43 : decode cX11_meet 43 = .ok (.iload_n 3, 1) := by decide +kernel
theorem dX11_meet_44 : decode cX11_meet 44 = .ok (.sipush 720, 3) := by decide +kernel
theorem dX11_meet_47 : decode cX11_meet 47 = .ok (.if_icmp .gt 40, 3) := by decide +kernel
theorem dX11_meet_50 : decode cX11_meet 50 = .ok (.aload_n 0, 1) := by decide +kernel
theorem dX11_meet_51 : decode cX11_meet 51 = .ok (.getfield 44, 3) := by decide +kernel
theorem dX11_meet_54 : decode cX11_meet 54 = .ok (.getfield 166, 3) := by decide +kernel
theorem dX11_meet_57 : decode cX11_meet 57 = .ok (.aload_n 0, 1) := by decide +kernel
theorem dX11_meet_58 : decode cX11_meet 58 = .ok (.getfield 19, 3) := by decide +kernel
theorem dX11_meet_61 : decode cX11_meet 61 = .ok (.getfield 172, 3) := by decide +kernel
theorem dX11_meet_64 : decode cX11_meet 64 = .ok (.iload_n 1, 1) := by decide +kernel
theorem dX11_meet_65 : decode cX11_meet 65 = .ok (.iload_n 2, 1) := by decide +kernel
theorem dX11_meet_66 : decode cX11_meet 66 = .ok (.invokestatic 194, 3) := by decide +kernel
theorem dX11_meet_69 : decode cX11_meet 69 = .ok (.ifCond .eq 5, 3) := by decide +kernel
theorem dX11_meet_72 : decode cX11_meet 72 = .ok (.iload_n 3, 1) := by decide +kernel
theorem dX11_meet_73 : decode cX11_meet 73 = .ok (.ireturn, 1) := by decide +kernel
theorem dX11_meet_74 : decode cX11_meet 74 = .ok (.aload_n 0, 1) := by decide +kernel
theorem dX11_meet_75 : decode cX11_meet 75 = .ok (.getfield 44, 3) := by decide +kernel
theorem dX11_meet_78 : decode cX11_meet 78 = .ok (.invokevirtual 191, 3) := by decide +kernel
theorem dX11_meet_81 : decode cX11_meet 81 = .ok (.iinc 3 1, 3) := by decide +kernel
theorem dX11_meet_84 : decode cX11_meet 84 = .ok (.goto (-41), 3) := by decide +kernel
theorem dX11_meet_87 : decode cX11_meet 87 = .ok (.iconst (-1), 1) := by decide +kernel
theorem dX11_meet_88 : decode cX11_meet 88 = .ok (.ireturn, 1) := by decide +kernel
theorem dX11_tonight_0 : decode cX11_tonight 0 = .ok (.aload_n 0, 1) := by decide +kernel
theorem dX11_tonight_1 : decode cX11_tonight 1 = .ok (.getfield 19, 3) := by decide +kernel
theorem dX11_tonight_4 : decode cX11_tonight 4 = .ok (.invokevirtual 169, 3) := by decide +kernel
theorem dX11_tonight_7 : decode cX11_tonight 7 = .ok (.ifCond .ne 13, 3) := by decide +kernel
theorem dX11_tonight_10 : decode cX11_tonight 10 = .ok (.iload_n 1, 1) := by decide +kernel
theorem dX11_tonight_11 : decode cX11_tonight 11 = .ok (.iconst 0, 1) := by decide +kernel
theorem dX11_tonight_12 : decode cX11_tonight 12 = .ok (.ldc 155, 2) := by decide +kernel
theorem dX11_tonight_14 : decode cX11_tonight 14 = .ok (.invokestatic 156, 3) := by decide +kernel
theorem dX11_tonight_17 : decode cX11_tonight 17 = .ok (.ifCond .ne 6, 3) := by decide +kernel
theorem dX11_tonight_20 : decode cX11_tonight 20 = .ok (.bipush (-2), 2) := by decide +kernel
theorem dX11_tonight_22 : decode cX11_tonight 22 = .ok (.ireturn, 1) := by decide +kernel
theorem dX11_tonight_23 : decode cX11_tonight 23 = .ok (.aload_n 0, 1) := by decide +kernel
theorem dX11_tonight_24 : decode cX11_tonight 24 = .ok (.getfield 19, 3) := by decide +kernel
theorem dX11_tonight_27 : decode cX11_tonight 27 = .ok (.aload_n 0, 1) := by decide +kernel
theorem dX11_tonight_28 : decode cX11_tonight 28 = .ok (.getfield 19, 3) := by decide +kernel
theorem dX11_tonight_31 : decode cX11_tonight 31 = .ok (.getfield 198, 3) := by decide +kernel
theorem dX11_tonight_34 : decode cX11_tonight 34 = .ok (.iload_n 1, 1) := by decide +kernel
theorem dX11_tonight_35 : decode cX11_tonight 35 = .ok (.iadd, 1) := by decide +kernel
theorem dX11_tonight_36 : decode cX11_tonight 36 = .ok (.invokevirtual 201, 3) := by decide +kernel
theorem dX11_tonight_39 : decode cX11_tonight 39 = .ok (.ireturn, 1) := by decide +kernel
theorem dX11_odd_0 : decode cX11_odd 0 = .ok (.aload_n 0, 1) := by decide +kernel
theorem dX11_odd_1 : decode cX11_odd 1 = .ok (.getfield 19, 3) := by decide +kernel
theorem dX11_odd_4 : decode cX11_odd 4 = .ok (.invokevirtual 169, 3) := by decide +kernel
theorem dX11_odd_7 : decode cX11_odd 7 = .ok (.ifCond .eq 8, 3) := by decide +kernel
theorem dX11_odd_10 : decode cX11_odd 10 = .ok (.bipush (-2), 2) := by decide +kernel
theorem dX11_odd_12 : decode cX11_odd 12 = .ok (.goto 12, 3) := by decide +kernel
theorem dX11_odd_15 : decode cX11_odd 15 = .ok (.aload_n 0, 1) := by decide +kernel
theorem dX11_odd_16 : decode cX11_odd 16 = .ok (.getstatic 184, 3) := by decide +kernel
theorem dX11_odd_19 : decode cX11_odd 19 = .ok (.invokevirtual 204, 3) := by decide +kernel
theorem dX11_odd_22 : decode cX11_odd 22 = .ok (.iconst 1, 1) := by decide +kernel
theorem dX11_odd_23 : decode cX11_odd 23 = .ok (.iand, 1) := by decide +kernel
theorem dX11_odd_24 : decode cX11_odd 24 = .ok (.ireturn, 1) := by decide +kernel
theorem dX11_swaps_0 : decode cX11_swaps 0 = .ok (.aload_n 0, 1) := by decide +kernel
theorem dX11_swaps_1 : decode cX11_swaps 1 = .ok (.getfield 19, 3) := by decide +kernel
theorem dX11_swaps_4 : decode cX11_swaps 4 = .ok (.invokevirtual 169, 3) := by decide +kernel
theorem dX11_swaps_7 : decode cX11_swaps 7 = .ok (.ifCond .eq 8, 3) := by decide +kernel
theorem dX11_swaps_10 : decode cX11_swaps 10 = .ok (.bipush (-2), 2) := by decide +kernel
theorem dX11_swaps_12 : decode cX11_swaps 12 = .ok (.goto 10, 3) := by decide +kernel
theorem dX11_swaps_15 : decode cX11_swaps 15 = .ok (.aload_n 0, 1) := by decide +kernel
theorem dX11_swaps_16 : decode cX11_swaps 16 = .ok (.getstatic 184, 3) := by decide +kernel
theorem dX11_swaps_19 : decode cX11_swaps 19 = .ok (.invokevirtual 204, 3) := by decide +kernel
theorem dX11_swaps_22 : decode cX11_swaps 22 = .ok (.ireturn, 1) := by decide +kernel
theorem dX11_steps_0 : decode cX11_steps 0 = .ok (.aload_n 0, 1) := by decide +kernel
theorem dX11_steps_1 : decode cX11_steps 1 = .ok (.getfield 19, 3) := by decide +kernel
theorem dX11_steps_4 : decode cX11_steps 4 = .ok (.invokevirtual 169, 3) := by decide +kernel
theorem dX11_steps_7 : decode cX11_steps 7 = .ok (.ifCond .eq 8, 3) := by decide +kernel
theorem dX11_steps_10 : decode cX11_steps 10 = .ok (.bipush (-2), 2) := by decide +kernel
theorem dX11_steps_12 : decode cX11_steps 12 = .ok (.goto 20, 3) := by decide +kernel
theorem dX11_steps_15 : decode cX11_steps 15 = .ok (.aload_n 0, 1) := by decide +kernel
theorem dX11_steps_16 : decode cX11_steps 16 = .ok (.getfield 19, 3) := by decide +kernel
theorem dX11_steps_19 : decode cX11_steps 19 = .ok (.getfield 148, 3) := by decide +kernel
theorem dX11_steps_22 : decode cX11_steps 22 = .ok (.aload_n 0, 1) := by decide +kernel
theorem dX11_steps_23 : decode cX11_steps 23 = .ok (.getfield 19, 3) := by decide +kernel
theorem dX11_steps_26 : decode cX11_steps 26 = .ok (.getfield 172, 3) := by decide +kernel
theorem dX11_steps_29 : decode cX11_steps 29 = .ok (.invokestatic 208, 3) := by decide +kernel
theorem dX11_steps_32 : decode cX11_steps 32 = .ok (.ireturn, 1) := by decide +kernel
theorem dX11_rings_0 : decode cX11_rings 0 = .ok (.aload_n 0, 1) := by decide +kernel
theorem dX11_rings_1 : decode cX11_rings 1 = .ok (.getfield 19, 3) := by decide +kernel
theorem dX11_rings_4 : decode cX11_rings 4 = .ok (.invokevirtual 169, 3) := by decide +kernel
theorem dX11_rings_7 : decode cX11_rings 7 = .ok (.ifCond .eq 6, 3) := by decide +kernel
theorem dX11_rings_10 : decode cX11_rings 10 = .ok (.bipush (-2), 2) := by decide +kernel
theorem dX11_rings_12 : decode cX11_rings 12 = .ok (.ireturn, 1) := by decide +kernel
theorem dX11_rings_13 : decode cX11_rings 13 = .ok (.iconst 0, 1) := by decide +kernel
theorem dX11_rings_14 : decode cX11_rings 14 = .ok (.istore_n 1, 1) := by decide +kernel
theorem dX11_rings_15 : decode cX11_rings 15 = .ok (.iconst 0, 1) := by decide +kernel
theorem dX11_rings_16 : decode cX11_rings 16 = .ok (.istore_n 2, 1) := by decide +kernel
theorem dX11_rings_17 : decode cX11_rings 17 = .ok (.iload_n 2, 1) := by decide +kernel
theorem dX11_rings_18 : decode cX11_rings 18 = .ok (.aload_n 0, 1) := by decide +kernel
theorem dX11_rings_19 : decode cX11_rings 19 = .ok (.getfield 19, 3) := by decide +kernel
theorem dX11_rings_22 : decode cX11_rings 22 = .ok (.getfield 172, 3) := by decide +kernel
theorem dX11_rings_25 : decode cX11_rings 25 = .ok (.if_icmp .ge 61, 3) := by decide +kernel
theorem dX11_rings_28 : decode cX11_rings 28 = .ok (.aload_n 0, 1) := by decide +kernel
theorem dX11_rings_29 : decode cX11_rings 29 = .ok (.getfield 19, 3) := by decide +kernel
theorem dX11_rings_32 : decode cX11_rings 32 = .ok (.getfield 148, 3) := by decide +kernel
theorem dX11_rings_35 : decode cX11_rings 35 = .ok (.aload_n 0, 1) := by decide +kernel
theorem dX11_rings_36 : decode cX11_rings 36 = .ok (.getfield 19, 3) := by decide +kernel
theorem dX11_rings_39 : decode cX11_rings 39 = .ok (.getfield 172, 3) := by decide +kernel
theorem dX11_rings_42 : decode cX11_rings 42 = .ok (.iload_n 2, 1) := by decide +kernel
theorem dX11_rings_43 : decode cX11_rings 43 = .ok (.invokestatic 211, 3) := by decide +kernel
theorem dX11_rings_46 : decode cX11_rings 46 = .ok (.istore_n 3, 1) := by decide +kernel
theorem dX11_rings_47 : decode cX11_rings 47 = .ok (.iload_n 3, 1) := by decide +kernel
theorem dX11_rings_48 : decode cX11_rings 48 = .ok (.iconst 1, 1) := by decide +kernel
theorem dX11_rings_49 : decode cX11_rings 49 = .ok (.iload_n 2, 1) := by decide +kernel
theorem dX11_rings_50 : decode cX11_rings 50 = .ok (.ishl, 1) := by decide +kernel
theorem dX11_rings_51 : decode cX11_rings 51 = .ok (.iconst 1, 1) := by decide +kernel
theorem dX11_rings_52 : decode cX11_rings 52 = .ok (.isub, 1) := by decide +kernel
theorem dX11_rings_53 : decode cX11_rings 53 = .ok (.iand, 1) := by decide +kernel
theorem dX11_rings_54 : decode cX11_rings 54 = .ok (.ifCond .ne 7, 3) := by decide +kernel
theorem dX11_rings_57 : decode cX11_rings 57 = .ok (.iconst 1, 1) := by decide +kernel
theorem dX11_rings_58 : decode cX11_rings 58 = .ok (.goto 4, 3) := by decide +kernel
theorem dX11_rings_61 : decode cX11_rings 61 = .ok (.iconst 0, 1) := by decide +kernel
theorem dX11_rings_62 : decode cX11_rings 62 = .ok (.istore 4, 2) := by decide +kernel
theorem dX11_rings_64 : decode cX11_rings 64 = .ok (.iload 4, 2) := by decide +kernel
theorem dX11_rings_66 : decode cX11_rings 66 = .ok (.ifCond .eq 14, 3) := by decide +kernel
theorem dX11_rings_69 : decode cX11_rings 69 = .ok (.iload_n 3, 1) := by decide +kernel
theorem dX11_rings_70 : decode cX11_rings 70 = .ok (.invokestatic 215, 3) := by decide +kernel
theorem dX11_rings_73 : decode cX11_rings 73 = .ok (.iconst 1, 1) := by decide +kernel
theorem dX11_rings_74 : decode cX11_rings 74 = .ok (.if_icmp .le 6, 3) := by decide +kernel
theorem dX11_rings_77 : decode cX11_rings 77 = .ok (.iinc 1 1, 3) := by decide +kernel
theorem dX11_rings_80 : decode cX11_rings 80 = .ok (.iinc 2 1, 3) := by decide +kernel
theorem dX11_rings_83 : decode cX11_rings 83 = .ok (.goto (-66), 3) := by decide +kernel
theorem dX11_rings_86 : decode cX11_rings 86 = .ok (.iload_n 1, 1) := by decide +kernel
theorem dX11_rings_87 : decode cX11_rings 87 = .ok (.ireturn, 1) := by decide +kernel
theorem dX11_stay_0 : decode cX11_stay 0 = .ok (.aload_n 0, 1) := by decide +kernel
theorem dX11_stay_1 : decode cX11_stay 1 = .ok (.getfield 19, 3) := by decide +kernel
theorem dX11_stay_4 : decode cX11_stay 4 = .ok (.invokevirtual 169, 3) := by decide +kernel
theorem dX11_stay_7 : decode cX11_stay 7 = .ok (.ifCond .eq 8, 3) := by decide +kernel
theorem dX11_stay_10 : decode cX11_stay 10 = .ok (.bipush (-2), 2) := by decide +kernel
theorem dX11_stay_12 : decode cX11_stay 12 = .ok (.goto 24, 3) := by decide +kernel
theorem dX11_stay_15 : decode cX11_stay 15 = .ok (.aload_n 0, 1) := by decide +kernel
theorem dX11_stay_16 : decode cX11_stay 16 = .ok (.getfield 19, 3) := by decide +kernel
theorem dX11_stay_19 : decode cX11_stay 19 = .ok (.getfield 148, 3) := by decide +kernel
theorem dX11_stay_22 : decode cX11_stay 22 = .ok (.aload_n 0, 1) := by decide +kernel
theorem dX11_stay_23 : decode cX11_stay 23 = .ok (.getfield 19, 3) := by decide +kernel
theorem dX11_stay_26 : decode cX11_stay 26 = .ok (.getfield 172, 3) := by decide +kernel
theorem dX11_stay_29 : decode cX11_stay 29 = .ok (.aload_n 0, 1) := by decide +kernel
theorem dX11_stay_30 : decode cX11_stay 30 = .ok (.getfield 87, 3) := by decide +kernel
theorem dX11_stay_33 : decode cX11_stay 33 = .ok (.invokestatic 220, 3) := by decide +kernel
theorem dX11_stay_36 : decode cX11_stay 36 = .ok (.ireturn, 1) := by decide +kernel
theorem dX11_ring_0 : decode cX11_ring 0 = .ok (.aload_n 0, 1) := by decide +kernel
theorem dX11_ring_1 : decode cX11_ring 1 = .ok (.getfield 19, 3) := by decide +kernel
theorem dX11_ring_4 : decode cX11_ring 4 = .ok (.iload_n 1, 1) := by decide +kernel
theorem dX11_ring_5 : decode cX11_ring 5 = .ok (.invokevirtual 137, 3) := by decide +kernel
theorem dX11_ring_8 : decode cX11_ring 8 = .ok (.ifCond .eq 24, 3) := by decide +kernel
theorem dX11_ring_11 : decode cX11_ring 11 = .ok (.aload_n 0, 1) := by decide +kernel
theorem dX11_ring_12 : decode cX11_ring 12 = .ok (.getfield 19, 3) := by decide +kernel
theorem dX11_ring_15 : decode cX11_ring 15 = .ok (.getfield 148, 3) := by decide +kernel
theorem dX11_ring_18 : decode cX11_ring 18 = .ok (.aload_n 0, 1) := by decide +kernel
theorem dX11_ring_19 : decode cX11_ring 19 = .ok (.getfield 19, 3) := by decide +kernel
theorem dX11_ring_22 : decode cX11_ring 22 = .ok (.getfield 172, 3) := by decide +kernel
theorem dX11_ring_25 : decode cX11_ring 25 = .ok (.iload_n 1, 1) := by decide +kernel
theorem dX11_ring_26 : decode cX11_ring 26 = .ok (.invokestatic 211, 3) := by decide +kernel
theorem dX11_ring_29 : decode cX11_ring 29 = .ok (.goto 5, 3) := by decide +kernel
theorem dX11_ring_32 : decode cX11_ring 32 = .ok (.bipush (-2), 2) := by decide +kernel
theorem dX11_ring_34 : decode cX11_ring 34 = .ok (.ireturn, 1) := by decide +kernel
theorem dX11_away_0 : decode cX11_away 0 = .ok (.aload_n 0, 1) := by decide +kernel
theorem dX11_away_1 : decode cX11_away 1 = .ok (.getfield 19, 3) := by decide +kernel
theorem dX11_away_4 : decode cX11_away 4 = .ok (.iload_n 1, 1) := by decide +kernel
theorem dX11_away_5 : decode cX11_away 5 = .ok (.invokevirtual 137, 3) := by decide +kernel
theorem dX11_away_8 : decode cX11_away 8 = .ok (.ifCond .eq 19, 3) := by decide +kernel
theorem dX11_away_11 : decode cX11_away 11 = .ok (.aload_n 0, 1) := by decide +kernel
theorem dX11_away_12 : decode cX11_away 12 = .ok (.getfield 19, 3) := by decide +kernel
theorem dX11_away_15 : decode cX11_away 15 = .ok (.iload_n 1, 1) := by decide +kernel
theorem dX11_away_16 : decode cX11_away 16 = .ok (.invokevirtual 151, 3) := by decide +kernel
theorem dX11_away_19 : decode cX11_away 19 = .ok (.iload_n 1, 1) := by decide +kernel
theorem dX11_away_20 : decode cX11_away 20 = .ok (.isub, 1) := by decide +kernel
theorem dX11_away_21 : decode cX11_away 21 = .ok (.invokestatic 224, 3) := by decide +kernel
theorem dX11_away_24 : decode cX11_away 24 = .ok (.goto 5, 3) := by decide +kernel
theorem dX11_away_27 : decode cX11_away 27 = .ok (.bipush (-2), 2) := by decide +kernel
theorem dX11_away_29 : decode cX11_away 29 = .ok (.ireturn, 1) := by decide +kernel
theorem dX11_lost_0 : decode cX11_lost 0 = .ok (.aload_n 0, 1) := by decide +kernel
theorem dX11_lost_1 : decode cX11_lost 1 = .ok (.getfield 19, 3) := by decide +kernel
theorem dX11_lost_4 : decode cX11_lost 4 = .ok (.invokevirtual 169, 3) := by decide +kernel
theorem dX11_lost_7 : decode cX11_lost 7 = .ok (.ifCond .eq 6, 3) := by decide +kernel
theorem dX11_lost_10 : decode cX11_lost 10 = .ok (.bipush (-2), 2) := by decide +kernel
theorem dX11_lost_12 : decode cX11_lost 12 = .ok (.ireturn, 1) := by decide +kernel
theorem dX11_lost_13 : decode cX11_lost 13 = .ok (.iconst (-1), 1) := by decide +kernel
theorem dX11_lost_14 : decode cX11_lost 14 = .ok (.istore_n 1, 1) := by decide +kernel
theorem dX11_lost_15 : decode cX11_lost 15 = .ok (.iconst 0, 1) := by decide +kernel
theorem dX11_lost_16 : decode cX11_lost 16 = .ok (.istore_n 2, 1) := by decide +kernel
theorem dX11_lost_17 : decode cX11_lost 17 = .ok (.iconst 0, 1) := by decide +kernel
theorem dX11_lost_18 : decode cX11_lost 18 = .ok (.istore_n 3, 1) := by decide +kernel
theorem dX11_lost_19 : decode cX11_lost 19 = .ok (.iload_n 3, 1) := by decide +kernel
theorem dX11_lost_20 : decode cX11_lost 20 = .ok (.aload_n 0, 1) := by decide +kernel
theorem dX11_lost_21 : decode cX11_lost 21 = .ok (.getfield 19, 3) := by decide +kernel
theorem dX11_lost_24 : decode cX11_lost 24 = .ok (.getfield 172, 3) := by decide +kernel
theorem dX11_lost_27 : decode cX11_lost 27 = .ok (.if_icmp .ge 35, 3) := by decide +kernel
theorem dX11_lost_30 : decode cX11_lost 30 = .ok (.aload_n 0, 1) := by decide +kernel
theorem dX11_lost_31 : decode cX11_lost 31 = .ok (.getfield 19, 3) := by decide +kernel
theorem dX11_lost_34 : decode cX11_lost 34 = .ok (.iload_n 3, 1) := by decide +kernel
theorem dX11_lost_35 : decode cX11_lost 35 = .ok (.invokevirtual 151, 3) := by decide +kernel
theorem dX11_lost_38 : decode cX11_lost 38 = .ok (.iload_n 3, 1) := by decide +kernel
theorem dX11_lost_39 : decode cX11_lost 39 = .ok (.isub, 1) := by decide +kernel
theorem dX11_lost_40 : decode cX11_lost 40 = .ok (.invokestatic 224, 3) := by decide +kernel
theorem dX11_lost_43 : decode cX11_lost 43 = .ok (.istore 4, 2) := by decide +kernel
theorem dX11_lost_45 : decode cX11_lost 45 = .ok (.iload 4, 2) := by decide +kernel
theorem dX11_lost_47 : decode cX11_lost 47 = .ok (.iload_n 2, 1) := by decide +kernel
theorem dX11_lost_48 : decode cX11_lost 48 = .ok (.if_icmp .le 8, 3) := by decide +kernel
theorem dX11_lost_51 : decode cX11_lost 51 = .ok (.iload 4, 2) := by decide +kernel
theorem dX11_lost_53 : decode cX11_lost 53 = .ok (.istore_n 2, 1) := by decide +kernel
theorem dX11_lost_54 : decode cX11_lost 54 = .ok (.iload_n 3, 1) := by decide +kernel
theorem dX11_lost_55 : decode cX11_lost 55 = .ok (.istore_n 1, 1) := by decide +kernel
theorem dX11_lost_56 : decode cX11_lost 56 = .ok (.iinc 3 1, 3) := by decide +kernel
theorem dX11_lost_59 : decode cX11_lost 59 = .ok (.goto (-40), 3) := by decide +kernel
theorem dX11_lost_62 : decode cX11_lost 62 = .ok (.iload_n 1, 1) := by decide +kernel
theorem dX11_lost_63 : decode cX11_lost 63 = .ok (.ireturn, 1) := by decide +kernel
theorem dX11_beside_0 : decode cX11_beside 0 = .ok (.aload_n 0, 1) := by decide +kernel
theorem dX11_beside_1 : decode cX11_beside 1 = .ok (.getfield 19, 3) := by decide +kernel
theorem dX11_beside_4 : decode cX11_beside 4 = .ok (.iload_n 1, 1) := by decide +kernel
theorem dX11_beside_5 : decode cX11_beside 5 = .ok (.invokevirtual 137, 3) := by decide +kernel
theorem dX11_beside_8 : decode cX11_beside 8 = .ok (.ifCond .ne 6, 3) := by decide +kernel
theorem dX11_beside_11 : decode cX11_beside 11 = .ok (.bipush (-2), 2) := by decide +kernel
theorem dX11_beside_13 : decode cX11_beside 13 = .ok (.ireturn, 1) := by decide +kernel
theorem dX11_beside_14 : decode cX11_beside 14 = .ok (.aload_n 0, 1) := by decide +kernel
theorem dX11_beside_15 : decode cX11_beside 15 = .ok (.getfield 19, 3) := by decide +kernel
theorem dX11_beside_18 : decode cX11_beside 18 = .ok (.iload_n 1, 1) := by decide +kernel
theorem dX11_beside_19 : decode cX11_beside 19 = .ok (.invokevirtual 151, 3) := by decide +kernel
theorem dX11_beside_22 : decode cX11_beside 22 = .ok (.istore_n 2, 1) := by decide +kernel
theorem dX11_beside_23 : decode cX11_beside 23 = .ok (.iconst 0, 1) := by decide +kernel
theorem dX11_beside_24 : decode cX11_beside 24 = .ok (.istore_n 3, 1) := by decide +kernel
theorem dX11_beside_25 : decode cX11_beside 25 = .ok (.aload_n 0, 1) := by decide +kernel
theorem dX11_beside_26 : decode cX11_beside 26 = .ok (.getfield 19, 3) := by decide +kernel
theorem dX11_beside_29 : decode cX11_beside 29 = .ok (.iload_n 2, 1) := by decide +kernel
theorem dX11_beside_30 : decode cX11_beside 30 = .ok (.iconst 1, 1) := by decide +kernel
theorem dX11_beside_31 : decode cX11_beside 31 = .ok (.isub, 1) := by decide +kernel
theorem dX11_beside_32 : decode cX11_beside 32 = .ok (.invokevirtual 137, 3) := by decide +kernel
theorem dX11_beside_35 : decode cX11_beside 35 = .ok (.ifCond .eq 19, 3) := by decide +kernel
theorem dX11_beside_38 : decode cX11_beside 38 = .ok (.iload_n 3, 1) := by decide +kernel
theorem dX11_beside_39 : decode cX11_beside 39 = .ok (.iconst 1, 1) := by decide +kernel
theorem dX11_beside_40 : decode cX11_beside 40 = .ok (.aload_n 0, 1) := by decide +kernel
theorem dX11_beside_41 : decode cX11_beside 41 = .ok (.getfield 19, 3) := by decide +kernel
theorem dX11_beside_44 : decode cX11_beside 44 = .ok (.getfield 148, 3) := by decide +kernel
theorem dX11_beside_47 : decode cX11_beside 47 = .ok (.iload_n 2, 1) := by decide +kernel
theorem dX11_beside_48 : decode cX11_beside 48 = .ok (.iconst 1, 1) := by decide +kernel
theorem dX11_beside_49 : decode cX11_beside 49 = .ok (.isub, 1) := by decide +kernel
theorem dX11_beside_50 : decode cX11_beside 50 = .ok (.iaload, 1) := by decide +kernel
theorem dX11_beside_51 : decode cX11_beside 51 = .ok (.ishl, 1) := by decide +kernel
theorem dX11_beside_52 : decode cX11_beside 52 = .ok (.ior, 1) := by decide +kernel
theorem dX11_beside_53 : decode cX11_beside 53 = .ok (.istore_n 3, 1) := by decide +kernel
theorem dX11_beside_54 : decode cX11_beside 54 = .ok (.aload_n 0, 1) := by decide +kernel
theorem dX11_beside_55 : decode cX11_beside 55 = .ok (.getfield 19, 3) := by decide +kernel
theorem dX11_beside_58 : decode cX11_beside 58 = .ok (.iload_n 2, 1) := by decide +kernel
theorem dX11_beside_59 : decode cX11_beside 59 = .ok (.iconst 1, 1) := by decide +kernel
theorem dX11_beside_60 : decode cX11_beside 60 = .ok (.iadd, 1) := by decide +kernel
theorem dX11_beside_61 : decode cX11_beside 61 = .ok (.invokevirtual 137, 3) := by decide +kernel
theorem dX11_beside_64 : decode cX11_beside 64 = .ok (.ifCond .eq 19, 3) := by decide +kernel
theorem dX11_beside_67 : decode cX11_beside 67 = .ok (.iload_n 3, 1) := by decide +kernel
theorem dX11_beside_68 : decode cX11_beside 68 = .ok (.iconst 1, 1) := by decide +kernel
theorem dX11_beside_69 : decode cX11_beside 69 = .ok (.aload_n 0, 1) := by decide +kernel
theorem dX11_beside_70 : decode cX11_beside 70 = .ok (.getfield 19, 3) := by decide +kernel
theorem dX11_beside_73 : decode cX11_beside 73 = .ok (.getfield 148, 3) := by decide +kernel
theorem dX11_beside_76 : decode cX11_beside 76 = .ok (.iload_n 2, 1) := by decide +kernel
theorem dX11_beside_77 : decode cX11_beside 77 = .ok (.iconst 1, 1) := by decide +kernel
theorem dX11_beside_78 : decode cX11_beside 78 = .ok (.iadd, 1) := by decide +kernel
theorem dX11_beside_79 : decode cX11_beside 79 = .ok (.iaload, 1) := by decide +kernel
theorem dX11_beside_80 : decode cX11_beside 80 = .ok (.ishl, 1) := by decide +kernel
theorem dX11_beside_81 : decode cX11_beside 81 = .ok (.ior, 1) := by decide +kernel
theorem dX11_beside_82 : decode cX11_beside 82 = .ok (.istore_n 3, 1) := by decide +kernel
theorem dX11_beside_83 : decode cX11_beside 83 = .ok (.iload_n 3, 1) := by decide +kernel
theorem dX11_beside_84 : decode cX11_beside 84 = .ok (.ireturn, 1) := by decide +kernel
theorem dX11_quarrels_0 : decode cX11_quarrels 0 = .ok (.aload_n 0, 1) := by decide +kernel
theorem dX11_quarrels_1 : decode cX11_quarrels 1 = .ok (.getfield 19, 3) := by decide +kernel
theorem dX11_quarrels_4 : decode cX11_quarrels 4 = .ok (.invokevirtual 169, 3) := by decide +kernel
theorem dX11_quarrels_7 : decode cX11_quarrels 7 = .ok (.ifCond .eq 6, 3) := by decide +kernel
theorem dX11_quarrels_10 : decode cX11_quarrels 10 = .ok (.bipush (-2), 2) := by decide +kernel
theorem dX11_quarrels_12 : decode cX11_quarrels 12 = .ok (.ireturn, 1) := by decide +kernel
theorem dX11_quarrels_13 : decode cX11_quarrels 13 = .ok (.iconst 0, 1) := by decide +kernel
theorem dX11_quarrels_14 : decode cX11_quarrels 14 = .ok (.istore_n 1, 1) := by decide +kernel
theorem dX11_quarrels_15 : decode cX11_quarrels 15 = .ok (.iconst 1, 1) := by decide +kernel
theorem dX11_quarrels_16 : decode cX11_quarrels 16 = .ok (.istore_n 2, 1) := by decide +kernel
theorem dX11_quarrels_17 : decode cX11_quarrels 17 = .ok (.iload_n 2, 1) := by decide +kernel
theorem dX11_quarrels_18 : decode cX11_quarrels 18 = .ok (.aload_n 0, 1) := by decide +kernel
theorem dX11_quarrels_19 : decode cX11_quarrels 19 = .ok (.getfield 19, 3) := by decide +kernel
theorem dX11_quarrels_22 : decode cX11_quarrels 22 = .ok (.getfield 172, 3) := by decide +kernel
theorem dX11_quarrels_25 : decode cX11_quarrels 25 = .ok (.if_icmp .ge 42, 3) := by decide +kernel
theorem dX11_quarrels_28 : decode cX11_quarrels 28 = .ok (.aload_n 0, 1) := by decide +kernel
theorem dX11_quarrels_29 : decode cX11_quarrels 29 = .ok (.getfield 19, 3) := by decide +kernel
theorem dX11_quarrels_32 : decode cX11_quarrels 32 = .ok (.aload_n 0, 1) := by decide +kernel
theorem dX11_quarrels_33 : decode cX11_quarrels 33 = .ok (.getfield 19, 3) := by decide +kernel
theorem dX11_quarrels_36 : decode cX11_quarrels 36 = .ok (.getfield 148, 3) := by decide +kernel
theorem dX11_quarrels_39 : decode cX11_quarrels 39 = .ok (.iload_n 2, 1) := by decide +kernel
theorem dX11_quarrels_40 : decode cX11_quarrels 40 = .ok (.iconst 1, 1) := by decide +kernel
theorem dX11_quarrels_41 : decode cX11_quarrels 41 = .ok (.isub, 1) := by decide +kernel
theorem dX11_quarrels_42 : decode cX11_quarrels 42 = .ok (.iaload, 1) := by decide +kernel
theorem dX11_quarrels_43 : decode cX11_quarrels 43 = .ok (.aload_n 0, 1) := by decide +kernel
theorem dX11_quarrels_44 : decode cX11_quarrels 44 = .ok (.getfield 19, 3) := by decide +kernel
theorem dX11_quarrels_47 : decode cX11_quarrels 47 = .ok (.getfield 148, 3) := by decide +kernel
theorem dX11_quarrels_50 : decode cX11_quarrels 50 = .ok (.iload_n 2, 1) := by decide +kernel
theorem dX11_quarrels_51 : decode cX11_quarrels 51 = .ok (.iaload, 1) := by decide +kernel
theorem dX11_quarrels_52 : decode cX11_quarrels 52 = .ok (.invokevirtual 229, 3) := by decide +kernel
theorem dX11_quarrels_55 : decode cX11_quarrels 55 = .ok (.ifCond .eq 6, 3) := by decide +kernel
theorem dX11_quarrels_58 : decode cX11_quarrels 58 = .ok (.iinc 1 1, 3) := by decide +kernel
theorem dX11_quarrels_61 : decode cX11_quarrels 61 = .ok (.iinc 2 1, 3) := by decide +kernel
theorem dX11_quarrels_64 : decode cX11_quarrels 64 = .ok (.goto (-47), 3) := by decide +kernel
theorem dX11_quarrels_67 : decode cX11_quarrels 67 = .ok (.iload_n 1, 1) := by decide +kernel
theorem dX11_quarrels_68 : decode cX11_quarrels 68 = .ok (.ireturn, 1) := by decide +kernel
theorem dX11_finest_0 : decode cX11_finest 0 = .ok (.aload_n 0, 1) := by decide +kernel
theorem dX11_finest_1 : decode cX11_finest 1 = .ok (.getfield 19, 3) := by decide +kernel
theorem dX11_finest_4 : decode cX11_finest 4 = .ok (.invokevirtual 169, 3) := by decide +kernel
theorem dX11_finest_7 : decode cX11_finest 7 = .ok (.ifCond .ne 14, 3) := by decide +kernel
theorem dX11_finest_10 : decode cX11_finest 10 = .ok (.iload_n 1, 1) := by decide +kernel
theorem dX11_finest_11 : decode cX11_finest 11 = .ok (.iconst 0, 1) := by decide +kernel
theorem dX11_finest_12 : decode cX11_finest 12 = .ok (.sipush 5000, 3) := by decide +kernel
theorem dX11_finest_15 : decode cX11_finest 15 = .ok (.invokestatic 156, 3) := by decide +kernel
theorem dX11_finest_18 : decode cX11_finest 18 = .ok (.ifCond .ne 6, 3) := by decide +kernel
theorem dX11_finest_21 : decode cX11_finest 21 = .ok (.bipush (-2), 2) := by decide +kernel
theorem dX11_finest_23 : decode cX11_finest 23 = .ok (.ireturn, 1) := by decide +kernel
theorem dX11_finest_24 : decode cX11_finest 24 = .ok (.aload_n 0, 1) := by decide +kernel
theorem dX11_finest_25 : decode cX11_finest 25 = .ok (.getfield 44, 3) := by decide +kernel
theorem dX11_finest_28 : decode cX11_finest 28 = .ok (.aload_n 0, 1) := by decide +kernel
theorem dX11_finest_29 : decode cX11_finest 29 = .ok (.getfield 19, 3) := by decide +kernel
theorem dX11_finest_32 : decode cX11_finest 32 = .ok (.invokevirtual 160, 3) := by decide +kernel
theorem dX11_finest_35 : decode cX11_finest 35 = .ok (.iload_n 1, 1) := by decide +kernel
theorem dX11_finest_36 : decode cX11_finest 36 = .ok (.sipush 720, 3) := by decide +kernel
theorem dX11_finest_39 : decode cX11_finest 39 = .ok (.invokestatic 233, 3) := by decide +kernel
theorem dX11_finest_42 : decode cX11_finest 42 = .ok (.istore_n 2, 1) := by decide +kernel
theorem dX11_finest_43 : decode cX11_finest 43 = .ok (.iconst 0, 1) := by decide +kernel
theorem dX11_finest_44 : decode cX11_finest 44 = .ok (.istore_n 3, 1) := by decide +kernel
theorem dX11_finest_45 : decode cX11_finest 45 = .ok (.iconst (-1), 1) := by decide +kernel
theorem dX11_finest_46 : decode cX11_finest 46 = .ok (.istore 4, 2) := by decide +kernel
theorem dX11_finest_48 : decode cX11_finest 48 = .ok (.iconst 0, 1) := by decide +kernel
theorem dX11_finest_49 : decode cX11_finest 49 = .ok (.istore 5, 2) := by decide +kernel
theorem dX11_finest_51 : decode cX11_finest 51 = .ok (.iload 5, 2) := by decide +kernel
theorem dX11_finest_53 : decode cX11_finest 53 = .ok (.iload_n 2, 1) := by decide +kernel
theorem dX11_finest_54 : decode cX11_finest 54 = .ok (.if_icmp .gt 49, 3) := by decide +kernel
theorem dX11_finest_57 : decode cX11_finest 57 = .ok (.aload_n 0, 1) := by decide +kernel
theorem dX11_finest_58 : decode cX11_finest 58 = .ok (.getfield 44, 3) := by decide +kernel
theorem dX11_finest_61 : decode cX11_finest 61 = .ok (.getfield 166, 3) := by decide +kernel
theorem dX11_finest_64 : decode cX11_finest 64 = .ok (.aload_n 0, 1) := by decide +kernel
theorem dX11_finest_65 : decode cX11_finest 65 = .ok (.getfield 19, 3) := by decide +kernel
theorem dX11_finest_68 : decode cX11_finest 68 = .ok (.getfield 172, 3) := by decide +kernel
theorem dX11_finest_71 : decode cX11_finest 71 = .ok (.invokestatic 175, 3) := by decide +kernel
theorem dX11_finest_74 : decode cX11_finest 74 = .ok (.istore 6, 2) := by decide +kernel
theorem dX11_finest_76 : decode cX11_finest 76 = .ok (.iload 6, 2) := by decide +kernel
theorem dX11_finest_78 : decode cX11_finest 78 = .ok (.iload 4, 2) := by decide +kernel
theorem dX11_finest_80 : decode cX11_finest 80 = .ok (.if_icmp .le 10, 3) := by decide +kernel
theorem dX11_finest_83 : decode cX11_finest 83 = .ok (.iload 6, 2) := by decide +kernel
theorem dX11_finest_85 : decode cX11_finest 85 = .ok (.istore 4, 2) := by decide +kernel
theorem dX11_finest_87 : decode cX11_finest 87 = .ok (.iload 5, 2) := by decide +kernel
theorem dX11_finest_89 : decode cX11_finest 89 = .ok (.istore_n 3, 1) := by decide +kernel
theorem dX11_finest_90 : decode cX11_finest 90 = .ok (.aload_n 0, 1) := by decide +kernel
theorem dX11_finest_91 : decode cX11_finest 91 = .ok (.getfield 44, 3) := by decide +kernel
theorem dX11_finest_94 : decode cX11_finest 94 = .ok (.invokevirtual 191, 3) := by decide +kernel
theorem dX11_finest_97 : decode cX11_finest 97 = .ok (.iinc 5 1, 3) := by decide +kernel
theorem dX11_finest_100 : decode cX11_finest 100 = .ok (.goto (-49), 3) := by decide +kernel
theorem dX11_finest_103 : decode cX11_finest 103 = .ok (.iload_n 3, 1) := by decide +kernel
theorem dX11_finest_104 : decode cX11_finest 104 = .ok (.ireturn, 1) := by decide +kernel
theorem dX11_spells_0 : decode cX11_spells 0 = .ok (.aload_n 0, 1) := by decide +kernel
theorem dX11_spells_1 : decode cX11_spells 1 = .ok (.getfield 19, 3) := by decide +kernel
theorem dX11_spells_4 : decode cX11_spells 4 = .ok (.iload_n 1, 1) := by decide +kernel
theorem dX11_spells_5 : decode cX11_spells 5 = .ok (.invokevirtual 137, 3) := by decide +kernel
theorem dX11_spells_8 : decode cX11_spells 8 = .ok (.ifCond .eq 14, 3) := by decide +kernel
theorem dX11_spells_11 : decode cX11_spells 11 = .ok (.iload_n 2, 1) := by decide +kernel
theorem dX11_spells_12 : decode cX11_spells 12 = .ok (.iconst 0, 1) := by decide +kernel
theorem dX11_spells_13 : decode cX11_spells 13 = .ok (.sipush 5000, 3) := by decide +kernel
theorem dX11_spells_16 : decode cX11_spells 16 = .ok (.invokestatic 156, 3) := by decide +kernel
theorem dX11_spells_19 : decode cX11_spells 19 = .ok (.ifCond .ne 6, 3) := by decide +kernel
theorem dX11_spells_22 : decode cX11_spells 22 = .ok (.bipush (-2), 2) := by decide +kernel
theorem dX11_spells_24 : decode cX11_spells 24 = .ok (.ireturn, 1) := by decide +kernel
theorem dX11_spells_25 : decode cX11_spells 25 = .ok (.aload_n 0, 1) := by decide +kernel
theorem dX11_spells_26 : decode cX11_spells 26 = .ok (.getfield 44, 3) := by decide +kernel
theorem dX11_spells_29 : decode cX11_spells 29 = .ok (.aload_n 0, 1) := by decide +kernel
theorem dX11_spells_30 : decode cX11_spells 30 = .ok (.getfield 19, 3) := by decide +kernel
theorem dX11_spells_33 : decode cX11_spells 33 = .ok (.invokevirtual 160, 3) := by decide +kernel
theorem dX11_spells_36 : decode cX11_spells 36 = .ok (.iconst 0, 1) := by decide +kernel
theorem dX11_spells_37 : decode cX11_spells 37 = .ok (.istore_n 3, 1) := by decide +kernel
theorem dX11_spells_38 : decode cX11_spells 38 = .ok (.iconst 0, 1) := by decide +kernel
theorem dX11_spells_39 : decode cX11_spells 39 = .ok (.istore 4, 2) := by decide +kernel
theorem dX11_spells_41 : decode cX11_spells 41 = .ok (.iload 4, 2) := by decide +kernel
theorem dX11_spells_43 : decode cX11_spells 43 = .ok (.iload_n 2, 1) := by decide +kernel
theorem dX11_spells_44 : decode cX11_spells 44 = .ok (.if_icmp .ge 32, 3) := by decide +kernel
theorem dX11_spells_47 : decode cX11_spells 47 = .ok (.aload_n 0, 1) := by decide +kernel
theorem dX11_spells_48 : decode cX11_spells 48 = .ok (.getfield 44, 3) := by decide +kernel
theorem dX11_spells_51 : decode cX11_spells 51 = .ok (.invokevirtual 191, 3) := by decide +kernel
theorem dX11_spells_54 : decode cX11_spells 54 = .ok (.aload_n 0, 1) := by decide +kernel
theorem dX11_spells_55 : decode cX11_spells 55 = .ok (.getfield 44, 3) := by decide +kernel
theorem dX11_spells_58 : decode cX11_spells 58 = .ok (.getfield 166, 3) := by decide +kernel
theorem dX11_spells_61 : decode cX11_spells 61 = .ok (.iload_n 1, 1) := by decide +kernel
theorem dX11_spells_62 : decode cX11_spells 62 = .ok (.iaload, 1) := by decide +kernel
theorem dX11_spells_63 : decode cX11_spells 63 = .ok (.iload_n 1, 1) := by decide +kernel
theorem dX11_spells_64 : decode cX11_spells 64 = .ok (.if_icmp .ne 6, 3) := by decide +kernel
theorem dX11_spells_67 : decode cX11_spells 67 = .ok (.iinc 3 1, 3) := by decide +kernel
theorem dX11_spells_70 : decode cX11_spells 70 = .ok (.iinc 4 1, 3) := by decide +kernel
theorem dX11_spells_73 : decode cX11_spells 73 = .ok (.goto (-32), 3) := by decide +kernel
theorem dX11_spells_76 : decode cX11_spells 76 = .ok (.iload_n 3, 1) := by decide +kernel
theorem dX11_spells_77 : decode cX11_spells 77 = .ok (.ireturn, 1) := by decide +kernel
theorem dX11_slide_0 : decode cX11_slide 0 = .ok (.aload_n 0, 1) := by decide +kernel
theorem dX11_slide_1 : decode cX11_slide 1 = .ok (.iload_n 1, 1) := by decide +kernel
theorem dX11_slide_2 : decode cX11_slide 2 = .ok (.invokevirtual 236, 3) := by decide +kernel
theorem dX11_slide_5 : decode cX11_slide 5 = .ok (.istore_n 2, 1) := by decide +kernel
theorem dX11_slide_6 : decode cX11_slide 6 = .ok (.iload_n 2, 1) := by decide +kernel
theorem dX11_slide_7 : decode cX11_slide 7 = .ok (.ifCond .eq 5, 3) := by decide +kernel
theorem dX11_slide_10 : decode cX11_slide 10 = .ok (.iload_n 2, 1) := by decide +kernel
theorem dX11_slide_11 : decode cX11_slide 11 = .ok (.ireturn, 1) := by decide +kernel
theorem dX11_slide_12 : decode cX11_slide 12 = .ok (.aload_n 0, 1) := by decide +kernel
theorem dX11_slide_13 : decode cX11_slide 13 = .ok (.invokevirtual 239, 3) := by decide +kernel
theorem dX11_slide_16 : decode cX11_slide 16 = .ok (.astore_n 3, 1) := by decide +kernel
theorem dX11_slide_17 : decode cX11_slide 17 = .ok (.aload_n 3, 1) := by decide +kernel
theorem dX11_slide_18 : decode cX11_slide 18 = .ok (.aload_n 0, 1) := by decide +kernel
theorem dX11_slide_19 : decode cX11_slide 19 = .ok (.getfield 19, 3) := by decide +kernel
theorem dX11_slide_22 : decode cX11_slide 22 = .ok (.aload_n 0, 1) := by decide +kernel
theorem dX11_slide_23 : decode cX11_slide 23 = .ok (.getfield 83, 3) := by decide +kernel
theorem dX11_slide_26 : decode cX11_slide 26 = .ok (.invokevirtual 243, 3) := by decide +kernel
theorem dX11_slide_29 : decode cX11_slide 29 = .ok (.aload_n 3, 1) := by decide +kernel
theorem dX11_slide_30 : decode cX11_slide 30 = .ok (.aload_n 0, 1) := by decide +kernel
theorem dX11_slide_31 : decode cX11_slide 31 = .ok (.getfield 19, 3) := by decide +kernel
theorem dX11_slide_34 : decode cX11_slide 34 = .ok (.getfield 148, 3) := by decide +kernel
theorem dX11_slide_37 : decode cX11_slide 37 = .ok (.invokevirtual 249, 3) := by decide +kernel
theorem dX11_slide_40 : decode cX11_slide 40 = .ok (.ireturn, 1) := by decide +kernel
theorem dX11_slides_0 : decode cX11_slides 0 = .ok (.aload_n 0, 1) := by decide +kernel
theorem dX11_slides_1 : decode cX11_slides 1 = .ok (.iload_n 1, 1) := by decide +kernel
theorem dX11_slides_2 : decode cX11_slides 2 = .ok (.invokevirtual 236, 3) := by decide +kernel
theorem dX11_slides_5 : decode cX11_slides 5 = .ok (.istore_n 3, 1) := by decide +kernel
theorem dX11_slides_6 : decode cX11_slides 6 = .ok (.iload_n 3, 1) := by decide +kernel
theorem dX11_slides_7 : decode cX11_slides 7 = .ok (.ifCond .eq 5, 3) := by decide +kernel
theorem dX11_slides_10 : decode cX11_slides 10 = .ok (.iload_n 3, 1) := by decide +kernel
theorem dX11_slides_11 : decode cX11_slides 11 = .ok (.ireturn, 1) := by decide +kernel
theorem dX11_slides_12 : decode cX11_slides 12 = .ok (.aload_n 0, 1) := by decide +kernel
theorem dX11_slides_13 : decode cX11_slides 13 = .ok (.invokevirtual 239, 3) := by decide +kernel
theorem dX11_slides_16 : decode cX11_slides 16 = .ok (.astore 4, 2) := by decide +kernel
theorem dX11_slides_18 : decode cX11_slides 18 = .ok (.aload 4, 2) := by decide +kernel
theorem dX11_slides_20 : decode cX11_slides 20 = .ok (.aload_n 0, 1) := by decide +kernel
theorem dX11_slides_21 : decode cX11_slides 21 = .ok (.getfield 19, 3) := by decide +kernel
theorem dX11_slides_24 : decode cX11_slides 24 = .ok (.aload_n 0, 1) := by decide +kernel
theorem dX11_slides_25 : decode cX11_slides 25 = .ok (.getfield 83, 3) := by decide +kernel
theorem dX11_slides_28 : decode cX11_slides 28 = .ok (.invokevirtual 243, 3) := by decide +kernel
theorem dX11_slides_31 : decode cX11_slides 31 = .ok (.aload 4, 2) := by decide +kernel
theorem dX11_slides_33 : decode cX11_slides 33 = .ok (.aload_n 0, 1) := by decide +kernel
theorem dX11_slides_34 : decode cX11_slides 34 = .ok (.getfield 19, 3) := by decide +kernel
theorem dX11_slides_37 : decode cX11_slides 37 = .ok (.getfield 148, 3) := by decide +kernel
theorem dX11_slides_40 : decode cX11_slides 40 = .ok (.iload_n 2, 1) := by decide +kernel
theorem dX11_slides_41 : decode cX11_slides 41 = .ok (.invokevirtual 252, 3) := by decide +kernel
theorem dX11_slides_44 : decode cX11_slides 44 = .ok (.ireturn, 1) := by decide +kernel
theorem dX11_reach_0 : decode cX11_reach 0 = .ok (.aload_n 0, 1) := by decide +kernel
theorem dX11_reach_1 : decode cX11_reach 1 = .ok (.getfield 19, 3) := by decide +kernel
theorem dX11_reach_4 : decode cX11_reach 4 = .ok (.invokevirtual 169, 3) := by decide +kernel
theorem dX11_reach_7 : decode cX11_reach 7 = .ok (.ifCond .eq 6, 3) := by decide +kernel
theorem dX11_reach_10 : decode cX11_reach 10 = .ok (.bipush (-2), 2) := by decide +kernel
theorem dX11_reach_12 : decode cX11_reach 12 = .ok (.ireturn, 1) := by decide +kernel
theorem dX11_reach_13 : decode cX11_reach 13 = .ok (.aload_n 0, 1) := by decide +kernel
theorem dX11_reach_14 : decode cX11_reach 14 = .ok (.invokevirtual 239, 3) := by decide +kernel
theorem dX11_reach_17 : decode cX11_reach 17 = .ok (.astore_n 1, 1) := by decide +kernel
theorem dX11_reach_18 : decode cX11_reach 18 = .ok (.aload_n 1, 1) := by decide +kernel
theorem dX11_reach_19 : decode cX11_reach 19 = .ok (.aload_n 0, 1) := by decide +kernel
theorem dX11_reach_20 : decode cX11_reach 20 = .ok (.getfield 19, 3) := by decide +kernel
theorem dX11_reach_23 : decode cX11_reach 23 = .ok (.aload_n 0, 1) := by decide +kernel
theorem dX11_reach_24 : decode cX11_reach 24 = .ok (.getfield 19, 3) := by decide +kernel
theorem dX11_reach_27 : decode cX11_reach 27 = .ok (.getfield 148, 3) := by decide +kernel
theorem dX11_reach_30 : decode cX11_reach 30 = .ok (.invokevirtual 243, 3) := by decide +kernel
theorem dX11_reach_33 : decode cX11_reach 33 = .ok (.aload_n 1, 1) := by decide +kernel
theorem dX11_reach_34 : decode cX11_reach 34 = .ok (.invokevirtual 255, 3) := by decide +kernel
theorem dX11_reach_37 : decode cX11_reach 37 = .ok (.ireturn, 1) := by decide +kernel
theorem dX11_far_0 : decode cX11_far 0 = .ok (.aload_n 0, 1) := by decide +kernel
theorem dX11_far_1 : decode cX11_far 1 = .ok (.getfield 19, 3) := by decide +kernel
theorem dX11_far_4 : decode cX11_far 4 = .ok (.invokevirtual 169, 3) := by decide +kernel
theorem dX11_far_7 : decode cX11_far 7 = .ok (.ifCond .eq 6, 3) := by decide +kernel
theorem dX11_far_10 : decode cX11_far 10 = .ok (.bipush (-2), 2) := by decide +kernel
theorem dX11_far_12 : decode cX11_far 12 = .ok (.ireturn, 1) := by decide +kernel
theorem dX11_far_13 : decode cX11_far 13 = .ok (.aload_n 0, 1) := by decide +kernel
theorem dX11_far_14 : decode cX11_far 14 = .ok (.invokevirtual 239, 3) := by decide +kernel
theorem dX11_far_17 : decode cX11_far 17 = .ok (.astore_n 1, 1) := by decide +kernel
theorem dX11_far_18 : decode cX11_far 18 = .ok (.aload_n 1, 1) := by decide +kernel
theorem dX11_far_19 : decode cX11_far 19 = .ok (.aload_n 0, 1) := by decide +kernel
theorem dX11_far_20 : decode cX11_far 20 = .ok (.getfield 19, 3) := by decide +kernel
theorem dX11_far_23 : decode cX11_far 23 = .ok (.aload_n 0, 1) := by decide +kernel
theorem dX11_far_24 : decode cX11_far 24 = .ok (.getfield 19, 3) := by decide +kernel
theorem dX11_far_27 : decode cX11_far 27 = .ok (.getfield 148, 3) := by decide +kernel
theorem dX11_far_30 : decode cX11_far 30 = .ok (.invokevirtual 243, 3) := by decide +kernel
theorem dX11_far_33 : decode cX11_far 33 = .ok (.aload_n 1, 1) := by decide +kernel
theorem dX11_far_34 : decode cX11_far 34 = .ok (.invokevirtual 259, 3) := by decide +kernel
theorem dX11_far_37 : decode cX11_far 37 = .ok (.ireturn, 1) := by decide +kernel
theorem dX11_fits_0 : decode cX11_fits 0 = .ok (.aload_n 0, 1) := by decide +kernel
theorem dX11_fits_1 : decode cX11_fits 1 = .ok (.iload_n 1, 1) := by decide +kernel
theorem dX11_fits_2 : decode cX11_fits 2 = .ok (.invokevirtual 262, 3) := by decide +kernel
theorem dX11_fits_5 : decode cX11_fits 5 = .ok (.istore_n 2, 1) := by decide +kernel
theorem dX11_fits_6 : decode cX11_fits 6 = .ok (.iload_n 2, 1) := by decide +kernel
theorem dX11_fits_7 : decode cX11_fits 7 = .ok (.ifCond .eq 7, 3) := by decide +kernel
theorem dX11_fits_10 : decode cX11_fits 10 = .ok (.iload_n 2, 1) := by decide +kernel
theorem dX11_fits_11 : decode cX11_fits 11 = .ok (.goto 10, 3) := by decide +kernel
theorem dX11_fits_14 : decode cX11_fits 14 = .ok (.aload_n 0, 1) := by decide +kernel
theorem dX11_fits_15 : decode cX11_fits 15 = .ok (.getfield 51, 3) := by decide +kernel
theorem dX11_fits_18 : decode cX11_fits 18 = .ok (.invokevirtual 265, 3) := by decide +kernel
theorem dX11_fits_21 : decode cX11_fits 21 = .ok (.ireturn, 1) := by decide +kernel
theorem dX11_fit_0 : decode cX11_fit 0 = .ok (.aload_n 0, 1) := by decide +kernel
theorem dX11_fit_1 : decode cX11_fit 1 = .ok (.getfield 19, 3) := by decide +kernel
theorem dX11_fit_4 : decode cX11_fit 4 = .ok (.iload_n 2, 1) := by decide +kernel
theorem dX11_fit_5 : decode cX11_fit 5 = .ok (.invokevirtual 137, 3) := by decide +kernel
theorem dX11_fit_8 : decode cX11_fit 8 = .ok (.ifCond .ne 6, 3) := by decide +kernel
theorem dX11_fit_11 : decode cX11_fit 11 = .ok (.bipush (-2), 2) := by decide +kernel
theorem dX11_fit_13 : decode cX11_fit 13 = .ok (.ireturn, 1) := by decide +kernel
theorem dX11_fit_14 : decode cX11_fit 14 = .ok (.aload_n 0, 1) := by decide +kernel
theorem dX11_fit_15 : decode cX11_fit 15 = .ok (.iload_n 1, 1) := by decide +kernel
theorem dX11_fit_16 : decode cX11_fit 16 = .ok (.invokevirtual 262, 3) := by decide +kernel
theorem dX11_fit_19 : decode cX11_fit 19 = .ok (.istore_n 3, 1) := by decide +kernel
theorem dX11_fit_20 : decode cX11_fit 20 = .ok (.iload_n 3, 1) := by decide +kernel
theorem dX11_fit_21 : decode cX11_fit 21 = .ok (.ifCond .eq 7, 3) := by decide +kernel
theorem dX11_fit_24 : decode cX11_fit 24 = .ok (.iload_n 3, 1) := by decide +kernel
theorem dX11_fit_25 : decode cX11_fit 25 = .ok (.goto 11, 3) := by decide +kernel
theorem dX11_fit_28 : decode cX11_fit 28 = .ok (.aload_n 0, 1) := by decide +kernel
theorem dX11_fit_29 : decode cX11_fit 29 = .ok (.getfield 51, 3) := by decide +kernel
theorem dX11_fit_32 : decode cX11_fit 32 = .ok (.iload_n 2, 1) := by decide +kernel
theorem dX11_fit_33 : decode cX11_fit 33 = .ok (.invokevirtual 268, 3) := by decide +kernel
theorem dX11_fit_36 : decode cX11_fit 36 = .ok (.ireturn, 1) := by decide +kernel
theorem dX11_ask_0 : decode cX11_ask 0 = .ok (.aload_n 0, 1) := by decide +kernel
theorem dX11_ask_1 : decode cX11_ask 1 = .ok (.iload_n 1, 1) := by decide +kernel
theorem dX11_ask_2 : decode cX11_ask 2 = .ok (.invokevirtual 262, 3) := by decide +kernel
theorem dX11_ask_5 : decode cX11_ask 5 = .ok (.istore_n 2, 1) := by decide +kernel
theorem dX11_ask_6 : decode cX11_ask 6 = .ok (.iload_n 2, 1) := by decide +kernel
theorem dX11_ask_7 : decode cX11_ask 7 = .ok (.ifCond .eq 7, 3) := by decide +kernel
theorem dX11_ask_10 : decode cX11_ask 10 = .ok (.iload_n 2, 1) := by decide +kernel
theorem dX11_ask_11 : decode cX11_ask 11 = .ok (.goto 10, 3) := by decide +kernel
theorem dX11_ask_14 : decode cX11_ask 14 = .ok (.aload_n 0, 1) := by decide +kernel
theorem dX11_ask_15 : decode cX11_ask 15 = .ok (.getfield 51, 3) := by decide +kernel
theorem dX11_ask_18 : decode cX11_ask 18 = .ok (.invokevirtual 271, 3) := by decide +kernel
theorem dX11_ask_21 : decode cX11_ask 21 = .ok (.ireturn, 1) := by decide +kernel
theorem dX11_leaves_0 : decode cX11_leaves 0 = .ok (.aload_n 0, 1) := by decide +kernel
theorem dX11_leaves_1 : decode cX11_leaves 1 = .ok (.iload_n 1, 1) := by decide +kernel
theorem dX11_leaves_2 : decode cX11_leaves 2 = .ok (.invokevirtual 262, 3) := by decide +kernel
theorem dX11_leaves_5 : decode cX11_leaves 5 = .ok (.istore_n 2, 1) := by decide +kernel
theorem dX11_leaves_6 : decode cX11_leaves 6 = .ok (.iload_n 2, 1) := by decide +kernel
theorem dX11_leaves_7 : decode cX11_leaves 7 = .ok (.ifCond .eq 7, 3) := by decide +kernel
theorem dX11_leaves_10 : decode cX11_leaves 10 = .ok (.iload_n 2, 1) := by decide +kernel
theorem dX11_leaves_11 : decode cX11_leaves 11 = .ok (.goto 10, 3) := by decide +kernel
theorem dX11_leaves_14 : decode cX11_leaves 14 = .ok (.aload_n 0, 1) := by decide +kernel
theorem dX11_leaves_15 : decode cX11_leaves 15 = .ok (.getfield 51, 3) := by decide +kernel
theorem dX11_leaves_18 : decode cX11_leaves 18 = .ok (.invokevirtual 274, 3) := by decide +kernel
theorem dX11_leaves_21 : decode cX11_leaves 21 = .ok (.ireturn, 1) := by decide +kernel
theorem dX11_changed_0 : decode cX11_changed 0 = .ok (.aload_n 0, 1) := by decide +kernel
theorem dX11_changed_1 : decode cX11_changed 1 = .ok (.iload_n 1, 1) := by decide +kernel
theorem dX11_changed_2 : decode cX11_changed 2 = .ok (.invokevirtual 236, 3) := by decide +kernel
theorem dX11_changed_5 : decode cX11_changed 5 = .ok (.istore_n 2, 1) := by decide +kernel
theorem dX11_changed_6 : decode cX11_changed 6 = .ok (.iload_n 2, 1) := by decide +kernel
theorem dX11_changed_7 : decode cX11_changed 7 = .ok (.ifCond .eq 7, 3) := by decide +kernel
theorem dX11_changed_10 : decode cX11_changed 10 = .ok (.iload_n 2, 1) := by decide +kernel
theorem dX11_changed_11 : decode cX11_changed 11 = .ok (.goto 11, 3) := by decide +kernel
theorem dX11_changed_14 : decode cX11_changed 14 = .ok (.aload_n 0, 1) := by decide +kernel
theorem dX11_changed_15 : decode cX11_changed 15 = .ok (.aload_n 0, 1) := by decide +kernel
theorem dX11_changed_16 : decode cX11_changed 16 = .ok (.getfield 83, 3) := by decide +kernel
theorem dX11_changed_19 : decode cX11_changed 19 = .ok (.invokevirtual 204, 3) := by decide +kernel
theorem dX11_changed_22 : decode cX11_changed 22 = .ok (.ireturn, 1) := by decide +kernel
theorem dX11_same_0 : decode cX11_same 0 = .ok (.aload_n 0, 1) := by decide +kernel
theorem dX11_same_1 : decode cX11_same 1 = .ok (.iload_n 1, 1) := by decide +kernel
theorem dX11_same_2 : decode cX11_same 2 = .ok (.invokevirtual 236, 3) := by decide +kernel
theorem dX11_same_5 : decode cX11_same 5 = .ok (.istore_n 2, 1) := by decide +kernel
theorem dX11_same_6 : decode cX11_same 6 = .ok (.iload_n 2, 1) := by decide +kernel
theorem dX11_same_7 : decode cX11_same 7 = .ok (.ifCond .eq 5, 3) := by decide +kernel
theorem dX11_same_10 : decode cX11_same 10 = .ok (.iload_n 2, 1) := by decide +kernel
theorem dX11_same_11 : decode cX11_same 11 = .ok (.ireturn, 1) := by decide +kernel
theorem dX11_same_12 : decode cX11_same 12 = .ok (.iconst 0, 1) := by decide +kernel
theorem dX11_same_13 : decode cX11_same 13 = .ok (.istore_n 3, 1) := by decide +kernel
theorem dX11_same_14 : decode cX11_same 14 = .ok (.iconst 0, 1) := by decide +kernel
theorem dX11_same_15 : decode cX11_same 15 = .ok (.istore 4, 2) := by decide +kernel
theorem dX11_same_17 : decode cX11_same 17 = .ok (.iload 4, 2) := by decide +kernel
theorem dX11_same_19 : decode cX11_same 19 = .ok (.aload_n 0, 1) := by decide +kernel
theorem dX11_same_20 : decode cX11_same 20 = .ok (.getfield 19, 3) := by decide +kernel
theorem dX11_same_23 : decode cX11_same 23 = .ok (.getfield 172, 3) := by decide +kernel
theorem dX11_same_26 : decode cX11_same 26 = .ok (.if_icmp .ge 36, 3) := by decide +kernel
theorem dX11_same_29 : decode cX11_same 29 = .ok (.aload_n 0, 1) := by decide +kernel
theorem dX11_same_30 : decode cX11_same 30 = .ok (.getfield 83, 3) := by decide +kernel
theorem dX11_same_33 : decode cX11_same 33 = .ok (.iload 4, 2) := by decide +kernel
theorem dX11_same_35 : decode cX11_same 35 = .ok (.iaload, 1) := by decide +kernel
theorem dX11_same_36 : decode cX11_same 36 = .ok (.aload_n 0, 1) := by decide +kernel
theorem dX11_same_37 : decode cX11_same 37 = .ok (.getfield 19, 3) := by decide +kernel
theorem dX11_same_40 : decode cX11_same 40 = .ok (.getfield 148, 3) := by decide +kernel
theorem dX11_same_43 : decode cX11_same 43 = .ok (.iload 4, 2) := by decide +kernel
theorem dX11_same_45 : decode cX11_same 45 = .ok (.iaload, 1) := by decide +kernel
theorem dX11_same_46 : decode cX11_same 46 = .ok (.if_icmp .ne 10, 3) := by decide +kernel
theorem dX11_same_49 : decode cX11_same 49 = .ok (.iload_n 3, 1) := by decide +kernel
theorem dX11_same_50 : decode cX11_same 50 = .ok (.iconst 1, 1) := by decide +kernel
theorem dX11_same_51 : decode cX11_same 51 = .ok (.iload 4, 2) := by decide +kernel
theorem dX11_same_53 : decode cX11_same 53 = .ok (.ishl, 1) := by decide +kernel
theorem dX11_same_54 : decode cX11_same 54 = .ok (.ior, 1) := by decide +kernel
theorem dX11_same_55 : decode cX11_same 55 = .ok (.istore_n 3, 1) := by decide +kernel
theorem dX11_same_56 : decode cX11_same 56 = .ok (.iinc 4 1, 3) := by decide +kernel
theorem dX11_same_59 : decode cX11_same 59 = .ok (.goto (-42), 3) := by decide +kernel
theorem dX11_same_62 : decode cX11_same 62 = .ok (.iload_n 3, 1) := by decide +kernel
theorem dX11_same_63 : decode cX11_same 63 = .ok (.ireturn, 1) := by decide +kernel
theorem dX11_skipped_0 : decode cX11_skipped 0 = .ok (.aload_n 0, 1) := by decide +kernel
theorem dX11_skipped_1 : decode cX11_skipped 1 = .ok (.iload_n 1, 1) := by decide +kernel
theorem dX11_skipped_2 : decode cX11_skipped 2 = .ok (.invokevirtual 236, 3) := by decide +kernel
theorem dX11_skipped_5 : decode cX11_skipped 5 = .ok (.istore_n 2, 1) := by decide +kernel
theorem dX11_skipped_6 : decode cX11_skipped 6 = .ok (.iload_n 2, 1) := by decide +kernel
theorem dX11_skipped_7 : decode cX11_skipped 7 = .ok (.ifCond .eq 5, 3) := by decide +kernel
theorem dX11_skipped_10 : decode cX11_skipped 10 = .ok (.iload_n 2, 1) := by decide +kernel
theorem dX11_skipped_11 : decode cX11_skipped 11 = .ok (.ireturn, 1) := by decide +kernel
theorem dX11_skipped_12 : decode cX11_skipped 12 = .ok (.aload_n 0, 1) := by decide +kernel
theorem dX11_skipped_13 : decode cX11_skipped 13 = .ok (.getfield 19, 3) := by decide +kernel
theorem dX11_skipped_16 : decode cX11_skipped 16 = .ok (.aload_n 0, 1) := by decide +kernel
theorem dX11_skipped_17 : decode cX11_skipped 17 = .ok (.getfield 19, 3) := by decide +kernel
theorem dX11_skipped_20 : decode cX11_skipped 20 = .ok (.getfield 198, 3) := by decide +kernel
theorem dX11_skipped_23 : decode cX11_skipped 23 = .ok (.invokevirtual 201, 3) := by decide +kernel
theorem dX11_skipped_26 : decode cX11_skipped 26 = .ok (.istore_n 3, 1) := by decide +kernel
theorem dX11_skipped_27 : decode cX11_skipped 27 = .ok (.iconst (-1), 1) := by decide +kernel
theorem dX11_skipped_28 : decode cX11_skipped 28 = .ok (.istore 4, 2) := by decide +kernel
theorem dX11_skipped_30 : decode cX11_skipped 30 = .ok (.iconst 0, 1) := by decide +kernel
theorem dX11_skipped_31 : decode cX11_skipped 31 = .ok (.istore 5, 2) := by decide +kernel
theorem dX11_skipped_33 : decode cX11_skipped 33 = .ok (.iload 5, 2) := by decide +kernel
theorem dX11_skipped_35 : decode cX11_skipped 35 = .ok (.bipush 64, 2) := by decide +kernel
theorem dX11_skipped_37 : decode cX11_skipped 37 = .ok (.if_icmp .ge 78, 3) := by decide +kernel
theorem dX11_skipped_40 : decode cX11_skipped 40 = .ok (.iload 5, 2) := by decide +kernel
theorem dX11_skipped_42 : decode cX11_skipped 42 = .ok (.iload_n 3, 1) := by decide +kernel
theorem dX11_skipped_43 : decode cX11_skipped 43 = .ok (.iconst (-1), 1) := by decide +kernel
theorem dX11_skipped_44 : decode cX11_skipped 44 = .ok (.ixor, 1) := by decide +kernel
theorem dX11_skipped_45 : decode cX11_skipped 45 = .ok (.iand, 1) := by decide +kernel
theorem dX11_skipped_46 : decode cX11_skipped 46 = .ok (.ifCond .ne 7, 3) := by decide +kernel
theorem dX11_skipped_49 : decode cX11_skipped 49 = .ok (.iconst 1, 1) := by decide +kernel
theorem dX11_skipped_50 : decode cX11_skipped 50 = .ok (.goto 4, 3) := by decide +kernel
theorem dX11_skipped_53 : decode cX11_skipped 53 = .ok (.iconst 0, 1) := by decide +kernel
theorem dX11_skipped_54 : decode cX11_skipped 54 = .ok (.istore 6, 2) := by decide +kernel
theorem dX11_skipped_56 : decode cX11_skipped 56 = .ok (.iload 4, 2) := by decide +kernel
theorem dX11_skipped_58 : decode cX11_skipped 58 = .ok (.iconst (-1), 1) := by decide +kernel
theorem dX11_skipped_59 : decode cX11_skipped 59 = .ok (.if_icmp .eq 13, 3) := by decide +kernel
theorem dX11_skipped_62 : decode cX11_skipped 62 = .ok (.iload 5, 2) := by decide +kernel
theorem dX11_skipped_64 : decode cX11_skipped 64 = .ok (.invokestatic 215, 3) := by decide +kernel
theorem dX11_skipped_67 : decode cX11_skipped 67 = .ok (.iload 4, 2) := by decide +kernel
theorem dX11_skipped_69 : decode cX11_skipped 69 = .ok (.if_icmp .ge 7, 3) := by decide +kernel
theorem dX11_skipped_72 : decode cX11_skipped 72 = .ok (.iconst 1, 1) := by decide +kernel
theorem dX11_skipped_73 : decode cX11_skipped 73 = .ok (.goto 4, 3) := by decide +kernel
theorem dX11_skipped_76 : decode cX11_skipped 76 = .ok (.iconst 0, 1) := by decide +kernel
theorem dX11_skipped_77 : decode cX11_skipped 77 = .ok (.istore 7, 2) := by decide +kernel
theorem dX11_skipped_79 : decode cX11_skipped 79 = .ok (.iload 6, 2) := by decide +kernel
theorem dX11_skipped_81 : decode cX11_skipped 81 = .ok (.ifCond .eq 28, 3) := by decide +kernel
theorem dX11_skipped_84 : decode cX11_skipped 84 = .ok (.iload 7, 2) := by decide +kernel
theorem dX11_skipped_86 : decode cX11_skipped 86 = .ok (.ifCond .eq 23, 3) := by decide +kernel
theorem dX11_skipped_89 : decode cX11_skipped 89 = .ok (.aload_n 0, 1) := by decide +kernel
theorem dX11_skipped_90 : decode cX11_skipped 90 = .ok (.iload_n 3, 1) := by decide +kernel
theorem dX11_skipped_91 : decode cX11_skipped 91 = .ok (.iload 5, 2) := by decide +kernel
theorem dX11_skipped_93 : decode cX11_skipped 93 = .ok (.iconst (-1), 1) := by decide +kernel
theorem dX11_skipped_94 : decode cX11_skipped 94 = .ok (.ixor, 1) := by decide +kernel
theorem dX11_skipped_95 : decode cX11_skipped 95 = .ok (.iand, 1) := by decide +kernel
theorem dX11_skipped_96 : decode cX11_skipped 96 = .ok (.invokevirtual 277, 3) := by decide +kernel
theorem dX11_skipped_99 : decode cX11_skipped 99 = .ok (.ifCond .eq 10, 3) := by decide +kernel
theorem dX11_skipped_102 : decode cX11_skipped 102 = .ok (.iload 5, 2) := by decide +kernel
theorem dX11_skipped_104 : decode cX11_skipped 104 = .ok (.invokestatic 215, 3) := by decide +kernel
theorem dX11_skipped_107 : decode cX11_skipped 107 = .ok (.istore 4, 2) := by decide +kernel
theorem dX11_skipped_109 : decode cX11_skipped 109 = .ok (.iinc 5 1, 3) := by decide +kernel
theorem dX11_skipped_112 : decode cX11_skipped 112 = .ok (.goto (-79), 3) := by decide +kernel
theorem dX11_skipped_115 : decode cX11_skipped 115 = .ok (.iload 4, 2) := by decide +kernel
theorem dX11_skipped_117 : decode cX11_skipped 117 = .ok (.ireturn, 1) := by decide +kernel
theorem dX11_hangs_0 : decode cX11_hangs 0 = .ok (.aload_n 0, 1) := by decide +kernel
theorem dX11_hangs_1 : decode cX11_hangs 1 = .ok (.getfield 19, 3) := by decide +kernel
theorem dX11_hangs_4 : decode cX11_hangs 4 = .ok (.invokevirtual 169, 3) := by decide +kernel
theorem dX11_hangs_7 : decode cX11_hangs 7 = .ok (.ifCond .eq 6, 3) := by decide +kernel
theorem dX11_hangs_10 : decode cX11_hangs 10 = .ok (.bipush (-2), 2) := by decide +kernel
theorem dX11_hangs_12 : decode cX11_hangs 12 = .ok (.ireturn, 1) := by decide +kernel
theorem dX11_hangs_13 : decode cX11_hangs 13 = .ok (.aload_n 0, 1) := by decide +kernel
theorem dX11_hangs_14 : decode cX11_hangs 14 = .ok (.getfield 58, 3) := by decide +kernel
theorem dX11_hangs_17 : decode cX11_hangs 17 = .ok (.aload_n 0, 1) := by decide +kernel
theorem dX11_hangs_18 : decode cX11_hangs 18 = .ok (.getfield 19, 3) := by decide +kernel
theorem dX11_hangs_21 : decode cX11_hangs 21 = .ok (.invokevirtual 280, 3) := by decide +kernel
theorem dX11_hangs_24 : decode cX11_hangs 24 = .ok (.aload_n 0, 1) := by decide +kernel
theorem dX11_hangs_25 : decode cX11_hangs 25 = .ok (.getfield 58, 3) := by decide +kernel
theorem dX11_hangs_28 : decode cX11_hangs 28 = .ok (.invokevirtual 283, 3) := by decide +kernel
theorem dX11_hangs_31 : decode cX11_hangs 31 = .ok (.ireturn, 1) := by decide +kernel
theorem dX11_hang_0 : decode cX11_hang 0 = .ok (.aload_n 0, 1) := by decide +kernel
theorem dX11_hang_1 : decode cX11_hang 1 = .ok (.getfield 19, 3) := by decide +kernel
theorem dX11_hang_4 : decode cX11_hang 4 = .ok (.iload_n 1, 1) := by decide +kernel
theorem dX11_hang_5 : decode cX11_hang 5 = .ok (.invokevirtual 137, 3) := by decide +kernel
theorem dX11_hang_8 : decode cX11_hang 8 = .ok (.ifCond .ne 6, 3) := by decide +kernel
theorem dX11_hang_11 : decode cX11_hang 11 = .ok (.bipush (-2), 2) := by decide +kernel
theorem dX11_hang_13 : decode cX11_hang 13 = .ok (.ireturn, 1) := by decide +kernel
theorem dX11_hang_14 : decode cX11_hang 14 = .ok (.aload_n 0, 1) := by decide +kernel
theorem dX11_hang_15 : decode cX11_hang 15 = .ok (.getfield 58, 3) := by decide +kernel
theorem dX11_hang_18 : decode cX11_hang 18 = .ok (.aload_n 0, 1) := by decide +kernel
theorem dX11_hang_19 : decode cX11_hang 19 = .ok (.getfield 19, 3) := by decide +kernel
theorem dX11_hang_22 : decode cX11_hang 22 = .ok (.invokevirtual 280, 3) := by decide +kernel
theorem dX11_hang_25 : decode cX11_hang 25 = .ok (.aload_n 0, 1) := by decide +kernel
theorem dX11_hang_26 : decode cX11_hang 26 = .ok (.getfield 58, 3) := by decide +kernel
theorem dX11_hang_29 : decode cX11_hang 29 = .ok (.iload_n 1, 1) := by decide +kernel
theorem dX11_hang_30 : decode cX11_hang 30 = .ok (.invokevirtual 286, 3) := by decide +kernel
theorem dX11_hang_33 : decode cX11_hang 33 = .ok (.ireturn, 1) := by decide +kernel
theorem dX11_parts_0 : decode cX11_parts 0 = .ok (.aload_n 0, 1) := by decide +kernel
theorem dX11_parts_1 : decode cX11_parts 1 = .ok (.getfield 19, 3) := by decide +kernel
theorem dX11_parts_4 : decode cX11_parts 4 = .ok (.invokevirtual 169, 3) := by decide +kernel
theorem dX11_parts_7 : decode cX11_parts 7 = .ok (.ifCond .eq 6, 3) := by decide +kernel
theorem dX11_parts_10 : decode cX11_parts 10 = .ok (.bipush (-2), 2) := by decide +kernel
theorem dX11_parts_12 : decode cX11_parts 12 = .ok (.ireturn, 1) := by decide +kernel
theorem dX11_parts_13 : decode cX11_parts 13 = .ok (.aload_n 0, 1) := by decide +kernel
theorem dX11_parts_14 : decode cX11_parts 14 = .ok (.getfield 58, 3) := by decide +kernel
theorem dX11_parts_17 : decode cX11_parts 17 = .ok (.aload_n 0, 1) := by decide +kernel
theorem dX11_parts_18 : decode cX11_parts 18 = .ok (.getfield 19, 3) := by decide +kernel
theorem dX11_parts_21 : decode cX11_parts 21 = .ok (.invokevirtual 280, 3) := by decide +kernel
theorem dX11_parts_24 : decode cX11_parts 24 = .ok (.aload_n 0, 1) := by decide +kernel
theorem dX11_parts_25 : decode cX11_parts 25 = .ok (.getfield 58, 3) := by decide +kernel
theorem dX11_parts_28 : decode cX11_parts 28 = .ok (.invokevirtual 287, 3) := by decide +kernel
theorem dX11_parts_31 : decode cX11_parts 31 = .ok (.ireturn, 1) := by decide +kernel
theorem dX11_best_0 : decode cX11_best 0 = .ok (.aload_n 0, 1) := by decide +kernel
theorem dX11_best_1 : decode cX11_best 1 = .ok (.getfield 19, 3) := by decide +kernel
theorem dX11_best_4 : decode cX11_best 4 = .ok (.invokevirtual 169, 3) := by decide +kernel
theorem dX11_best_7 : decode cX11_best 7 = .ok (.ifCond .eq 6, 3) := by decide +kernel
theorem dX11_best_10 : decode cX11_best 10 = .ok (.bipush (-2), 2) := by decide +kernel
theorem dX11_best_12 : decode cX11_best 12 = .ok (.ireturn, 1) := by decide +kernel
theorem dX11_best_13 : decode cX11_best 13 = .ok (.aload_n 0, 1) := by decide +kernel
theorem dX11_best_14 : decode cX11_best 14 = .ok (.getfield 65, 3) := by decide +kernel
theorem dX11_best_17 : decode cX11_best 17 = .ok (.aload_n 0, 1) := by decide +kernel
theorem dX11_best_18 : decode cX11_best 18 = .ok (.getfield 19, 3) := by decide +kernel
theorem dX11_best_21 : decode cX11_best 21 = .ok (.invokevirtual 290, 3) := by decide +kernel
theorem dX11_best_24 : decode cX11_best 24 = .ok (.aload_n 0, 1) := by decide +kernel
theorem dX11_best_25 : decode cX11_best 25 = .ok (.getfield 65, 3) := by decide +kernel
theorem dX11_best_28 : decode cX11_best 28 = .ok (.getfield 291, 3) := by decide +kernel
theorem dX11_best_31 : decode cX11_best 31 = .ok (.iconst 0, 1) := by decide +kernel
theorem dX11_best_32 : decode cX11_best 32 = .ok (.iaload, 1) := by decide +kernel
theorem dX11_best_33 : decode cX11_best 33 = .ok (.ireturn, 1) := by decide +kernel
theorem dX11_bests_0 : decode cX11_bests 0 = .ok (.aload_n 0, 1) := by decide +kernel
theorem dX11_bests_1 : decode cX11_bests 1 = .ok (.getfield 19, 3) := by decide +kernel
theorem dX11_bests_4 : decode cX11_bests 4 = .ok (.iload_n 1, 1) := by decide +kernel
theorem dX11_bests_5 : decode cX11_bests 5 = .ok (.invokevirtual 137, 3) := by decide +kernel
theorem dX11_bests_8 : decode cX11_bests 8 = .ok (.ifCond .ne 6, 3) := by decide +kernel
theorem dX11_bests_11 : decode cX11_bests 11 = .ok (.bipush (-2), 2) := by decide +kernel
theorem dX11_bests_13 : decode cX11_bests 13 = .ok (.ireturn, 1) := by decide +kernel
theorem dX11_bests_14 : decode cX11_bests 14 = .ok (.aload_n 0, 1) := by decide +kernel
theorem dX11_bests_15 : decode cX11_bests 15 = .ok (.getfield 65, 3) := by decide +kernel
theorem dX11_bests_18 : decode cX11_bests 18 = .ok (.aload_n 0, 1) := by decide +kernel
theorem dX11_bests_19 : decode cX11_bests 19 = .ok (.getfield 19, 3) := by decide +kernel
theorem dX11_bests_22 : decode cX11_bests 22 = .ok (.invokevirtual 290, 3) := by decide +kernel
theorem dX11_bests_25 : decode cX11_bests 25 = .ok (.aload_n 0, 1) := by decide +kernel
theorem dX11_bests_26 : decode cX11_bests 26 = .ok (.getfield 65, 3) := by decide +kernel
theorem dX11_bests_29 : decode cX11_bests 29 = .ok (.iload_n 1, 1) := by decide +kernel
theorem dX11_bests_30 : decode cX11_bests 30 = .ok (.invokevirtual 294, 3) := by decide +kernel
theorem dX11_bests_33 : decode cX11_bests 33 = .ok (.ireturn, 1) := by decide +kernel
theorem dX11_ways_0 : decode cX11_ways 0 = .ok (.aload_n 0, 1) := by decide +kernel
theorem dX11_ways_1 : decode cX11_ways 1 = .ok (.getfield 19, 3) := by decide +kernel
theorem dX11_ways_4 : decode cX11_ways 4 = .ok (.invokevirtual 169, 3) := by decide +kernel
theorem dX11_ways_7 : decode cX11_ways 7 = .ok (.ifCond .eq 6, 3) := by decide +kernel
theorem dX11_ways_10 : decode cX11_ways 10 = .ok (.bipush (-2), 2) := by decide +kernel
theorem dX11_ways_12 : decode cX11_ways 12 = .ok (.ireturn, 1) := by decide +kernel
theorem dX11_ways_13 : decode cX11_ways 13 = .ok (.aload_n 0, 1) := by decide +kernel
theorem dX11_ways_14 : decode cX11_ways 14 = .ok (.getfield 65, 3) := by decide +kernel
theorem dX11_ways_17 : decode cX11_ways 17 = .ok (.aload_n 0, 1) := by decide +kernel
theorem dX11_ways_18 : decode cX11_ways 18 = .ok (.getfield 19, 3) := by decide +kernel
theorem dX11_ways_21 : decode cX11_ways 21 = .ok (.invokevirtual 290, 3) := by decide +kernel
theorem dX11_ways_24 : decode cX11_ways 24 = .ok (.aload_n 0, 1) := by decide +kernel
theorem dX11_ways_25 : decode cX11_ways 25 = .ok (.getfield 65, 3) := by decide +kernel
theorem dX11_ways_28 : decode cX11_ways 28 = .ok (.getfield 295, 3) := by decide +kernel
theorem dX11_ways_31 : decode cX11_ways 31 = .ok (.iconst 0, 1) := by decide +kernel
theorem dX11_ways_32 : decode cX11_ways 32 = .ok (.iaload, 1) := by decide +kernel
theorem dX11_ways_33 : decode cX11_ways 33 = .ok (.ireturn, 1) := by decide +kernel
theorem dX11_suit_0 : decode cX11_suit 0 = .ok (.aload_n 0, 1) := by decide +kernel
theorem dX11_suit_1 : decode cX11_suit 1 = .ok (.getfield 19, 3) := by decide +kernel
theorem dX11_suit_4 : decode cX11_suit 4 = .ok (.invokevirtual 169, 3) := by decide +kernel
theorem dX11_suit_7 : decode cX11_suit 7 = .ok (.ifCond .eq 8, 3) := by decide +kernel
theorem dX11_suit_10 : decode cX11_suit 10 = .ok (.bipush (-2), 2) := by decide +kernel
theorem dX11_suit_12 : decode cX11_suit 12 = .ok (.goto 10, 3) := by decide +kernel
theorem dX11_suit_15 : decode cX11_suit 15 = .ok (.aload_n 0, 1) := by decide +kernel
theorem dX11_suit_16 : decode cX11_suit 16 = .ok (.getfield 19, 3) := by decide +kernel
theorem dX11_suit_19 : decode cX11_suit 19 = .ok (.invokevirtual 298, 3) := by decide +kernel
theorem dX11_suit_22 : decode cX11_suit 22 = .ok (.ireturn, 1) := by decide +kernel
theorem dX11_trade_0 : decode cX11_trade 0 = .ok (.aload_n 0, 1) := by decide +kernel
theorem dX11_trade_1 : decode cX11_trade 1 = .ok (.getfield 19, 3) := by decide +kernel
theorem dX11_trade_4 : decode cX11_trade 4 = .ok (.invokevirtual 169, 3) := by decide +kernel
theorem dX11_trade_7 : decode cX11_trade 7 = .ok (.ifCond .eq 6, 3) := by decide +kernel
theorem dX11_trade_10 : decode cX11_trade 10 = .ok (.bipush (-2), 2) := by decide +kernel
theorem dX11_trade_12 : decode cX11_trade 12 = .ok (.ireturn, 1) := by decide +kernel
theorem dX11_trade_13 : decode cX11_trade 13 = .ok (.iconst (-1), 1) := by decide +kernel
theorem dX11_trade_14 : decode cX11_trade 14 = .ok (.istore_n 1, 1) := by decide +kernel
theorem dX11_trade_15 : decode cX11_trade 15 = .ok (.iconst 0, 1) := by decide +kernel
theorem dX11_trade_16 : decode cX11_trade 16 = .ok (.istore_n 2, 1) := by decide +kernel
theorem dX11_trade_17 : decode cX11_trade 17 = .ok (.iconst 0, 1) := by decide +kernel
theorem dX11_trade_18 : decode cX11_trade 18 = .ok (.istore_n 3, 1) := by decide +kernel
theorem dX11_trade_19 : decode cX11_trade 19 = .ok (.iload_n 3, 1) := by decide +kernel
theorem dX11_trade_20 : decode cX11_trade 20 = .ok (.aload_n 0, 1) := by decide +kernel
theorem dX11_trade_21 : decode cX11_trade 21 = .ok (.getfield 19, 3) := by decide +kernel
theorem dX11_trade_24 : decode cX11_trade 24 = .ok (.getfield 172, 3) := by decide +kernel
theorem dX11_trade_27 : decode cX11_trade 27 = .ok (.if_icmp .ge 61, 3) := by decide +kernel
theorem dX11_trade_30 : decode cX11_trade 30 = .ok (.iload_n 3, 1) := by decide +kernel
theorem dX11_trade_31 : decode cX11_trade 31 = .ok (.iconst 1, 1) := by decide +kernel
theorem dX11_trade_32 : decode cX11_trade 32 = .ok (.iadd, 1) := by decide +kernel
theorem dX11_trade_33 : decode cX11_trade 33 = .ok (.istore 4, 2) := by decide +kernel
theorem dX11_trade_35 : decode cX11_trade 35 = .ok (.iload 4, 2) := by decide +kernel
theorem dX11_trade_37 : decode cX11_trade 37 = .ok (.aload_n 0, 1) := by decide +kernel
theorem dX11_trade_38 : decode cX11_trade 38 = .ok (.getfield 19, 3) := by decide +kernel
theorem dX11_trade_41 : decode cX11_trade 41 = .ok (.getfield 172, 3) := by decide +kernel
theorem dX11_trade_44 : decode cX11_trade 44 = .ok (.if_icmp .ge 38, 3) := by decide +kernel
theorem dX11_trade_47 : decode cX11_trade 47 = .ok (.aload_n 0, 1) := by decide +kernel
theorem dX11_trade_48 : decode cX11_trade 48 = .ok (.getfield 19, 3) := by decide +kernel
theorem dX11_trade_51 : decode cX11_trade 51 = .ok (.iload_n 3, 1) := by decide +kernel
theorem dX11_trade_52 : decode cX11_trade 52 = .ok (.iload 4, 2) := by decide +kernel
theorem dX11_trade_54 : decode cX11_trade 54 = .ok (.invokevirtual 301, 3) := by decide +kernel
theorem dX11_trade_57 : decode cX11_trade 57 = .ok (.istore 5, 2) := by decide +kernel
theorem dX11_trade_59 : decode cX11_trade 59 = .ok (.iload 5, 2) := by decide +kernel
theorem dX11_trade_61 : decode cX11_trade 61 = .ok (.iload_n 2, 1) := by decide +kernel
theorem dX11_trade_62 : decode cX11_trade 62 = .ok (.if_icmp .le 14, 3) := by decide +kernel
theorem dX11_trade_65 : decode cX11_trade 65 = .ok (.iload 5, 2) := by decide +kernel
theorem dX11_trade_67 : decode cX11_trade 67 = .ok (.istore_n 2, 1) := by decide +kernel
theorem dX11_trade_68 : decode cX11_trade 68 = .ok (.bipush 10, 2) := by decide +kernel
theorem dX11_trade_70 : decode cX11_trade 70 = .ok (.iload_n 3, 1) := by decide +kernel
theorem dX11_trade_71 : decode cX11_trade 71 = .ok (.imul, 1) := by decide +kernel
theorem dX11_trade_72 : decode cX11_trade 72 = .ok (.iload 4, 2) := by decide +kernel
theorem dX11_trade_74 : decode cX11_trade 74 = .ok (.iadd, 1) := by decide +kernel
theorem dX11_trade_75 : decode cX11_trade 75 = .ok (.istore_n 1, 1) := by decide +kernel
theorem dX11_trade_76 : decode cX11_trade 76 = .ok (.iinc 4 1, 3) := by decide +kernel
theorem dX11_trade_79 : decode cX11_trade 79 = .ok (.goto (-44), 3) := by decide +kernel
theorem dX11_trade_82 : decode cX11_trade 82 = .ok (.iinc 3 1, 3) := by decide +kernel
theorem dX11_trade_85 : decode cX11_trade 85 = .ok (.goto (-66), 3) := by decide +kernel
theorem dX11_trade_88 : decode cX11_trade 88 = .ok (.iload_n 1, 1) := by decide +kernel
theorem dX11_trade_89 : decode cX11_trade 89 = .ok (.ireturn, 1) := by decide +kernel
theorem dX11_wins_0 : decode cX11_wins 0 = .ok (.aload_n 0, 1) := by decide +kernel
theorem dX11_wins_1 : decode cX11_wins 1 = .ok (.getfield 19, 3) := by decide +kernel
theorem dX11_wins_4 : decode cX11_wins 4 = .ok (.iload_n 1, 1) := by decide +kernel
theorem dX11_wins_5 : decode cX11_wins 5 = .ok (.invokevirtual 137, 3) := by decide +kernel
theorem dX11_wins_8 : decode cX11_wins 8 = .ok (.ifCond .ne 6, 3) := by decide +kernel
theorem dX11_wins_11 : decode cX11_wins 11 = .ok (.bipush (-2), 2) := by decide +kernel
theorem dX11_wins_13 : decode cX11_wins 13 = .ok (.ireturn, 1) := by decide +kernel
theorem dX11_wins_14 : decode cX11_wins 14 = .ok (.aload_n 0, 1) := by decide +kernel
theorem dX11_wins_15 : decode cX11_wins 15 = .ok (.getfield 72, 3) := by decide +kernel
theorem dX11_wins_18 : decode cX11_wins 18 = .ok (.aload_n 0, 1) := by decide +kernel
theorem dX11_wins_19 : decode cX11_wins 19 = .ok (.getfield 19, 3) := by decide +kernel
theorem dX11_wins_22 : decode cX11_wins 22 = .ok (.invokevirtual 304, 3) := by decide +kernel
theorem dX11_wins_25 : decode cX11_wins 25 = .ok (.aload_n 0, 1) := by decide +kernel
theorem dX11_wins_26 : decode cX11_wins 26 = .ok (.getfield 72, 3) := by decide +kernel
theorem dX11_wins_29 : decode cX11_wins 29 = .ok (.iconst 1, 1) := by decide +kernel
theorem dX11_wins_30 : decode cX11_wins 30 = .ok (.iload_n 1, 1) := by decide +kernel
theorem dX11_wins_31 : decode cX11_wins 31 = .ok (.ishl, 1) := by decide +kernel
theorem dX11_wins_32 : decode cX11_wins 32 = .ok (.iload_n 1, 1) := by decide +kernel
theorem dX11_wins_33 : decode cX11_wins 33 = .ok (.invokevirtual 305, 3) := by decide +kernel
theorem dX11_wins_36 : decode cX11_wins 36 = .ok (.ifCond .eq 7, 3) := by decide +kernel
theorem dX11_wins_39 : decode cX11_wins 39 = .ok (.iconst 1, 1) := by decide +kernel
theorem dX11_wins_40 : decode cX11_wins 40 = .ok (.goto 4, 3) := by decide +kernel
theorem dX11_wins_43 : decode cX11_wins 43 = .ok (.iconst 0, 1) := by decide +kernel
theorem dX11_wins_44 : decode cX11_wins 44 = .ok (.ireturn, 1) := by decide +kernel
theorem dX11_takes_0 : decode cX11_takes 0 = .ok (.aload_n 0, 1) := by decide +kernel
theorem dX11_takes_1 : decode cX11_takes 1 = .ok (.getfield 19, 3) := by decide +kernel
theorem dX11_takes_4 : decode cX11_takes 4 = .ok (.iload_n 1, 1) := by decide +kernel
theorem dX11_takes_5 : decode cX11_takes 5 = .ok (.invokevirtual 137, 3) := by decide +kernel
theorem dX11_takes_8 : decode cX11_takes 8 = .ok (.ifCond .ne 6, 3) := by decide +kernel
theorem dX11_takes_11 : decode cX11_takes 11 = .ok (.bipush (-2), 2) := by decide +kernel
theorem dX11_takes_13 : decode cX11_takes 13 = .ok (.ireturn, 1) := by decide +kernel
theorem dX11_takes_14 : decode cX11_takes 14 = .ok (.aload_n 0, 1) := by decide +kernel
theorem dX11_takes_15 : decode cX11_takes 15 = .ok (.getfield 72, 3) := by decide +kernel
theorem dX11_takes_18 : decode cX11_takes 18 = .ok (.aload_n 0, 1) := by decide +kernel
theorem dX11_takes_19 : decode cX11_takes 19 = .ok (.getfield 19, 3) := by decide +kernel
theorem dX11_takes_22 : decode cX11_takes 22 = .ok (.invokevirtual 304, 3) := by decide +kernel
theorem dX11_takes_25 : decode cX11_takes 25 = .ok (.aload_n 0, 1) := by decide +kernel
theorem dX11_takes_26 : decode cX11_takes 26 = .ok (.getfield 72, 3) := by decide +kernel
theorem dX11_takes_29 : decode cX11_takes 29 = .ok (.iload_n 1, 1) := by decide +kernel
theorem dX11_takes_30 : decode cX11_takes 30 = .ok (.invokevirtual 308, 3) := by decide +kernel
theorem dX11_takes_33 : decode cX11_takes 33 = .ok (.ireturn, 1) := by decide +kernel
theorem dX11_chance_0 : decode cX11_chance 0 = .ok (.aload_n 0, 1) := by decide +kernel
theorem dX11_chance_1 : decode cX11_chance 1 = .ok (.getfield 19, 3) := by decide +kernel
theorem dX11_chance_4 : decode cX11_chance 4 = .ok (.iload_n 1, 1) := by decide +kernel
theorem dX11_chance_5 : decode cX11_chance 5 = .ok (.invokevirtual 137, 3) := by decide +kernel
theorem dX11_chance_8 : decode cX11_chance 8 = .ok (.ifCond .eq 22, 3) := by decide +kernel
theorem dX11_chance_11 : decode cX11_chance 11 = .ok (.iload_n 2, 1) := by decide +kernel
theorem dX11_chance_12 : decode cX11_chance 12 = .ok (.iconst 0, 1) := by decide +kernel
theorem dX11_chance_13 : decode cX11_chance 13 = .ok (.bipush 12, 2) := by decide +kernel
theorem dX11_chance_15 : decode cX11_chance 15 = .ok (.invokestatic 156, 3) := by decide +kernel
theorem dX11_chance_18 : decode cX11_chance 18 = .ok (.ifCond .eq 12, 3) := by decide +kernel
theorem dX11_chance_21 : decode cX11_chance 21 = .ok (.iload_n 3, 1) := by decide +kernel
theorem dX11_chance_22 : decode cX11_chance 22 = .ok (.iconst 0, 1) := by decide +kernel
theorem dX11_chance_23 : decode cX11_chance 23 = .ok (.iconst 1, 1) := by decide +kernel
theorem dX11_chance_24 : decode cX11_chance 24 = .ok (.invokestatic 156, 3) := by decide +kernel
theorem dX11_chance_27 : decode cX11_chance 27 = .ok (.ifCond .ne 7, 3) := by decide +kernel
theorem dX11_chance_30 : decode cX11_chance 30 = .ok (.ldc2_w 311, 3) := by decide +kernel
theorem dX11_chance_33 : decode cX11_chance 33 = .ok (.lreturn, 1) := by decide +kernel
theorem dX11_chance_34 : decode cX11_chance 34 = .ok (.aload_n 0, 1) := by decide +kernel
theorem dX11_chance_35 : decode cX11_chance 35 = .ok (.getfield 79, 3) := by decide +kernel
theorem dX11_chance_38 : decode cX11_chance 38 = .ok (.aload_n 0, 1) := by decide +kernel
theorem dX11_chance_39 : decode cX11_chance 39 = .ok (.getfield 19, 3) := by decide +kernel
theorem dX11_chance_42 : decode cX11_chance 42 = .ok (.iload_n 2, 1) := by decide +kernel
theorem dX11_chance_43 : decode cX11_chance 43 = .ok (.invokevirtual 313, 3) := by decide +kernel
theorem dX11_chance_46 : decode cX11_chance 46 = .ok (.aload_n 0, 1) := by decide +kernel
theorem dX11_chance_47 : decode cX11_chance 47 = .ok (.getfield 79, 3) := by decide +kernel
theorem dX11_chance_50 : decode cX11_chance 50 = .ok (.getfield 317, 3) := by decide +kernel
theorem dX11_chance_53 : decode cX11_chance 53 = .ok (.iload_n 1, 1) := by decide +kernel
theorem dX11_chance_54 : decode cX11_chance 54 = .ok (.laload, 1) := by decide +kernel
theorem dX11_chance_55 : decode cX11_chance 55 = .ok (.lstore 4, 2) := by decide +kernel
theorem dX11_chance_57 : decode cX11_chance 57 = .ok (.aload_n 0, 1) := by decide +kernel
theorem dX11_chance_58 : decode cX11_chance 58 = .ok (.getfield 79, 3) := by decide +kernel
theorem dX11_chance_61 : decode cX11_chance 61 = .ok (.getfield 321, 3) := by decide +kernel
theorem dX11_chance_64 : decode cX11_chance 64 = .ok (.lload 4, 2) := by decide +kernel
theorem dX11_chance_66 : decode cX11_chance 66 = .ok (.invokestatic 325, 3) := by decide +kernel
theorem dX11_chance_69 : decode cX11_chance 69 = .ok (.lstore 6, 2) := by decide +kernel
theorem dX11_chance_71 : decode cX11_chance 71 = .ok (.lload 6, 2) := by decide +kernel
theorem dX11_chance_73 : decode cX11_chance 73 = .ok (.lconst 0, 1) := by decide +kernel
theorem dX11_chance_74 : decode cX11_chance 74 = .ok (.lcmp, 1) := by decide +kernel
theorem dX11_chance_75 : decode cX11_chance 75 = .ok (.ifCond .gt 7, 3) := by decide +kernel
theorem dX11_chance_78 : decode cX11_chance 78 = .ok (.ldc2_w 311, 3) := by decide +kernel
theorem dX11_chance_81 : decode cX11_chance 81 = .ok (.lreturn, 1) := by decide +kernel
theorem dX11_chance_82 : decode cX11_chance 82 = .ok (.iload_n 3, 1) := by decide +kernel
theorem dX11_chance_83 : decode cX11_chance 83 = .ok (.ifCond .ne 8, 3) := by decide +kernel
theorem dX11_chance_86 : decode cX11_chance 86 = .ok (.lload 4, 2) := by decide +kernel
theorem dX11_chance_88 : decode cX11_chance 88 = .ok (.goto 10, 3) := by decide +kernel
theorem dX11_chance_91 : decode cX11_chance 91 = .ok (.aload_n 0, 1) := by decide +kernel
theorem dX11_chance_92 : decode cX11_chance 92 = .ok (.getfield 79, 3) := by decide +kernel
theorem dX11_chance_95 : decode cX11_chance 95 = .ok (.getfield 321, 3) := by decide +kernel
theorem dX11_chance_98 : decode cX11_chance 98 = .ok (.lload 6, 2) := by decide +kernel
theorem dX11_chance_100 : decode cX11_chance 100 = .ok (.ldiv, 1) := by decide +kernel
theorem dX11_chance_101 : decode cX11_chance 101 = .ok (.lreturn, 1) := by decide +kernel
theorem dX11_likely_0 : decode cX11_likely 0 = .ok (.aload_n 0, 1) := by decide +kernel
theorem dX11_likely_1 : decode cX11_likely 1 = .ok (.getfield 19, 3) := by decide +kernel
theorem dX11_likely_4 : decode cX11_likely 4 = .ok (.invokevirtual 169, 3) := by decide +kernel
theorem dX11_likely_7 : decode cX11_likely 7 = .ok (.ifCond .ne 13, 3) := by decide +kernel
theorem dX11_likely_10 : decode cX11_likely 10 = .ok (.iload_n 1, 1) := by decide +kernel
theorem dX11_likely_11 : decode cX11_likely 11 = .ok (.iconst 0, 1) := by decide +kernel
theorem dX11_likely_12 : decode cX11_likely 12 = .ok (.bipush 12, 2) := by decide +kernel
theorem dX11_likely_14 : decode cX11_likely 14 = .ok (.invokestatic 156, 3) := by decide +kernel
theorem dX11_likely_17 : decode cX11_likely 17 = .ok (.ifCond .ne 6, 3) := by decide +kernel
theorem dX11_likely_20 : decode cX11_likely 20 = .ok (.bipush (-2), 2) := by decide +kernel
theorem dX11_likely_22 : decode cX11_likely 22 = .ok (.ireturn, 1) := by decide +kernel
theorem dX11_likely_23 : decode cX11_likely 23 = .ok (.aload_n 0, 1) := by decide +kernel
theorem dX11_likely_24 : decode cX11_likely 24 = .ok (.getfield 79, 3) := by decide +kernel
theorem dX11_likely_27 : decode cX11_likely 27 = .ok (.aload_n 0, 1) := by decide +kernel
theorem dX11_likely_28 : decode cX11_likely 28 = .ok (.getfield 19, 3) := by decide +kernel
theorem dX11_likely_31 : decode cX11_likely 31 = .ok (.iload_n 1, 1) := by decide +kernel
theorem dX11_likely_32 : decode cX11_likely 32 = .ok (.invokevirtual 313, 3) := by decide +kernel
theorem dX11_likely_35 : decode cX11_likely 35 = .ok (.iconst 0, 1) := by decide +kernel
theorem dX11_likely_36 : decode cX11_likely 36 = .ok (.istore_n 2, 1) := by decide +kernel
theorem dX11_likely_37 : decode cX11_likely 37 = .ok (.iconst 1, 1) := by decide +kernel
theorem dX11_likely_38 : decode cX11_likely 38 = .ok (.istore_n 3, 1) := by decide +kernel
theorem dX11_likely_39 : decode cX11_likely 39 = .ok (.iload_n 3, 1) := by decide +kernel
theorem dX11_likely_40 : decode cX11_likely 40 = .ok (.aload_n 0, 1) := by decide +kernel
theorem dX11_likely_41 : decode cX11_likely 41 = .ok (.getfield 19, 3) := by decide +kernel
theorem dX11_likely_44 : decode cX11_likely 44 = .ok (.getfield 172, 3) := by decide +kernel
theorem dX11_likely_47 : decode cX11_likely 47 = .ok (.if_icmp .ge 33, 3) := by decide +kernel
theorem dX11_likely_50 : decode cX11_likely 50 = .ok (.aload_n 0, 1) := by decide +kernel
theorem dX11_likely_51 : decode cX11_likely 51 = .ok (.getfield 79, 3) := by decide +kernel
theorem dX11_likely_54 : decode cX11_likely 54 = .ok (.getfield 317, 3) := by decide +kernel
theorem dX11_likely_57 : decode cX11_likely 57 = .ok (.iload_n 3, 1) := by decide +kernel
theorem dX11_likely_58 : decode cX11_likely 58 = .ok (.laload, 1) := by decide +kernel
theorem dX11_likely_59 : decode cX11_likely 59 = .ok (.aload_n 0, 1) := by decide +kernel
theorem dX11_likely_60 : decode cX11_likely 60 = .ok (.getfield 79, 3) := by decide +kernel
theorem dX11_likely_63 : decode cX11_likely 63 = .ok (.getfield 317, 3) := by decide +kernel
theorem dX11_likely_66 : decode cX11_likely 66 = .ok (.iload_n 2, 1) := by decide +kernel
theorem dX11_likely_67 : decode cX11_likely 67 = .ok (.laload, 1) := by decide +kernel
theorem dX11_likely_68 : decode cX11_likely 68 = .ok (.lcmp, 1) := by decide +kernel
theorem dX11_likely_69 : decode cX11_likely 69 = .ok (.ifCond .le 5, 3) := by decide +kernel
theorem dX11_likely_72 : decode cX11_likely 72 = .ok (.iload_n 3, 1) := by decide +kernel
theorem dX11_likely_73 : decode cX11_likely 73 = .ok (.istore_n 2, 1) := by decide +kernel
theorem dX11_likely_74 : decode cX11_likely 74 = .ok (.iinc 3 1, 3) := by decide +kernel
theorem dX11_likely_77 : decode cX11_likely 77 = .ok (.goto (-38), 3) := by decide +kernel
theorem dX11_likely_80 : decode cX11_likely 80 = .ok (.iload_n 2, 1) := by decide +kernel
theorem dX11_likely_81 : decode cX11_likely 81 = .ok (.ireturn, 1) := by decide +kernel
theorem dX11_swap_0 : decode cX11_swap 0 = .ok (.aload_n 0, 1) := by decide +kernel
theorem dX11_swap_1 : decode cX11_swap 1 = .ok (.getfield 19, 3) := by decide +kernel
theorem dX11_swap_4 : decode cX11_swap 4 = .ok (.iload_n 1, 1) := by decide +kernel
theorem dX11_swap_5 : decode cX11_swap 5 = .ok (.invokevirtual 137, 3) := by decide +kernel
theorem dX11_swap_8 : decode cX11_swap 8 = .ok (.ifCond .eq 19, 3) := by decide +kernel
theorem dX11_swap_11 : decode cX11_swap 11 = .ok (.aload_n 0, 1) := by decide +kernel
theorem dX11_swap_12 : decode cX11_swap 12 = .ok (.getfield 19, 3) := by decide +kernel
theorem dX11_swap_15 : decode cX11_swap 15 = .ok (.iload_n 2, 1) := by decide +kernel
theorem dX11_swap_16 : decode cX11_swap 16 = .ok (.invokevirtual 137, 3) := by decide +kernel
theorem dX11_swap_19 : decode cX11_swap 19 = .ok (.ifCond .eq 8, 3) := by decide +kernel
theorem dX11_swap_22 : decode cX11_swap 22 = .ok (.iload_n 1, 1) := by decide +kernel
theorem dX11_swap_23 : decode cX11_swap 23 = .ok (.iload_n 2, 1) := by decide +kernel
theorem dX11_swap_24 : decode cX11_swap 24 = .ok (.if_icmp .ne 6, 3) := by decide +kernel
theorem dX11_swap_27 : decode cX11_swap 27 = .ok (.bipush (-2), 2) := by decide +kernel
theorem dX11_swap_29 : decode cX11_swap 29 = .ok (.ireturn, 1) := by decide +kernel
theorem dX11_swap_30 : decode cX11_swap 30 = .ok (.aload_n 0, 1) := by decide +kernel
theorem dX11_swap_31 : decode cX11_swap 31 = .ok (.getfield 19, 3) := by decide +kernel
theorem dX11_swap_34 : decode cX11_swap 34 = .ok (.invokevirtual 329, 3) := by decide +kernel
theorem dX11_swap_37 : decode cX11_swap 37 = .ok (.ifCond .ne 6, 3) := by decide +kernel
theorem dX11_swap_40 : decode cX11_swap 40 = .ok (.bipush (-5), 2) := by decide +kernel
theorem dX11_swap_42 : decode cX11_swap 42 = .ok (.ireturn, 1) := by decide +kernel
theorem dX11_swap_43 : decode cX11_swap 43 = .ok (.aload_n 0, 1) := by decide +kernel
theorem dX11_swap_44 : decode cX11_swap 44 = .ok (.getfield 19, 3) := by decide +kernel
theorem dX11_swap_47 : decode cX11_swap 47 = .ok (.iload_n 1, 1) := by decide +kernel
theorem dX11_swap_48 : decode cX11_swap 48 = .ok (.iload_n 2, 1) := by decide +kernel
theorem dX11_swap_49 : decode cX11_swap 49 = .ok (.invokevirtual 332, 3) := by decide +kernel
theorem dX11_swap_52 : decode cX11_swap 52 = .ok (.aload_n 0, 1) := by decide +kernel
theorem dX11_swap_53 : decode cX11_swap 53 = .ok (.getfield 19, 3) := by decide +kernel
theorem dX11_swap_56 : decode cX11_swap 56 = .ok (.getfield 148, 3) := by decide +kernel
theorem dX11_swap_59 : decode cX11_swap 59 = .ok (.aload_n 0, 1) := by decide +kernel
theorem dX11_swap_60 : decode cX11_swap 60 = .ok (.getfield 19, 3) := by decide +kernel
theorem dX11_swap_63 : decode cX11_swap 63 = .ok (.getfield 172, 3) := by decide +kernel
theorem dX11_swap_66 : decode cX11_swap 66 = .ok (.invokestatic 175, 3) := by decide +kernel
theorem dX11_swap_69 : decode cX11_swap 69 = .ok (.ireturn, 1) := by decide +kernel
theorem dX11_night_0 : decode cX11_night 0 = .ok (.aload_n 0, 1) := by decide +kernel
theorem dX11_night_1 : decode cX11_night 1 = .ok (.getfield 19, 3) := by decide +kernel
theorem dX11_night_4 : decode cX11_night 4 = .ok (.invokevirtual 169, 3) := by decide +kernel
theorem dX11_night_7 : decode cX11_night 7 = .ok (.ifCond .eq 6, 3) := by decide +kernel
theorem dX11_night_10 : decode cX11_night 10 = .ok (.bipush (-2), 2) := by decide +kernel
theorem dX11_night_12 : decode cX11_night 12 = .ok (.ireturn, 1) := by decide +kernel
theorem dX11_night_13 : decode cX11_night 13 = .ok (.aload_n 0, 1) := by decide +kernel
theorem dX11_night_14 : decode cX11_night 14 = .ok (.getfield 19, 3) := by decide +kernel
theorem dX11_night_17 : decode cX11_night 17 = .ok (.invokevirtual 329, 3) := by decide +kernel
theorem dX11_night_20 : decode cX11_night 20 = .ok (.ifCond .ne 6, 3) := by decide +kernel
theorem dX11_night_23 : decode cX11_night 23 = .ok (.bipush (-5), 2) := by decide +kernel
theorem dX11_night_25 : decode cX11_night 25 = .ok (.ireturn, 1) := by decide +kernel
theorem dX11_night_26 : decode cX11_night 26 = .ok (.aload_n 0, 1) := by decide +kernel
theorem dX11_night_27 : decode cX11_night 27 = .ok (.getfield 19, 3) := by decide +kernel
theorem dX11_night_30 : decode cX11_night 30 = .ok (.invokevirtual 336, 3) := by decide +kernel
theorem dX11_night_33 : decode cX11_night 33 = .ok (.aload_n 0, 1) := by decide +kernel
theorem dX11_night_34 : decode cX11_night 34 = .ok (.getfield 19, 3) := by decide +kernel
theorem dX11_night_37 : decode cX11_night 37 = .ok (.getfield 148, 3) := by decide +kernel
theorem dX11_night_40 : decode cX11_night 40 = .ok (.aload_n 0, 1) := by decide +kernel
theorem dX11_night_41 : decode cX11_night 41 = .ok (.getfield 19, 3) := by decide +kernel
theorem dX11_night_44 : decode cX11_night 44 = .ok (.getfield 172, 3) := by decide +kernel
theorem dX11_night_47 : decode cX11_night 47 = .ok (.invokestatic 175, 3) := by decide +kernel
theorem dX11_night_50 : decode cX11_night 50 = .ok (.ireturn, 1) := by decide +kernel
theorem dX11_undo_0 : decode cX11_undo 0 = .ok (.aload_n 0, 1) := by decide +kernel
theorem dX11_undo_1 : decode cX11_undo 1 = .ok (.getfield 19, 3) := by decide +kernel
theorem dX11_undo_4 : decode cX11_undo 4 = .ok (.invokevirtual 169, 3) := by decide +kernel
theorem dX11_undo_7 : decode cX11_undo 7 = .ok (.ifCond .eq 6, 3) := by decide +kernel
theorem dX11_undo_10 : decode cX11_undo 10 = .ok (.bipush (-2), 2) := by decide +kernel
theorem dX11_undo_12 : decode cX11_undo 12 = .ok (.ireturn, 1) := by decide +kernel
theorem dX11_undo_13 : decode cX11_undo 13 = .ok (.aload_n 0, 1) := by decide +kernel
theorem dX11_undo_14 : decode cX11_undo 14 = .ok (.getfield 19, 3) := by decide +kernel
theorem dX11_undo_17 : decode cX11_undo 17 = .ok (.getfield 339, 3) := by decide +kernel
theorem dX11_undo_20 : decode cX11_undo 20 = .ok (.ifCond .ne 6, 3) := by decide +kernel
theorem dX11_undo_23 : decode cX11_undo 23 = .ok (.bipush (-5), 2) := by decide +kernel
theorem dX11_undo_25 : decode cX11_undo 25 = .ok (.ireturn, 1) := by decide +kernel
theorem dX11_undo_26 : decode cX11_undo 26 = .ok (.aload_n 0, 1) := by decide +kernel
theorem dX11_undo_27 : decode cX11_undo 27 = .ok (.getfield 19, 3) := by decide +kernel
theorem dX11_undo_30 : decode cX11_undo 30 = .ok (.invokevirtual 342, 3) := by decide +kernel
theorem dX11_undo_33 : decode cX11_undo 33 = .ok (.aload_n 0, 1) := by decide +kernel
theorem dX11_undo_34 : decode cX11_undo 34 = .ok (.getfield 19, 3) := by decide +kernel
theorem dX11_undo_37 : decode cX11_undo 37 = .ok (.getfield 339, 3) := by decide +kernel
theorem dX11_undo_40 : decode cX11_undo 40 = .ok (.ireturn, 1) := by decide +kernel
theorem dX11_anew_0 : decode cX11_anew 0 = .ok (.aload_n 0, 1) := by decide +kernel
theorem dX11_anew_1 : decode cX11_anew 1 = .ok (.getfield 19, 3) := by decide +kernel
theorem dX11_anew_4 : decode cX11_anew 4 = .ok (.invokevirtual 169, 3) := by decide +kernel
theorem dX11_anew_7 : decode cX11_anew 7 = .ok (.ifCond .eq 6, 3) := by decide +kernel
theorem dX11_anew_10 : decode cX11_anew 10 = .ok (.bipush (-2), 2) := by decide +kernel
theorem dX11_anew_12 : decode cX11_anew 12 = .ok (.ireturn, 1) := by decide +kernel
theorem dX11_anew_13 : decode cX11_anew 13 = .ok (.aload_n 0, 1) := by decide +kernel
theorem dX11_anew_14 : decode cX11_anew 14 = .ok (.getfield 19, 3) := by decide +kernel
theorem dX11_anew_17 : decode cX11_anew 17 = .ok (.getfield 339, 3) := by decide +kernel
theorem dX11_anew_20 : decode cX11_anew 20 = .ok (.istore_n 1, 1) := by decide +kernel
theorem dX11_anew_21 : decode cX11_anew 21 = .ok (.aload_n 0, 1) := by decide +kernel
theorem dX11_anew_22 : decode cX11_anew 22 = .ok (.getfield 19, 3) := by decide +kernel
theorem dX11_anew_25 : decode cX11_anew 25 = .ok (.invokevirtual 345, 3) := by decide +kernel
theorem dX11_anew_28 : decode cX11_anew 28 = .ok (.iload_n 1, 1) := by decide +kernel
theorem dX11_anew_29 : decode cX11_anew 29 = .ok (.ireturn, 1) := by decide +kernel
theorem dX11_nights_0 : decode cX11_nights 0 = .ok (.aload_n 0, 1) := by decide +kernel
theorem dX11_nights_1 : decode cX11_nights 1 = .ok (.getfield 19, 3) := by decide +kernel
theorem dX11_nights_4 : decode cX11_nights 4 = .ok (.invokevirtual 169, 3) := by decide +kernel
theorem dX11_nights_7 : decode cX11_nights 7 = .ok (.ifCond .eq 8, 3) := by decide +kernel
theorem dX11_nights_10 : decode cX11_nights 10 = .ok (.bipush (-2), 2) := by decide +kernel
theorem dX11_nights_12 : decode cX11_nights 12 = .ok (.goto 10, 3) := by decide +kernel
theorem dX11_nights_15 : decode cX11_nights 15 = .ok (.aload_n 0, 1) := by decide +kernel
theorem dX11_nights_16 : decode cX11_nights 16 = .ok (.getfield 19, 3) := by decide +kernel
theorem dX11_nights_19 : decode cX11_nights 19 = .ok (.getfield 198, 3) := by decide +kernel
theorem dX11_nights_22 : decode cX11_nights 22 = .ok (.ireturn, 1) := by decide +kernel
theorem dX11_drawn_0 : decode cX11_drawn 0 = .ok (.aload_n 0, 1) := by decide +kernel
theorem dX11_drawn_1 : decode cX11_drawn 1 = .ok (.getfield 19, 3) := by decide +kernel
theorem dX11_drawn_4 : decode cX11_drawn 4 = .ok (.iload_n 3, 1) := by decide +kernel
theorem dX11_drawn_5 : decode cX11_drawn 5 = .ok (.invokevirtual 137, 3) := by decide +kernel
theorem dX11_drawn_8 : decode cX11_drawn 8 = .ok (.ifCond .eq 24, 3) := by decide +kernel
theorem dX11_drawn_11 : decode cX11_drawn 11 = .ok (.iload_n 1, 1) := by decide +kernel
theorem dX11_drawn_12 : decode cX11_drawn 12 = .ok (.iconst 0, 1) := by decide +kernel
theorem dX11_drawn_13 : decode cX11_drawn 13 = .ok (.ldc_w 348, 3) := by decide +kernel
theorem dX11_drawn_16 : decode cX11_drawn 16 = .ok (.invokestatic 156, 3) := by decide +kernel
theorem dX11_drawn_19 : decode cX11_drawn 19 = .ok (.ifCond .eq 13, 3) := by decide +kernel
theorem dX11_drawn_22 : decode cX11_drawn 22 = .ok (.iload_n 2, 1) := by decide +kernel
theorem dX11_drawn_23 : decode cX11_drawn 23 = .ok (.iconst 0, 1) := by decide +kernel
theorem dX11_drawn_24 : decode cX11_drawn 24 = .ok (.bipush 60, 2) := by decide +kernel
theorem dX11_drawn_26 : decode cX11_drawn 26 = .ok (.invokestatic 156, 3) := by decide +kernel
theorem dX11_drawn_29 : decode cX11_drawn 29 = .ok (.ifCond .ne 6, 3) := by decide +kernel
theorem dX11_drawn_32 : decode cX11_drawn 32 = .ok (.bipush (-2), 2) := by decide +kernel
theorem dX11_drawn_34 : decode cX11_drawn 34 = .ok (.ireturn, 1) := by decide +kernel
theorem dX11_drawn_35 : decode cX11_drawn 35 = .ok (.iload_n 1, 1) := by decide +kernel
theorem dX11_drawn_36 : decode cX11_drawn 36 = .ok (.iload_n 2, 1) := by decide +kernel
theorem dX11_drawn_37 : decode cX11_drawn 37 = .ok (.aload_n 0, 1) := by decide +kernel
theorem dX11_drawn_38 : decode cX11_drawn 38 = .ok (.getfield 19, 3) := by decide +kernel
theorem dX11_drawn_41 : decode cX11_drawn 41 = .ok (.iload_n 3, 1) := by decide +kernel
theorem dX11_drawn_42 : decode cX11_drawn 42 = .ok (.invokevirtual 151, 3) := by decide +kernel
theorem dX11_drawn_45 : decode cX11_drawn 45 = .ok (.aload_n 0, 1) := by decide +kernel
theorem dX11_drawn_46 : decode cX11_drawn 46 = .ok (.getfield 19, 3) := by decide +kernel
theorem dX11_drawn_49 : decode cX11_drawn 49 = .ok (.getfield 172, 3) := by decide +kernel
theorem dX11_drawn_52 : decode cX11_drawn 52 = .ok (.invokestatic 349, 3) := by decide +kernel
theorem dX11_drawn_55 : decode cX11_drawn 55 = .ok (.ireturn, 1) := by decide +kernel
theorem dX11_luck_0 : decode cX11_luck 0 = .ok (.aload_n 0, 1) := by decide +kernel
theorem dX11_luck_1 : decode cX11_luck 1 = .ok (.getfield 19, 3) := by decide +kernel
theorem dX11_luck_4 : decode cX11_luck 4 = .ok (.iload 4, 2) := by decide +kernel
theorem dX11_luck_6 : decode cX11_luck 6 = .ok (.invokevirtual 137, 3) := by decide +kernel
theorem dX11_luck_9 : decode cX11_luck 9 = .ok (.ifCond .eq 24, 3) := by decide +kernel
theorem dX11_luck_12 : decode cX11_luck 12 = .ok (.iload_n 1, 1) := by decide +kernel
theorem dX11_luck_13 : decode cX11_luck 13 = .ok (.iconst 0, 1) := by decide +kernel
theorem dX11_luck_14 : decode cX11_luck 14 = .ok (.ldc_w 348, 3) := by decide +kernel
theorem dX11_luck_17 : decode cX11_luck 17 = .ok (.invokestatic 156, 3) := by decide +kernel
theorem dX11_luck_20 : decode cX11_luck 20 = .ok (.ifCond .eq 13, 3) := by decide +kernel
theorem dX11_luck_23 : decode cX11_luck 23 = .ok (.iload_n 3, 1) := by decide +kernel
theorem dX11_luck_24 : decode cX11_luck 24 = .ok (.iconst 0, 1) := by decide +kernel
theorem dX11_luck_25 : decode cX11_luck 25 = .ok (.bipush 60, 2) := by decide +kernel
theorem dX11_luck_27 : decode cX11_luck 27 = .ok (.invokestatic 156, 3) := by decide +kernel
theorem dX11_luck_30 : decode cX11_luck 30 = .ok (.ifCond .ne 6, 3) := by decide +kernel
theorem dX11_luck_33 : decode cX11_luck 33 = .ok (.bipush (-2), 2) := by decide +kernel
theorem dX11_luck_35 : decode cX11_luck 35 = .ok (.ireturn, 1) := by decide +kernel
theorem dX11_luck_36 : decode cX11_luck 36 = .ok (.iload_n 2, 1) := by decide +kernel
theorem dX11_luck_37 : decode cX11_luck 37 = .ok (.iconst 1, 1) := by decide +kernel
theorem dX11_luck_38 : decode cX11_luck 38 = .ok (.bipush 20, 2) := by decide +kernel
theorem dX11_luck_40 : decode cX11_luck 40 = .ok (.invokestatic 156, 3) := by decide +kernel
theorem dX11_luck_43 : decode cX11_luck 43 = .ok (.ifCond .ne 6, 3) := by decide +kernel
theorem dX11_luck_46 : decode cX11_luck 46 = .ok (.bipush (-2), 2) := by decide +kernel
theorem dX11_luck_48 : decode cX11_luck 48 = .ok (.ireturn, 1) := by decide +kernel
theorem dX11_luck_49 : decode cX11_luck 49 = .ok (.aload_n 0, 1) := by decide +kernel
theorem dX11_luck_50 : decode cX11_luck 50 = .ok (.getfield 19, 3) := by decide +kernel
theorem dX11_luck_53 : decode cX11_luck 53 = .ok (.iload 4, 2) := by decide +kernel
theorem dX11_luck_55 : decode cX11_luck 55 = .ok (.invokevirtual 151, 3) := by decide +kernel
theorem dX11_luck_58 : decode cX11_luck 58 = .ok (.istore 5, 2) := by decide +kernel
theorem dX11_luck_60 : decode cX11_luck 60 = .ok (.iconst 0, 1) := by decide +kernel
theorem dX11_luck_61 : decode cX11_luck 61 = .ok (.istore 6, 2) := by decide +kernel
theorem dX11_luck_63 : decode cX11_luck 63 = .ok (.iconst 0, 1) := by decide +kernel
theorem dX11_luck_64 : decode cX11_luck 64 = .ok (.istore 7, 2) := by decide +kernel
theorem dX11_luck_66 : decode cX11_luck 66 = .ok (.iload 7, 2) := by decide +kernel
theorem dX11_luck_68 : decode cX11_luck 68 = .ok (.iload_n 2, 1) := by decide +kernel
theorem dX11_luck_69 : decode cX11_luck 69 = .ok (.if_icmp .ge 34, 3) := by decide +kernel
theorem dX11_luck_72 : decode cX11_luck 72 = .ok (.iload_n 1, 1) := by decide +kernel
theorem dX11_luck_73 : decode cX11_luck 73 = .ok (.iload 7, 2) := by decide +kernel
theorem dX11_luck_75 : decode cX11_luck 75 = .ok (.iadd, 1) := by decide +kernel
theorem dX11_luck_76 : decode cX11_luck 76 = .ok (.iload_n 3, 1) := by decide +kernel
theorem dX11_luck_77 : decode cX11_luck 77 = .ok (.iload 5, 2) := by decide +kernel
theorem dX11_luck_79 : decode cX11_luck 79 = .ok (.aload_n 0, 1) := by decide +kernel
theorem dX11_luck_80 : decode cX11_luck 80 = .ok (.getfield 19, 3) := by decide +kernel
theorem dX11_luck_83 : decode cX11_luck 83 = .ok (.getfield 172, 3) := by decide +kernel
theorem dX11_luck_86 : decode cX11_luck 86 = .ok (.invokestatic 349, 3) := by decide +kernel
theorem dX11_luck_89 : decode cX11_luck 89 = .ok (.iload 4, 2) := by decide +kernel
theorem dX11_luck_91 : decode cX11_luck 91 = .ok (.if_icmp .ne 6, 3) := by decide +kernel
theorem dX11_luck_94 : decode cX11_luck 94 = .ok (.iinc 6 1, 3) := by decide +kernel
theorem dX11_luck_97 : decode cX11_luck 97 = .ok (.iinc 7 1, 3) := by decide +kernel
theorem dX11_luck_100 : decode cX11_luck 100 = .ok (.goto (-34), 3) := by decide +kernel
theorem dX11_luck_103 : decode cX11_luck 103 = .ok (.iload 6, 2) := by decide +kernel
theorem dX11_luck_105 : decode cX11_luck 105 = .ok (.ireturn, 1) := by decide +kernel
theorem dX11_tell_0 : decode cX11_tell 0 = .ok (.aload_n 0, 1) := by decide +kernel
theorem dX11_tell_1 : decode cX11_tell 1 = .ok (.getfield 19, 3) := by decide +kernel
theorem dX11_tell_4 : decode cX11_tell 4 = .ok (.iload_n 1, 1) := by decide +kernel
theorem dX11_tell_5 : decode cX11_tell 5 = .ok (.invokevirtual 137, 3) := by decide +kernel
theorem dX11_tell_8 : decode cX11_tell 8 = .ok (.ifCond .eq 24, 3) := by decide +kernel
theorem dX11_tell_11 : decode cX11_tell 11 = .ok (.aload_n 0, 1) := by decide +kernel
theorem dX11_tell_12 : decode cX11_tell 12 = .ok (.getfield 19, 3) := by decide +kernel
theorem dX11_tell_15 : decode cX11_tell 15 = .ok (.iload_n 2, 1) := by decide +kernel
theorem dX11_tell_16 : decode cX11_tell 16 = .ok (.invokevirtual 137, 3) := by decide +kernel
theorem dX11_tell_19 : decode cX11_tell 19 = .ok (.ifCond .eq 13, 3) := by decide +kernel
theorem dX11_tell_22 : decode cX11_tell 22 = .ok (.iload_n 3, 1) := by decide +kernel
theorem dX11_tell_23 : decode cX11_tell 23 = .ok (.iconst 0, 1) := by decide +kernel
theorem dX11_tell_24 : decode cX11_tell 24 = .ok (.bipush 99, 2) := by decide +kernel
theorem dX11_tell_26 : decode cX11_tell 26 = .ok (.invokestatic 156, 3) := by decide +kernel
theorem dX11_tell_29 : decode cX11_tell 29 = .ok (.ifCond .ne 6, 3) := by decide +kernel
theorem dX11_tell_32 : decode cX11_tell 32 = .ok (.bipush (-2), 2) := by decide +kernel
theorem dX11_tell_34 : decode cX11_tell 34 = .ok (.ireturn, 1) := by decide +kernel
theorem dX11_tell_35 : decode cX11_tell 35 = .ok (.aload_n 0, 1) := by decide +kernel
theorem dX11_tell_36 : decode cX11_tell 36 = .ok (.getfield 19, 3) := by decide +kernel
theorem dX11_tell_39 : decode cX11_tell 39 = .ok (.getfield 339, 3) := by decide +kernel
theorem dX11_tell_42 : decode cX11_tell 42 = .ok (.ifCond .le 6, 3) := by decide +kernel
theorem dX11_tell_45 : decode cX11_tell 45 = .ok (.bipush (-5), 2) := by decide +kernel
theorem dX11_tell_47 : decode cX11_tell 47 = .ok (.ireturn, 1) := by decide +kernel
theorem dX11_tell_48 : decode cX11_tell 48 = .ok (.aload_n 0, 1) := by decide +kernel
theorem dX11_tell_49 : decode cX11_tell 49 = .ok (.getfield 19, 3) := by decide +kernel
theorem dX11_tell_52 : decode cX11_tell 52 = .ok (.iload_n 1, 1) := by decide +kernel
theorem dX11_tell_53 : decode cX11_tell 53 = .ok (.iload_n 2, 1) := by decide +kernel
theorem dX11_tell_54 : decode cX11_tell 54 = .ok (.invokevirtual 141, 3) := by decide +kernel
theorem dX11_tell_57 : decode cX11_tell 57 = .ok (.istore 4, 2) := by decide +kernel
theorem dX11_tell_59 : decode cX11_tell 59 = .ok (.aload_n 0, 1) := by decide +kernel
theorem dX11_tell_60 : decode cX11_tell 60 = .ok (.getfield 19, 3) := by decide +kernel
theorem dX11_tell_63 : decode cX11_tell 63 = .ok (.iload_n 1, 1) := by decide +kernel
theorem dX11_tell_64 : decode cX11_tell 64 = .ok (.iload_n 2, 1) := by decide +kernel
theorem dX11_tell_65 : decode cX11_tell 65 = .ok (.iload_n 3, 1) := by decide +kernel
theorem dX11_tell_66 : decode cX11_tell 66 = .ok (.invokevirtual 353, 3) := by decide +kernel
theorem dX11_tell_69 : decode cX11_tell 69 = .ok (.iload 4, 2) := by decide +kernel
theorem dX11_tell_71 : decode cX11_tell 71 = .ok (.ireturn, 1) := by decide +kernel
theorem dX11_count_0 : decode cX11_count 0 = .ok (.iload_n 1, 1) := by decide +kernel
theorem dX11_count_1 : decode cX11_count 1 = .ok (.tableswitch 99 0 6 #[43, 51, 59, 67, 75, 83, 91], 43) := by decide +kernel
theorem dX11_count_44 : decode cX11_count 44 = .ok (.aload_n 0, 1) := by decide +kernel
theorem dX11_count_45 : decode cX11_count 45 = .ok (.getfield 19, 3) := by decide +kernel
theorem dX11_count_48 : decode cX11_count 48 = .ok (.getfield 172, 3) := by decide +kernel
theorem dX11_count_51 : decode cX11_count 51 = .ok (.ireturn, 1) := by decide +kernel
theorem dX11_count_52 : decode cX11_count 52 = .ok (.aload_n 0, 1) := by decide +kernel
theorem dX11_count_53 : decode cX11_count 53 = .ok (.getfield 19, 3) := by decide +kernel
theorem dX11_count_56 : decode cX11_count 56 = .ok (.getfield 122, 3) := by decide +kernel
theorem dX11_count_59 : decode cX11_count 59 = .ok (.ireturn, 1) := by decide +kernel
theorem dX11_count_60 : decode cX11_count 60 = .ok (.aload_n 0, 1) := by decide +kernel
theorem dX11_count_61 : decode cX11_count 61 = .ok (.getfield 19, 3) := by decide +kernel
theorem dX11_count_64 : decode cX11_count 64 = .ok (.invokevirtual 357, 3) := by decide +kernel
theorem dX11_count_67 : decode cX11_count 67 = .ok (.ireturn, 1) := by decide +kernel
theorem dX11_count_68 : decode cX11_count 68 = .ok (.aload_n 0, 1) := by decide +kernel
theorem dX11_count_69 : decode cX11_count 69 = .ok (.getfield 19, 3) := by decide +kernel
theorem dX11_count_72 : decode cX11_count 72 = .ok (.getfield 339, 3) := by decide +kernel
theorem dX11_count_75 : decode cX11_count 75 = .ok (.ireturn, 1) := by decide +kernel
theorem dX11_count_76 : decode cX11_count 76 = .ok (.aload_n 0, 1) := by decide +kernel
theorem dX11_count_77 : decode cX11_count 77 = .ok (.getfield 19, 3) := by decide +kernel
theorem dX11_count_80 : decode cX11_count 80 = .ok (.getfield 116, 3) := by decide +kernel
theorem dX11_count_83 : decode cX11_count 83 = .ok (.ireturn, 1) := by decide +kernel
theorem dX11_count_84 : decode cX11_count 84 = .ok (.aload_n 0, 1) := by decide +kernel
theorem dX11_count_85 : decode cX11_count 85 = .ok (.getfield 10, 3) := by decide +kernel
theorem dX11_count_88 : decode cX11_count 88 = .ok (.getfield 102, 3) := by decide +kernel
theorem dX11_count_91 : decode cX11_count 91 = .ok (.ireturn, 1) := by decide +kernel
theorem dX11_count_92 : decode cX11_count 92 = .ok (.aload_n 0, 1) := by decide +kernel
theorem dX11_count_93 : decode cX11_count 93 = .ok (.getfield 37, 3) := by decide +kernel
theorem dX11_count_96 : decode cX11_count 96 = .ok (.invokevirtual 360, 3) := by decide +kernel
theorem dX11_count_99 : decode cX11_count 99 = .ok (.ireturn, 1) := by decide +kernel
theorem dX11_count_100 : decode cX11_count 100 = .ok (.iconst (-1), 1) := by decide +kernel
theorem dX11_count_101 : decode cX11_count 101 = .ok (.ireturn, 1) := by decide +kernel
theorem dX11_image_0 : decode cX11_image 0 = .ok (.iload_n 1, 1) := by decide +kernel
theorem dX11_image_1 : decode cX11_image 1 = .ok (.iconst 0, 1) := by decide +kernel
theorem dX11_image_2 : decode cX11_image 2 = .ok (.iconst 2, 1) := by decide +kernel
theorem dX11_image_3 : decode cX11_image 3 = .ok (.invokestatic 156, 3) := by decide +kernel
theorem dX11_image_6 : decode cX11_image 6 = .ok (.ifCond .ne 6, 3) := by decide +kernel
theorem dX11_image_9 : decode cX11_image 9 = .ok (.bipush (-2), 2) := by decide +kernel
theorem dX11_image_11 : decode cX11_image 11 = .ok (.ireturn, 1) := by decide +kernel
theorem dX11_image_12 : decode cX11_image 12 = .ok (.aload_n 0, 1) := by decide +kernel
theorem dX11_image_13 : decode cX11_image 13 = .ok (.getfield 26, 3) := by decide +kernel
theorem dX11_image_16 : decode cX11_image 16 = .ok (.iload_n 1, 1) := by decide +kernel
theorem dX11_image_17 : decode cX11_image 17 = .ok (.aaload, 1) := by decide +kernel
theorem dX11_image_18 : decode cX11_image 18 = .ok (.aload_n 0, 1) := by decide +kernel
theorem dX11_image_19 : decode cX11_image 19 = .ok (.getfield 19, 3) := by decide +kernel
theorem dX11_image_22 : decode cX11_image 22 = .ok (.invokevirtual 113, 3) := by decide +kernel
theorem dX11_image_25 : decode cX11_image 25 = .ok (.aload_n 0, 1) := by decide +kernel
theorem dX11_image_26 : decode cX11_image 26 = .ok (.getfield 30, 3) := by decide +kernel
theorem dX11_image_29 : decode cX11_image 29 = .ok (.iload_n 1, 1) := by decide +kernel
theorem dX11_image_30 : decode cX11_image 30 = .ok (.iconst 1, 1) := by decide +kernel
theorem dX11_image_31 : decode cX11_image 31 = .ok (.bastore, 1) := by decide +kernel
theorem dX11_image_32 : decode cX11_image 32 = .ok (.iconst 0, 1) := by decide +kernel
theorem dX11_image_33 : decode cX11_image 33 = .ok (.ireturn, 1) := by decide +kernel
theorem dX11_back_0 : decode cX11_back 0 = .ok (.iload_n 1, 1) := by decide +kernel
theorem dX11_back_1 : decode cX11_back 1 = .ok (.iconst 0, 1) := by decide +kernel
theorem dX11_back_2 : decode cX11_back 2 = .ok (.iconst 2, 1) := by decide +kernel
theorem dX11_back_3 : decode cX11_back 3 = .ok (.invokestatic 156, 3) := by decide +kernel
theorem dX11_back_6 : decode cX11_back 6 = .ok (.ifCond .ne 6, 3) := by decide +kernel
theorem dX11_back_9 : decode cX11_back 9 = .ok (.bipush (-2), 2) := by decide +kernel
theorem dX11_back_11 : decode cX11_back 11 = .ok (.ireturn, 1) := by decide +kernel
theorem dX11_back_12 : decode cX11_back 12 = .ok (.aload_n 0, 1) := by decide +kernel
theorem dX11_back_13 : decode cX11_back 13 = .ok (.getfield 30, 3) := by decide +kernel
theorem dX11_back_16 : decode cX11_back 16 = .ok (.iload_n 1, 1) := by decide +kernel
theorem dX11_back_17 : decode cX11_back 17 = .ok (.baload, 1) := by decide +kernel
theorem dX11_back_18 : decode cX11_back 18 = .ok (.ifCond .ne 6, 3) := by decide +kernel
theorem dX11_back_21 : decode cX11_back 21 = .ok (.bipush (-6), 2) := by decide +kernel
theorem dX11_back_23 : decode cX11_back 23 = .ok (.ireturn, 1) := by decide +kernel
theorem dX11_back_24 : decode cX11_back 24 = .ok (.aload_n 0, 1) := by decide +kernel
theorem dX11_back_25 : decode cX11_back 25 = .ok (.getfield 19, 3) := by decide +kernel
theorem dX11_back_28 : decode cX11_back 28 = .ok (.aload_n 0, 1) := by decide +kernel
theorem dX11_back_29 : decode cX11_back 29 = .ok (.getfield 26, 3) := by decide +kernel
theorem dX11_back_32 : decode cX11_back 32 = .ok (.iload_n 1, 1) := by decide +kernel
theorem dX11_back_33 : decode cX11_back 33 = .ok (.aaload, 1) := by decide +kernel
theorem dX11_back_34 : decode cX11_back 34 = .ok (.invokevirtual 113, 3) := by decide +kernel
theorem dX11_back_37 : decode cX11_back 37 = .ok (.iconst 0, 1) := by decide +kernel
theorem dX11_back_38 : decode cX11_back 38 = .ok (.ireturn, 1) := by decide +kernel
theorem dX11_row_0 : decode cX11_row 0 = .ok (.iload_n 1, 1) := by decide +kernel
theorem dX11_row_1 : decode cX11_row 1 = .ok (.invokestatic 363, 3) := by decide +kernel
theorem dX11_row_4 : decode cX11_row 4 = .ok (.ifCond .eq 16, 3) := by decide +kernel
theorem dX11_row_7 : decode cX11_row 7 = .ok (.iload_n 2, 1) := by decide +kernel
theorem dX11_row_8 : decode cX11_row 8 = .ok (.invokestatic 366, 3) := by decide +kernel
theorem dX11_row_11 : decode cX11_row 11 = .ok (.ifCond .eq 9, 3) := by decide +kernel
theorem dX11_row_14 : decode cX11_row 14 = .ok (.iload_n 3, 1) := by decide +kernel
theorem dX11_row_15 : decode cX11_row 15 = .ok (.bipush 60, 2) := by decide +kernel
theorem dX11_row_17 : decode cX11_row 17 = .ok (.if_icmp .le 6, 3) := by decide +kernel
theorem dX11_row_20 : decode cX11_row 20 = .ok (.bipush (-2), 2) := by decide +kernel
theorem dX11_row_22 : decode cX11_row 22 = .ok (.ireturn, 1) := by decide +kernel
theorem dX11_row_23 : decode cX11_row 23 = .ok (.iload_n 3, 1) := by decide +kernel
theorem dX11_row_24 : decode cX11_row 24 = .ok (.ifCond .ge 6, 3) := by decide +kernel
theorem dX11_row_27 : decode cX11_row 27 = .ok (.bipush (-3), 2) := by decide +kernel
theorem dX11_row_29 : decode cX11_row 29 = .ok (.ireturn, 1) := by decide +kernel
theorem dX11_row_30 : decode cX11_row 30 = .ok (.aload_n 0, 1) := by decide +kernel
theorem dX11_row_31 : decode cX11_row 31 = .ok (.getfield 37, 3) := by decide +kernel
theorem dX11_row_34 : decode cX11_row 34 = .ok (.iload_n 1, 1) := by decide +kernel
theorem dX11_row_35 : decode cX11_row 35 = .ok (.iload_n 2, 1) := by decide +kernel
theorem dX11_row_36 : decode cX11_row 36 = .ok (.iload_n 3, 1) := by decide +kernel
theorem dX11_row_37 : decode cX11_row 37 = .ok (.invokevirtual 369, 3) := by decide +kernel
theorem dX11_row_40 : decode cX11_row 40 = .ok (.iconst 0, 1) := by decide +kernel
theorem dX11_row_41 : decode cX11_row 41 = .ok (.ireturn, 1) := by decide +kernel
theorem dX11_write_0 : decode cX11_write 0 = .ok (.iload_n 1, 1) := by decide +kernel
theorem dX11_write_1 : decode cX11_write 1 = .ok (.invokestatic 363, 3) := by decide +kernel
theorem dX11_write_4 : decode cX11_write 4 = .ok (.ifCond .ne 6, 3) := by decide +kernel
theorem dX11_write_7 : decode cX11_write 7 = .ok (.bipush (-2), 2) := by decide +kernel
theorem dX11_write_9 : decode cX11_write 9 = .ok (.ireturn, 1) := by decide +kernel
theorem dX11_write_10 : decode cX11_write 10 = .ok (.aload_n 0, 1) := by decide +kernel
theorem dX11_write_11 : decode cX11_write 11 = .ok (.getfield 37, 3) := by decide +kernel
theorem dX11_write_14 : decode cX11_write 14 = .ok (.iload_n 1, 1) := by decide +kernel
theorem dX11_write_15 : decode cX11_write 15 = .ok (.invokevirtual 372, 3) := by decide +kernel
theorem dX11_write_18 : decode cX11_write 18 = .ok (.ifCond .ne 6, 3) := by decide +kernel
theorem dX11_write_21 : decode cX11_write 21 = .ok (.bipush (-6), 2) := by decide +kernel
theorem dX11_write_23 : decode cX11_write 23 = .ok (.ireturn, 1) := by decide +kernel
theorem dX11_write_24 : decode cX11_write 24 = .ok (.iload_n 2, 1) := by decide +kernel
theorem dX11_write_25 : decode cX11_write 25 = .ok (.ifCond .lt 16, 3) := by decide +kernel
theorem dX11_write_28 : decode cX11_write 28 = .ok (.iload_n 2, 1) := by decide +kernel
theorem dX11_write_29 : decode cX11_write 29 = .ok (.aload_n 0, 1) := by decide +kernel
theorem dX11_write_30 : decode cX11_write 30 = .ok (.getfield 37, 3) := by decide +kernel
theorem dX11_write_33 : decode cX11_write 33 = .ok (.getfield 375, 3) := by decide +kernel
theorem dX11_write_36 : decode cX11_write 36 = .ok (.iload_n 1, 1) := by decide +kernel
theorem dX11_write_37 : decode cX11_write 37 = .ok (.iaload, 1) := by decide +kernel
theorem dX11_write_38 : decode cX11_write 38 = .ok (.if_icmp .lt 6, 3) := by decide +kernel
theorem dX11_write_41 : decode cX11_write 41 = .ok (.bipush (-7), 2) := by decide +kernel
theorem dX11_write_43 : decode cX11_write 43 = .ok (.ireturn, 1) := by decide +kernel
theorem dX11_write_44 : decode cX11_write 44 = .ok (.aload_n 0, 1) := by decide +kernel
theorem dX11_write_45 : decode cX11_write 45 = .ok (.getfield 37, 3) := by decide +kernel
theorem dX11_write_48 : decode cX11_write 48 = .ok (.getfield 378, 3) := by decide +kernel
theorem dX11_write_51 : decode cX11_write 51 = .ok (.iload_n 1, 1) := by decide +kernel
theorem dX11_write_52 : decode cX11_write 52 = .ok (.aaload, 1) := by decide +kernel
theorem dX11_write_53 : decode cX11_write 53 = .ok (.iload_n 2, 1) := by decide +kernel
theorem dX11_write_54 : decode cX11_write 54 = .ok (.lload_n 3, 1) := by decide +kernel
theorem dX11_write_55 : decode cX11_write 55 = .ok (.aload_n 0, 1) := by decide +kernel
theorem dX11_write_56 : decode cX11_write 56 = .ok (.getfield 37, 3) := by decide +kernel
theorem dX11_write_59 : decode cX11_write 59 = .ok (.getfield 382, 3) := by decide +kernel
theorem dX11_write_62 : decode cX11_write 62 = .ok (.iload_n 1, 1) := by decide +kernel
theorem dX11_write_63 : decode cX11_write 63 = .ok (.iaload, 1) := by decide +kernel
theorem dX11_write_64 : decode cX11_write 64 = .ok (.invokestatic 385, 3) := by decide +kernel
theorem dX11_write_67 : decode cX11_write 67 = .ok (.lastore, 1) := by decide +kernel
theorem dX11_write_68 : decode cX11_write 68 = .ok (.iconst 0, 1) := by decide +kernel
theorem dX11_write_69 : decode cX11_write 69 = .ok (.ireturn, 1) := by decide +kernel
theorem dX11_paste_0 : decode cX11_paste 0 = .ok (.iload_n 1, 1) := by decide +kernel
theorem dX11_paste_1 : decode cX11_paste 1 = .ok (.invokestatic 363, 3) := by decide +kernel
theorem dX11_paste_4 : decode cX11_paste 4 = .ok (.ifCond .eq 10, 3) := by decide +kernel
theorem dX11_paste_7 : decode cX11_paste 7 = .ok (.iload_n 3, 1) := by decide +kernel
theorem dX11_paste_8 : decode cX11_paste 8 = .ok (.invokestatic 363, 3) := by decide +kernel
theorem dX11_paste_11 : decode cX11_paste 11 = .ok (.ifCond .ne 6, 3) := by decide +kernel
theorem dX11_paste_14 : decode cX11_paste 14 = .ok (.bipush (-2), 2) := by decide +kernel
theorem dX11_paste_16 : decode cX11_paste 16 = .ok (.ireturn, 1) := by decide +kernel
theorem dX11_paste_17 : decode cX11_paste 17 = .ok (.aload_n 0, 1) := by decide +kernel
theorem dX11_paste_18 : decode cX11_paste 18 = .ok (.getfield 37, 3) := by decide +kernel
theorem dX11_paste_21 : decode cX11_paste 21 = .ok (.iload_n 1, 1) := by decide +kernel
theorem dX11_paste_22 : decode cX11_paste 22 = .ok (.invokevirtual 372, 3) := by decide +kernel
theorem dX11_paste_25 : decode cX11_paste 25 = .ok (.ifCond .eq 14, 3) := by decide +kernel
theorem dX11_paste_28 : decode cX11_paste 28 = .ok (.aload_n 0, 1) := by decide +kernel
theorem dX11_paste_29 : decode cX11_paste 29 = .ok (.getfield 37, 3) := by decide +kernel
theorem dX11_paste_32 : decode cX11_paste 32 = .ok (.iload_n 3, 1) := by decide +kernel
theorem dX11_paste_33 : decode cX11_paste 33 = .ok (.invokevirtual 372, 3) := by decide +kernel
theorem dX11_paste_36 : decode cX11_paste 36 = .ok (.ifCond .ne 6, 3) := by decide +kernel
theorem dX11_paste_39 : decode cX11_paste 39 = .ok (.bipush (-6), 2) := by decide +kernel
theorem dX11_paste_41 : decode cX11_paste 41 = .ok (.ireturn, 1) := by decide +kernel
theorem dX11_paste_42 : decode cX11_paste 42 = .ok (.aload_n 0, 1) := by decide +kernel
theorem dX11_paste_43 : decode cX11_paste 43 = .ok (.getfield 37, 3) := by decide +kernel
theorem dX11_paste_46 : decode cX11_paste 46 = .ok (.getfield 382, 3) := by decide +kernel
theorem dX11_paste_49 : decode cX11_paste 49 = .ok (.iload_n 1, 1) := by decide +kernel
theorem dX11_paste_50 : decode cX11_paste 50 = .ok (.iaload, 1) := by decide +kernel
theorem dX11_paste_51 : decode cX11_paste 51 = .ok (.aload_n 0, 1) := by decide +kernel
theorem dX11_paste_52 : decode cX11_paste 52 = .ok (.getfield 37, 3) := by decide +kernel
theorem dX11_paste_55 : decode cX11_paste 55 = .ok (.getfield 382, 3) := by decide +kernel
theorem dX11_paste_58 : decode cX11_paste 58 = .ok (.iload_n 3, 1) := by decide +kernel
theorem dX11_paste_59 : decode cX11_paste 59 = .ok (.iaload, 1) := by decide +kernel
theorem dX11_paste_60 : decode cX11_paste 60 = .ok (.if_icmp .eq 6, 3) := by decide +kernel

theorem dX0_init_0 : decode cX0_init 0 = .ok (.aload_n 0, 1) := by decide +kernel
theorem dX0_init_1 : decode cX0_init 1 = .ok (.invokespecial 3, 3) := by decide +kernel
theorem dX0_init_4 : decode cX0_init 4 = .ok (.aload_n 0, 1) := by decide +kernel
theorem dX0_init_5 : decode cX0_init 5 = .ok (.bipush 7, 2) := by decide +kernel
theorem dX0_init_7 : decode cX0_init 7 = .ok (.newarray .int, 2) := by decide +kernel
theorem dX0_init_9 : decode cX0_init 9 = .ok (.putfield 9, 3) := by decide +kernel
theorem dX0_init_12 : decode cX0_init 12 = .ok (.aload_n 0, 1) := by decide +kernel
theorem dX0_init_13 : decode cX0_init 13 = .ok (.bipush 7, 2) := by decide +kernel
theorem dX0_init_15 : decode cX0_init 15 = .ok (.newarray .int, 2) := by decide +kernel
theorem dX0_init_17 : decode cX0_init 17 = .ok (.putfield 15, 3) := by decide +kernel
theorem dX0_init_20 : decode cX0_init 20 = .ok (.aload_n 0, 1) := by decide +kernel
theorem dX0_init_21 : decode cX0_init 21 = .ok (.bipush 7, 2) := by decide +kernel
theorem dX0_init_23 : decode cX0_init 23 = .ok (.newarray .int, 2) := by decide +kernel
theorem dX0_init_25 : decode cX0_init 25 = .ok (.putfield 18, 3) := by decide +kernel
theorem dX0_init_28 : decode cX0_init 28 = .ok (.aload_n 0, 1) := by decide +kernel
theorem dX0_init_29 : decode cX0_init 29 = .ok (.bipush 60, 2) := by decide +kernel
theorem dX0_init_31 : decode cX0_init 31 = .ok (.newarray .int, 2) := by decide +kernel
theorem dX0_init_33 : decode cX0_init 33 = .ok (.putfield 21, 3) := by decide +kernel
theorem dX0_init_36 : decode cX0_init 36 = .ok (.aload_n 0, 1) := by decide +kernel
theorem dX0_init_37 : decode cX0_init 37 = .ok (.aconst_null, 1) := by decide +kernel
theorem dX0_init_38 : decode cX0_init 38 = .ok (.putfield 24, 3) := by decide +kernel
theorem dX0_init_41 : decode cX0_init 41 = .ok (.aload_n 0, 1) := by decide +kernel
theorem dX0_init_42 : decode cX0_init 42 = .ok (.iconst 0, 1) := by decide +kernel
theorem dX0_init_43 : decode cX0_init 43 = .ok (.putfield 28, 3) := by decide +kernel
theorem dX0_init_46 : decode cX0_init 46 = .ok (.return_, 1) := by decide +kernel
theorem dX0_begin_0 : decode cX0_begin 0 = .ok (.aload_n 1, 1) := by decide +kernel
theorem dX0_begin_1 : decode cX0_begin 1 = .ok (.getfield 32, 3) := by decide +kernel
theorem dX0_begin_4 : decode cX0_begin 4 = .ok (.iconst 0, 1) := by decide +kernel
theorem dX0_begin_5 : decode cX0_begin 5 = .ok (.aload_n 0, 1) := by decide +kernel
theorem dX0_begin_6 : decode cX0_begin 6 = .ok (.getfield 9, 3) := by decide +kernel
theorem dX0_begin_9 : decode cX0_begin 9 = .ok (.iconst 0, 1) := by decide +kernel
theorem dX0_begin_10 : decode cX0_begin 10 = .ok (.bipush 7, 2) := by decide +kernel
theorem dX0_begin_12 : decode cX0_begin 12 = .ok (.invokestatic 37, 3) := by decide +kernel
theorem dX0_begin_15 : decode cX0_begin 15 = .ok (.aload_n 0, 1) := by decide +kernel
theorem dX0_begin_16 : decode cX0_begin 16 = .ok (.aload_n 1, 1) := by decide +kernel
theorem dX0_begin_17 : decode cX0_begin 17 = .ok (.aload_n 1, 1) := by decide +kernel
theorem dX0_begin_18 : decode cX0_begin 18 = .ok (.getfield 43, 3) := by decide +kernel
theorem dX0_begin_21 : decode cX0_begin 21 = .ok (.invokevirtual 46, 3) := by decide +kernel
theorem dX0_begin_24 : decode cX0_begin 24 = .ok (.return_, 1) := by decide +kernel
theorem dX0_beginAtFirst_0 : decode cX0_beginAtFirst 0 = .ok (.getstatic 50, 3) := by decide +kernel
theorem dX0_beginAtFirst_3 : decode cX0_beginAtFirst 3 = .ok (.iconst 0, 1) := by decide +kernel
theorem dX0_beginAtFirst_4 : decode cX0_beginAtFirst 4 = .ok (.aload_n 0, 1) := by decide +kernel
theorem dX0_beginAtFirst_5 : decode cX0_beginAtFirst 5 = .ok (.getfield 9, 3) := by decide +kernel
theorem dX0_beginAtFirst_8 : decode cX0_beginAtFirst 8 = .ok (.iconst 0, 1) := by decide +kernel
theorem dX0_beginAtFirst_9 : decode cX0_beginAtFirst 9 = .ok (.bipush 7, 2) := by decide +kernel
theorem dX0_beginAtFirst_11 : decode cX0_beginAtFirst 11 = .ok (.invokestatic 37, 3) := by decide +kernel
theorem dX0_beginAtFirst_14 : decode cX0_beginAtFirst 14 = .ok (.aload_n 0, 1) := by decide +kernel
theorem dX0_beginAtFirst_15 : decode cX0_beginAtFirst 15 = .ok (.aload_n 1, 1) := by decide +kernel
theorem dX0_beginAtFirst_16 : decode cX0_beginAtFirst 16 = .ok (.iconst 0, 1) := by decide +kernel
theorem dX0_beginAtFirst_17 : decode cX0_beginAtFirst 17 = .ok (.invokevirtual 46, 3) := by decide +kernel
theorem dX0_beginAtFirst_20 : decode cX0_beginAtFirst 20 = .ok (.return_, 1) := by decide +kernel
theorem dX0_setOut_0 : decode cX0_setOut 0 = .ok (.aload_n 0, 1) := by decide +kernel
theorem dX0_setOut_1 : decode cX0_setOut 1 = .ok (.aload_n 1, 1) := by decide +kernel
theorem dX0_setOut_2 : decode cX0_setOut 2 = .ok (.putfield 24, 3) := by decide +kernel
theorem dX0_setOut_5 : decode cX0_setOut 5 = .ok (.aload_n 0, 1) := by decide +kernel
theorem dX0_setOut_6 : decode cX0_setOut 6 = .ok (.iload_n 2, 1) := by decide +kernel
theorem dX0_setOut_7 : decode cX0_setOut 7 = .ok (.bipush 60, 2) := by decide +kernel
theorem dX0_setOut_9 : decode cX0_setOut 9 = .ok (.irem, 1) := by decide +kernel
theorem dX0_setOut_10 : decode cX0_setOut 10 = .ok (.putfield 28, 3) := by decide +kernel
theorem dX0_setOut_13 : decode cX0_setOut 13 = .ok (.iconst 0, 1) := by decide +kernel
theorem dX0_setOut_14 : decode cX0_setOut 14 = .ok (.istore_n 3, 1) := by decide +kernel
theorem dX0_setOut_15 : decode cX0_setOut 15 = .ok (.iload_n 3, 1) := by decide +kernel
theorem dX0_setOut_16 : decode cX0_setOut 16 = .ok (.bipush 60, 2) := by decide +kernel
theorem dX0_setOut_18 : decode cX0_setOut 18 = .ok (.if_icmp .ge 20, 3) := by decide +kernel
theorem dX0_setOut_21 : decode cX0_setOut 21 = .ok (.aload_n 0, 1) := by decide +kernel
theorem dX0_setOut_22 : decode cX0_setOut 22 = .ok (.getfield 21, 3) := by decide +kernel
theorem dX0_setOut_25 : decode cX0_setOut 25 = .ok (.iload_n 3, 1) := by decide +kernel
theorem dX0_setOut_26 : decode cX0_setOut 26 = .ok (.aload_n 1, 1) := by decide +kernel
theorem dX0_setOut_27 : decode cX0_setOut 27 = .ok (.iload_n 3, 1) := by decide +kernel
theorem dX0_setOut_28 : decode cX0_setOut 28 = .ok (.invokevirtual 53, 3) := by decide +kernel
theorem dX0_setOut_31 : decode cX0_setOut 31 = .ok (.iastore, 1) := by decide +kernel
theorem dX0_setOut_32 : decode cX0_setOut 32 = .ok (.iinc 3 1, 3) := by decide +kernel
theorem dX0_setOut_35 : decode cX0_setOut 35 = .ok (.goto (-20), 3) := by decide +kernel
theorem dX0_setOut_38 : decode cX0_setOut 38 = .ok (.return_, 1) := by decide +kernel
theorem dX0_goOneNight_0 : decode cX0_goOneNight 0 = .ok (.aload_n 0, 1) := by decide +kernel
theorem dX0_goOneNight_1 : decode cX0_goOneNight 1 = .ok (.aload_n 0, 1) := by decide +kernel
theorem dX0_goOneNight_2 : decode cX0_goOneNight 2 = .ok (.getfield 9, 3) := by decide +kernel
theorem dX0_goOneNight_5 : decode cX0_goOneNight 5 = .ok (.invokevirtual 57, 3) := by decide +kernel
theorem dX0_goOneNight_8 : decode cX0_goOneNight 8 = .ok (.return_, 1) := by decide +kernel
theorem dX0_goOn_0 : decode cX0_goOn 0 = .ok (.iload_n 1, 1) := by decide +kernel
theorem dX0_goOn_1 : decode cX0_goOn 1 = .ok (.bipush 60, 2) := by decide +kernel
theorem dX0_goOn_3 : decode cX0_goOn 3 = .ok (.if_icmp .lt 11, 3) := by decide +kernel
theorem dX0_goOn_6 : decode cX0_goOn 6 = .ok (.aload_n 0, 1) := by decide +kernel
theorem dX0_goOn_7 : decode cX0_goOn 7 = .ok (.iload_n 1, 1) := by decide +kernel
theorem dX0_goOn_8 : decode cX0_goOn 8 = .ok (.bipush 60, 2) := by decide +kernel
theorem dX0_goOn_10 : decode cX0_goOn 10 = .ok (.idiv, 1) := by decide +kernel
theorem dX0_goOn_11 : decode cX0_goOn 11 = .ok (.invokevirtual 61, 3) := by decide +kernel
theorem dX0_goOn_14 : decode cX0_goOn 14 = .ok (.iconst 0, 1) := by decide +kernel
theorem dX0_goOn_15 : decode cX0_goOn 15 = .ok (.istore_n 2, 1) := by decide +kernel
theorem dX0_goOn_16 : decode cX0_goOn 16 = .ok (.iload_n 2, 1) := by decide +kernel
theorem dX0_goOn_17 : decode cX0_goOn 17 = .ok (.iload_n 1, 1) := by decide +kernel
theorem dX0_goOn_18 : decode cX0_goOn 18 = .ok (.bipush 60, 2) := by decide +kernel
theorem dX0_goOn_20 : decode cX0_goOn 20 = .ok (.irem, 1) := by decide +kernel
theorem dX0_goOn_21 : decode cX0_goOn 21 = .ok (.if_icmp .ge 17, 3) := by decide +kernel
theorem dX0_goOn_24 : decode cX0_goOn 24 = .ok (.aload_n 0, 1) := by decide +kernel
theorem dX0_goOn_25 : decode cX0_goOn 25 = .ok (.aload_n 0, 1) := by decide +kernel
theorem dX0_goOn_26 : decode cX0_goOn 26 = .ok (.getfield 9, 3) := by decide +kernel
theorem dX0_goOn_29 : decode cX0_goOn 29 = .ok (.invokevirtual 57, 3) := by decide +kernel
theorem dX0_goOn_32 : decode cX0_goOn 32 = .ok (.iinc 2 1, 3) := by decide +kernel
theorem dX0_goOn_35 : decode cX0_goOn 35 = .ok (.goto (-19), 3) := by decide +kernel
theorem dX0_goOn_38 : decode cX0_goOn 38 = .ok (.return_, 1) := by decide +kernel
theorem dX0_applyNight_0 : decode cX0_applyNight 0 = .ok (.aload_n 0, 1) := by decide +kernel
theorem dX0_applyNight_1 : decode cX0_applyNight 1 = .ok (.getfield 24, 3) := by decide +kernel
theorem dX0_applyNight_4 : decode cX0_applyNight 4 = .ok (.ifnonnull 4, 3) := by decide +kernel
theorem dX0_applyNight_7 : decode cX0_applyNight 7 = .ok (.return_, 1) := by decide +kernel
theorem dX0_applyNight_8 : decode cX0_applyNight 8 = .ok (.aload_n 0, 1) := by decide +kernel
theorem dX0_applyNight_9 : decode cX0_applyNight 9 = .ok (.getfield 21, 3) := by decide +kernel
theorem dX0_applyNight_12 : decode cX0_applyNight 12 = .ok (.aload_n 0, 1) := by decide +kernel
theorem dX0_applyNight_13 : decode cX0_applyNight 13 = .ok (.getfield 28, 3) := by decide +kernel
theorem dX0_applyNight_16 : decode cX0_applyNight 16 = .ok (.iaload, 1) := by decide +kernel
theorem dX0_applyNight_17 : decode cX0_applyNight 17 = .ok (.istore_n 2, 1) := by decide +kernel
theorem dX0_applyNight_18 : decode cX0_applyNight 18 = .ok (.iload_n 2, 1) := by decide +kernel
theorem dX0_applyNight_19 : decode cX0_applyNight 19 = .ok (.ifCond .eq 12, 3) := by decide +kernel
theorem dX0_applyNight_22 : decode cX0_applyNight 22 = .ok (.aload_n 0, 1) := by decide +kernel
theorem dX0_applyNight_23 : decode cX0_applyNight 23 = .ok (.getfield 24, 3) := by decide +kernel
theorem dX0_applyNight_26 : decode cX0_applyNight 26 = .ok (.aload_n 1, 1) := by decide +kernel
theorem dX0_applyNight_27 : decode cX0_applyNight 27 = .ok (.iload_n 2, 1) := by decide +kernel
theorem dX0_applyNight_28 : decode cX0_applyNight 28 = .ok (.invokevirtual 65, 3) := by decide +kernel
theorem dX0_applyNight_31 : decode cX0_applyNight 31 = .ok (.aload_n 0, 1) := by decide +kernel
theorem dX0_applyNight_32 : decode cX0_applyNight 32 = .ok (.aload_n 0, 1) := by decide +kernel
theorem dX0_applyNight_33 : decode cX0_applyNight 33 = .ok (.getfield 28, 3) := by decide +kernel
theorem dX0_applyNight_36 : decode cX0_applyNight 36 = .ok (.iconst 1, 1) := by decide +kernel
theorem dX0_applyNight_37 : decode cX0_applyNight 37 = .ok (.iadd, 1) := by decide +kernel
theorem dX0_applyNight_38 : decode cX0_applyNight 38 = .ok (.bipush 60, 2) := by decide +kernel
theorem dX0_applyNight_40 : decode cX0_applyNight 40 = .ok (.if_icmp .ge 12, 3) := by decide +kernel
theorem dX0_applyNight_43 : decode cX0_applyNight 43 = .ok (.aload_n 0, 1) := by decide +kernel
theorem dX0_applyNight_44 : decode cX0_applyNight 44 = .ok (.getfield 28, 3) := by decide +kernel
theorem dX0_applyNight_47 : decode cX0_applyNight 47 = .ok (.iconst 1, 1) := by decide +kernel
theorem dX0_applyNight_48 : decode cX0_applyNight 48 = .ok (.iadd, 1) := by decide +kernel
theorem dX0_applyNight_49 : decode cX0_applyNight 49 = .ok (.goto 4, 3) := by decide +kernel
theorem dX0_applyNight_52 : decode cX0_applyNight 52 = .ok (.iconst 0, 1) := by decide +kernel
theorem dX0_applyNight_53 : decode cX0_applyNight 53 = .ok (.putfield 28, 3) := by decide +kernel
theorem dX0_applyNight_56 : decode cX0_applyNight 56 = .ok (.return_, 1) := by decide +kernel
theorem dX0_goWholeTimes_0 : decode cX0_goWholeTimes 0 = .ok (.getstatic 50, 3) := by decide +kernel
theorem dX0_goWholeTimes_3 : decode cX0_goWholeTimes 3 = .ok (.iconst 0, 1) := by decide +kernel
theorem dX0_goWholeTimes_4 : decode cX0_goWholeTimes 4 = .ok (.aload_n 0, 1) := by decide +kernel
theorem dX0_goWholeTimes_5 : decode cX0_goWholeTimes 5 = .ok (.getfield 15, 3) := by decide +kernel
theorem dX0_goWholeTimes_8 : decode cX0_goWholeTimes 8 = .ok (.iconst 0, 1) := by decide +kernel
theorem dX0_goWholeTimes_9 : decode cX0_goWholeTimes 9 = .ok (.bipush 7, 2) := by decide +kernel
theorem dX0_goWholeTimes_11 : decode cX0_goWholeTimes 11 = .ok (.invokestatic 37, 3) := by decide +kernel
theorem dX0_goWholeTimes_14 : decode cX0_goWholeTimes 14 = .ok (.iconst 0, 1) := by decide +kernel
theorem dX0_goWholeTimes_15 : decode cX0_goWholeTimes 15 = .ok (.istore_n 2, 1) := by decide +kernel
theorem dX0_goWholeTimes_16 : decode cX0_goWholeTimes 16 = .ok (.iload_n 2, 1) := by decide +kernel
theorem dX0_goWholeTimes_17 : decode cX0_goWholeTimes 17 = .ok (.bipush 60, 2) := by decide +kernel
theorem dX0_goWholeTimes_19 : decode cX0_goWholeTimes 19 = .ok (.if_icmp .ge 17, 3) := by decide +kernel
theorem dX0_goWholeTimes_22 : decode cX0_goWholeTimes 22 = .ok (.aload_n 0, 1) := by decide +kernel
theorem dX0_goWholeTimes_23 : decode cX0_goWholeTimes 23 = .ok (.aload_n 0, 1) := by decide +kernel
theorem dX0_goWholeTimes_24 : decode cX0_goWholeTimes 24 = .ok (.getfield 15, 3) := by decide +kernel
theorem dX0_goWholeTimes_27 : decode cX0_goWholeTimes 27 = .ok (.invokevirtual 57, 3) := by decide +kernel
theorem dX0_goWholeTimes_30 : decode cX0_goWholeTimes 30 = .ok (.iinc 2 1, 3) := by decide +kernel
theorem dX0_goWholeTimes_33 : decode cX0_goWholeTimes 33 = .ok (.goto (-17), 3) := by decide +kernel
theorem dX0_goWholeTimes_36 : decode cX0_goWholeTimes 36 = .ok (.aload_n 0, 1) := by decide +kernel
theorem dX0_goWholeTimes_37 : decode cX0_goWholeTimes 37 = .ok (.getfield 9, 3) := by decide +kernel
theorem dX0_goWholeTimes_40 : decode cX0_goWholeTimes 40 = .ok (.iconst 0, 1) := by decide +kernel
theorem dX0_goWholeTimes_41 : decode cX0_goWholeTimes 41 = .ok (.aload_n 0, 1) := by decide +kernel
theorem dX0_goWholeTimes_42 : decode cX0_goWholeTimes 42 = .ok (.getfield 18, 3) := by decide +kernel
theorem dX0_goWholeTimes_45 : decode cX0_goWholeTimes 45 = .ok (.iconst 0, 1) := by decide +kernel
theorem dX0_goWholeTimes_46 : decode cX0_goWholeTimes 46 = .ok (.bipush 7, 2) := by decide +kernel
theorem dX0_goWholeTimes_48 : decode cX0_goWholeTimes 48 = .ok (.invokestatic 37, 3) := by decide +kernel
theorem dX0_goWholeTimes_51 : decode cX0_goWholeTimes 51 = .ok (.iconst 0, 1) := by decide +kernel
theorem dX0_goWholeTimes_52 : decode cX0_goWholeTimes 52 = .ok (.istore_n 2, 1) := by decide +kernel
theorem dX0_goWholeTimes_53 : decode cX0_goWholeTimes 53 = .ok (.iload_n 2, 1) := by decide +kernel
theorem dX0_goWholeTimes_54 : decode cX0_goWholeTimes 54 = .ok (.bipush 7, 2) := by decide +kernel
theorem dX0_goWholeTimes_56 : decode cX0_goWholeTimes 56 = .ok (.if_icmp .ge 26, 3) := by decide +kernel
theorem dX0_goWholeTimes_59 : decode cX0_goWholeTimes 59 = .ok (.aload_n 0, 1) := by decide +kernel
theorem dX0_goWholeTimes_60 : decode cX0_goWholeTimes 60 = .ok (.getfield 9, 3) := by decide +kernel
theorem dX0_goWholeTimes_63 : decode cX0_goWholeTimes 63 = .ok (.iload_n 2, 1) := by decide +kernel
theorem dX0_goWholeTimes_64 : decode cX0_goWholeTimes 64 = .ok (.aload_n 0, 1) := by decide +kernel
theorem dX0_goWholeTimes_65 : decode cX0_goWholeTimes 65 = .ok (.getfield 18, 3) := by decide +kernel
theorem dX0_goWholeTimes_68 : decode cX0_goWholeTimes 68 = .ok (.aload_n 0, 1) := by decide +kernel
theorem dX0_goWholeTimes_69 : decode cX0_goWholeTimes 69 = .ok (.iload_n 2, 1) := by decide +kernel
theorem dX0_goWholeTimes_70 : decode cX0_goWholeTimes 70 = .ok (.iload_n 1, 1) := by decide +kernel
theorem dX0_goWholeTimes_71 : decode cX0_goWholeTimes 71 = .ok (.invokevirtual 69, 3) := by decide +kernel
theorem dX0_goWholeTimes_74 : decode cX0_goWholeTimes 74 = .ok (.iaload, 1) := by decide +kernel
theorem dX0_goWholeTimes_75 : decode cX0_goWholeTimes 75 = .ok (.iastore, 1) := by decide +kernel
theorem dX0_goWholeTimes_76 : decode cX0_goWholeTimes 76 = .ok (.iinc 2 1, 3) := by decide +kernel
theorem dX0_goWholeTimes_79 : decode cX0_goWholeTimes 79 = .ok (.goto (-26), 3) := by decide +kernel
theorem dX0_goWholeTimes_82 : decode cX0_goWholeTimes 82 = .ok (.return_, 1) := by decide +kernel
theorem dX0_originOf_0 : decode cX0_originOf 0 = .ok (.iconst 1, 1) := by decide +kernel
theorem dX0_originOf_1 : decode cX0_originOf 1 = .ok (.istore_n 3, 1) := by decide +kernel
theorem dX0_originOf_2 : decode cX0_originOf 2 = .ok (.aload_n 0, 1) := by decide +kernel
theorem dX0_originOf_3 : decode cX0_originOf 3 = .ok (.getfield 15, 3) := by decide +kernel
theorem dX0_originOf_6 : decode cX0_originOf 6 = .ok (.iload_n 1, 1) := by decide +kernel
theorem dX0_originOf_7 : decode cX0_originOf 7 = .ok (.iaload, 1) := by decide +kernel
theorem dX0_originOf_8 : decode cX0_originOf 8 = .ok (.istore 4, 2) := by decide +kernel
theorem dX0_originOf_10 : decode cX0_originOf 10 = .ok (.iload 4, 2) := by decide +kernel
theorem dX0_originOf_12 : decode cX0_originOf 12 = .ok (.iload_n 1, 1) := by decide +kernel
theorem dX0_originOf_13 : decode cX0_originOf 13 = .ok (.if_icmp .eq 24, 3) := by decide +kernel
theorem dX0_originOf_16 : decode cX0_originOf 16 = .ok (.iload_n 3, 1) := by decide +kernel
theorem dX0_originOf_17 : decode cX0_originOf 17 = .ok (.bipush 7, 2) := by decide +kernel
theorem dX0_originOf_19 : decode cX0_originOf 19 = .ok (.if_icmp .ge 18, 3) := by decide +kernel
theorem dX0_originOf_22 : decode cX0_originOf 22 = .ok (.aload_n 0, 1) := by decide +kernel
theorem dX0_originOf_23 : decode cX0_originOf 23 = .ok (.getfield 15, 3) := by decide +kernel
theorem dX0_originOf_26 : decode cX0_originOf 26 = .ok (.iload 4, 2) := by decide +kernel
theorem dX0_originOf_28 : decode cX0_originOf 28 = .ok (.iaload, 1) := by decide +kernel
theorem dX0_originOf_29 : decode cX0_originOf 29 = .ok (.istore 4, 2) := by decide +kernel
theorem dX0_originOf_31 : decode cX0_originOf 31 = .ok (.iinc 3 1, 3) := by decide +kernel
theorem dX0_originOf_34 : decode cX0_originOf 34 = .ok (.goto (-24), 3) := by decide +kernel
theorem dX0_originOf_37 : decode cX0_originOf 37 = .ok (.iload_n 2, 1) := by decide +kernel
theorem dX0_originOf_38 : decode cX0_originOf 38 = .ok (.iload_n 3, 1) := by decide +kernel
theorem dX0_originOf_39 : decode cX0_originOf 39 = .ok (.irem, 1) := by decide +kernel
theorem dX0_originOf_40 : decode cX0_originOf 40 = .ok (.istore 5, 2) := by decide +kernel
theorem dX0_originOf_42 : decode cX0_originOf 42 = .ok (.iload_n 1, 1) := by decide +kernel
theorem dX0_originOf_43 : decode cX0_originOf 43 = .ok (.istore 4, 2) := by decide +kernel
theorem dX0_originOf_45 : decode cX0_originOf 45 = .ok (.iconst 0, 1) := by decide +kernel
theorem dX0_originOf_46 : decode cX0_originOf 46 = .ok (.istore 6, 2) := by decide +kernel
theorem dX0_originOf_48 : decode cX0_originOf 48 = .ok (.iload 6, 2) := by decide +kernel
theorem dX0_originOf_50 : decode cX0_originOf 50 = .ok (.iload 5, 2) := by decide +kernel
theorem dX0_originOf_52 : decode cX0_originOf 52 = .ok (.if_icmp .ge 18, 3) := by decide +kernel
theorem dX0_originOf_55 : decode cX0_originOf 55 = .ok (.aload_n 0, 1) := by decide +kernel
theorem dX0_originOf_56 : decode cX0_originOf 56 = .ok (.getfield 15, 3) := by decide +kernel
theorem dX0_originOf_59 : decode cX0_originOf 59 = .ok (.iload 4, 2) := by decide +kernel
theorem dX0_originOf_61 : decode cX0_originOf 61 = .ok (.iaload, 1) := by decide +kernel
theorem dX0_originOf_62 : decode cX0_originOf 62 = .ok (.istore 4, 2) := by decide +kernel
theorem dX0_originOf_64 : decode cX0_originOf 64 = .ok (.iinc 6 1, 3) := by decide +kernel
theorem dX0_originOf_67 : decode cX0_originOf 67 = .ok (.goto (-19), 3) := by decide +kernel
theorem dX0_originOf_70 : decode cX0_originOf 70 = .ok (.iload 4, 2) := by decide +kernel
theorem dX0_originOf_72 : decode cX0_originOf 72 = .ok (.ireturn, 1) := by decide +kernel
theorem dX1_init_0 : decode cX1_init 0 = .ok (.aload_n 0, 1) := by decide +kernel
theorem dX1_init_1 : decode cX1_init 1 = .ok (.invokespecial 3, 3) := by decide +kernel
theorem dX1_init_4 : decode cX1_init 4 = .ok (.aload_n 0, 1) := by decide +kernel
theorem dX1_init_5 : decode cX1_init 5 = .ok (.sipush 128, 3) := by decide +kernel
theorem dX1_init_8 : decode cX1_init 8 = .ok (.newarray .int, 2) := by decide +kernel
theorem dX1_init_10 : decode cX1_init 10 = .ok (.putfield 9, 3) := by decide +kernel
theorem dX1_init_13 : decode cX1_init 13 = .ok (.aload_n 0, 1) := by decide +kernel
theorem dX1_init_14 : decode cX1_init 14 = .ok (.aconst_null, 1) := by decide +kernel
theorem dX1_init_15 : decode cX1_init 15 = .ok (.putfield 15, 3) := by decide +kernel
theorem dX1_init_18 : decode cX1_init 18 = .ok (.return_, 1) := by decide +kernel
theorem dX1_prepare_0 : decode cX1_prepare 0 = .ok (.aload_n 0, 1) := by decide +kernel
theorem dX1_prepare_1 : decode cX1_prepare 1 = .ok (.aload_n 1, 1) := by decide +kernel
theorem dX1_prepare_2 : decode cX1_prepare 2 = .ok (.putfield 15, 3) := by decide +kernel
theorem dX1_prepare_5 : decode cX1_prepare 5 = .ok (.iconst 1, 1) := by decide +kernel
theorem dX1_prepare_6 : decode cX1_prepare 6 = .ok (.aload_n 1, 1) := by decide +kernel
theorem dX1_prepare_7 : decode cX1_prepare 7 = .ok (.getfield 19, 3) := by decide +kernel
theorem dX1_prepare_10 : decode cX1_prepare 10 = .ok (.ishl, 1) := by decide +kernel
theorem dX1_prepare_11 : decode cX1_prepare 11 = .ok (.iconst 1, 1) := by decide +kernel
theorem dX1_prepare_12 : decode cX1_prepare 12 = .ok (.isub, 1) := by decide +kernel
theorem dX1_prepare_13 : decode cX1_prepare 13 = .ok (.istore_n 2, 1) := by decide +kernel
theorem dX1_prepare_14 : decode cX1_prepare 14 = .ok (.iload_n 2, 1) := by decide +kernel
theorem dX1_prepare_15 : decode cX1_prepare 15 = .ok (.ifCond .le 62, 3) := by decide +kernel
theorem dX1_prepare_18 : decode cX1_prepare 18 = .ok (.aload_n 0, 1) := by decide +kernel
theorem dX1_prepare_19 : decode cX1_prepare 19 = .ok (.getfield 9, 3) := by decide +kernel
theorem dX1_prepare_22 : decode cX1_prepare 22 = .ok (.iload_n 2, 1) := by decide +kernel
theorem dX1_prepare_23 : decode cX1_prepare 23 = .ok (.iconst 0, 1) := by decide +kernel
theorem dX1_prepare_24 : decode cX1_prepare 24 = .ok (.iastore, 1) := by decide +kernel
theorem dX1_prepare_25 : decode cX1_prepare 25 = .ok (.iconst 0, 1) := by decide +kernel
theorem dX1_prepare_26 : decode cX1_prepare 26 = .ok (.istore_n 3, 1) := by decide +kernel
theorem dX1_prepare_27 : decode cX1_prepare 27 = .ok (.iload_n 3, 1) := by decide +kernel
theorem dX1_prepare_28 : decode cX1_prepare 28 = .ok (.aload_n 1, 1) := by decide +kernel
theorem dX1_prepare_29 : decode cX1_prepare 29 = .ok (.getfield 19, 3) := by decide +kernel
theorem dX1_prepare_32 : decode cX1_prepare 32 = .ok (.if_icmp .ge 39, 3) := by decide +kernel
theorem dX1_prepare_35 : decode cX1_prepare 35 = .ok (.iload_n 2, 1) := by decide +kernel
theorem dX1_prepare_36 : decode cX1_prepare 36 = .ok (.iload_n 3, 1) := by decide +kernel
theorem dX1_prepare_37 : decode cX1_prepare 37 = .ok (.ishr, 1) := by decide +kernel
theorem dX1_prepare_38 : decode cX1_prepare 38 = .ok (.iconst 1, 1) := by decide +kernel
theorem dX1_prepare_39 : decode cX1_prepare 39 = .ok (.iand, 1) := by decide +kernel
theorem dX1_prepare_40 : decode cX1_prepare 40 = .ok (.ifCond .eq 25, 3) := by decide +kernel
theorem dX1_prepare_43 : decode cX1_prepare 43 = .ok (.aload_n 0, 1) := by decide +kernel
theorem dX1_prepare_44 : decode cX1_prepare 44 = .ok (.iload_n 2, 1) := by decide +kernel
theorem dX1_prepare_45 : decode cX1_prepare 45 = .ok (.iload_n 3, 1) := by decide +kernel
theorem dX1_prepare_46 : decode cX1_prepare 46 = .ok (.invokevirtual 25, 3) := by decide +kernel
theorem dX1_prepare_49 : decode cX1_prepare 49 = .ok (.iconst (-1), 1) := by decide +kernel
theorem dX1_prepare_50 : decode cX1_prepare 50 = .ok (.if_icmp .eq 15, 3) := by decide +kernel
theorem dX1_prepare_53 : decode cX1_prepare 53 = .ok (.aload_n 0, 1) := by decide +kernel
theorem dX1_prepare_54 : decode cX1_prepare 54 = .ok (.getfield 9, 3) := by decide +kernel
theorem dX1_prepare_57 : decode cX1_prepare 57 = .ok (.iload_n 2, 1) := by decide +kernel
theorem dX1_prepare_58 : decode cX1_prepare 58 = .ok (.dup2, 1) := by decide +kernel
theorem dX1_prepare_59 : decode cX1_prepare 59 = .ok (.iaload, 1) := by decide +kernel
theorem dX1_prepare_60 : decode cX1_prepare 60 = .ok (.iconst 1, 1) := by decide +kernel
theorem dX1_prepare_61 : decode cX1_prepare 61 = .ok (.iload_n 3, 1) := by decide +kernel
theorem dX1_prepare_62 : decode cX1_prepare 62 = .ok (.ishl, 1) := by decide +kernel
theorem dX1_prepare_63 : decode cX1_prepare 63 = .ok (.ior, 1) := by decide +kernel
theorem dX1_prepare_64 : decode cX1_prepare 64 = .ok (.iastore, 1) := by decide +kernel
theorem dX1_prepare_65 : decode cX1_prepare 65 = .ok (.iinc 3 1, 3) := by decide +kernel
theorem dX1_prepare_68 : decode cX1_prepare 68 = .ok (.goto (-41), 3) := by decide +kernel
theorem dX1_prepare_71 : decode cX1_prepare 71 = .ok (.iinc 2 (-1), 3) := by decide +kernel
theorem dX1_prepare_74 : decode cX1_prepare 74 = .ok (.goto (-60), 3) := by decide +kernel
theorem dX1_prepare_77 : decode cX1_prepare 77 = .ok (.return_, 1) := by decide +kernel
theorem dX1_isWon_0 : decode cX1_isWon 0 = .ok (.aload_n 0, 1) := by decide +kernel
theorem dX1_isWon_1 : decode cX1_isWon 1 = .ok (.getfield 9, 3) := by decide +kernel
theorem dX1_isWon_4 : decode cX1_isWon 4 = .ok (.iload_n 1, 1) := by decide +kernel
theorem dX1_isWon_5 : decode cX1_isWon 5 = .ok (.iaload, 1) := by decide +kernel
theorem dX1_isWon_6 : decode cX1_isWon 6 = .ok (.iload_n 2, 1) := by decide +kernel
theorem dX1_isWon_7 : decode cX1_isWon 7 = .ok (.ishr, 1) := by decide +kernel
theorem dX1_isWon_8 : decode cX1_isWon 8 = .ok (.iconst 1, 1) := by decide +kernel
theorem dX1_isWon_9 : decode cX1_isWon 9 = .ok (.iand, 1) := by decide +kernel
theorem dX1_isWon_10 : decode cX1_isWon 10 = .ok (.ifCond .eq 7, 3) := by decide +kernel
theorem dX1_isWon_13 : decode cX1_isWon 13 = .ok (.iconst 1, 1) := by decide +kernel
theorem dX1_isWon_14 : decode cX1_isWon 14 = .ok (.goto 4, 3) := by decide +kernel
theorem dX1_isWon_17 : decode cX1_isWon 17 = .ok (.iconst 0, 1) := by decide +kernel
theorem dX1_isWon_18 : decode cX1_isWon 18 = .ok (.ireturn, 1) := by decide +kernel
theorem dX1_bestLead_0 : decode cX1_bestLead 0 = .ok (.aload_n 0, 1) := by decide +kernel
theorem dX1_bestLead_1 : decode cX1_bestLead 1 = .ok (.iconst 1, 1) := by decide +kernel
theorem dX1_bestLead_2 : decode cX1_bestLead 2 = .ok (.iload_n 1, 1) := by decide +kernel
theorem dX1_bestLead_3 : decode cX1_bestLead 3 = .ok (.ishl, 1) := by decide +kernel
theorem dX1_bestLead_4 : decode cX1_bestLead 4 = .ok (.iload_n 1, 1) := by decide +kernel
theorem dX1_bestLead_5 : decode cX1_bestLead 5 = .ok (.invokevirtual 25, 3) := by decide +kernel
theorem dX1_bestLead_8 : decode cX1_bestLead 8 = .ok (.ireturn, 1) := by decide +kernel
theorem dX1_leastWinning_0 : decode cX1_leastWinning 0 = .ok (.aload_n 0, 1) := by decide +kernel
theorem dX1_leastWinning_1 : decode cX1_leastWinning 1 = .ok (.getfield 15, 3) := by decide +kernel
theorem dX1_leastWinning_4 : decode cX1_leastWinning 4 = .ok (.ifnonnull 5, 3) := by decide +kernel
theorem dX1_leastWinning_7 : decode cX1_leastWinning 7 = .ok (.iconst (-1), 1) := by decide +kernel
theorem dX1_leastWinning_8 : decode cX1_leastWinning 8 = .ok (.ireturn, 1) := by decide +kernel
theorem dX1_leastWinning_9 : decode cX1_leastWinning 9 = .ok (.iconst 0, 1) := by decide +kernel
theorem dX1_leastWinning_10 : decode cX1_leastWinning 10 = .ok (.istore_n 3, 1) := by decide +kernel
theorem dX1_leastWinning_11 : decode cX1_leastWinning 11 = .ok (.iload_n 3, 1) := by decide +kernel
theorem dX1_leastWinning_12 : decode cX1_leastWinning 12 = .ok (.aload_n 0, 1) := by decide +kernel
theorem dX1_leastWinning_13 : decode cX1_leastWinning 13 = .ok (.getfield 15, 3) := by decide +kernel
theorem dX1_leastWinning_16 : decode cX1_leastWinning 16 = .ok (.getfield 19, 3) := by decide +kernel
theorem dX1_leastWinning_19 : decode cX1_leastWinning 19 = .ok (.if_icmp .ge 56, 3) := by decide +kernel
theorem dX1_leastWinning_22 : decode cX1_leastWinning 22 = .ok (.iload_n 1, 1) := by decide +kernel
theorem dX1_leastWinning_23 : decode cX1_leastWinning 23 = .ok (.iload_n 3, 1) := by decide +kernel
theorem dX1_leastWinning_24 : decode cX1_leastWinning 24 = .ok (.ishr, 1) := by decide +kernel
theorem dX1_leastWinning_25 : decode cX1_leastWinning 25 = .ok (.iconst 1, 1) := by decide +kernel
theorem dX1_leastWinning_26 : decode cX1_leastWinning 26 = .ok (.iand, 1) := by decide +kernel
theorem dX1_leastWinning_27 : decode cX1_leastWinning 27 = .ok (.ifCond .ne 7, 3) := by decide +kernel
theorem dX1_leastWinning_30 : decode cX1_leastWinning 30 = .ok (.iconst 1, 1) := by decide +kernel
theorem dX1_leastWinning_31 : decode cX1_leastWinning 31 = .ok (.goto 4, 3) := by decide +kernel
theorem dX1_leastWinning_34 : decode cX1_leastWinning 34 = .ok (.iconst 0, 1) := by decide +kernel
theorem dX1_leastWinning_35 : decode cX1_leastWinning 35 = .ok (.istore 4, 2) := by decide +kernel
theorem dX1_leastWinning_37 : decode cX1_leastWinning 37 = .ok (.iload 4, 2) := by decide +kernel
theorem dX1_leastWinning_39 : decode cX1_leastWinning 39 = .ok (.ifCond .eq 30, 3) := by decide +kernel
theorem dX1_leastWinning_42 : decode cX1_leastWinning 42 = .ok (.aload_n 0, 1) := by decide +kernel
theorem dX1_leastWinning_43 : decode cX1_leastWinning 43 = .ok (.getfield 15, 3) := by decide +kernel
theorem dX1_leastWinning_46 : decode cX1_leastWinning 46 = .ok (.iload_n 2, 1) := by decide +kernel
theorem dX1_leastWinning_47 : decode cX1_leastWinning 47 = .ok (.iload_n 3, 1) := by decide +kernel
theorem dX1_leastWinning_48 : decode cX1_leastWinning 48 = .ok (.invokevirtual 29, 3) := by decide +kernel
theorem dX1_leastWinning_51 : decode cX1_leastWinning 51 = .ok (.ifCond .eq 18, 3) := by decide +kernel
theorem dX1_leastWinning_54 : decode cX1_leastWinning 54 = .ok (.aload_n 0, 1) := by decide +kernel
theorem dX1_leastWinning_55 : decode cX1_leastWinning 55 = .ok (.iload_n 1, 1) := by decide +kernel
theorem dX1_leastWinning_56 : decode cX1_leastWinning 56 = .ok (.iconst 1, 1) := by decide +kernel
theorem dX1_leastWinning_57 : decode cX1_leastWinning 57 = .ok (.iload_n 3, 1) := by decide +kernel
theorem dX1_leastWinning_58 : decode cX1_leastWinning 58 = .ok (.ishl, 1) := by decide +kernel
theorem dX1_leastWinning_59 : decode cX1_leastWinning 59 = .ok (.ior, 1) := by decide +kernel
theorem dX1_leastWinning_60 : decode cX1_leastWinning 60 = .ok (.iload_n 3, 1) := by decide +kernel
theorem dX1_leastWinning_61 : decode cX1_leastWinning 61 = .ok (.invokevirtual 33, 3) := by decide +kernel
theorem dX1_leastWinning_64 : decode cX1_leastWinning 64 = .ok (.ifCond .ne 5, 3) := by decide +kernel
theorem dX1_leastWinning_67 : decode cX1_leastWinning 67 = .ok (.iload_n 3, 1) := by decide +kernel
theorem dX1_leastWinning_68 : decode cX1_leastWinning 68 = .ok (.ireturn, 1) := by decide +kernel
theorem dX1_leastWinning_69 : decode cX1_leastWinning 69 = .ok (.iinc 3 1, 3) := by decide +kernel
theorem dX1_leastWinning_72 : decode cX1_leastWinning 72 = .ok (.goto (-61), 3) := by decide +kernel
theorem dX1_leastWinning_75 : decode cX1_leastWinning 75 = .ok (.iconst (-1), 1) := by decide +kernel
theorem dX1_leastWinning_76 : decode cX1_leastWinning 76 = .ok (.ireturn, 1) := by decide +kernel
theorem dX2_init_0 : decode cX2_init 0 = .ok (.aload_n 0, 1) := by decide +kernel
theorem dX2_init_1 : decode cX2_init 1 = .ok (.invokespecial 3, 3) := by decide +kernel
theorem dX2_init_4 : decode cX2_init 4 = .ok (.aload_n 0, 1) := by decide +kernel
theorem dX2_init_5 : decode cX2_init 5 = .ok (.iconst 0, 1) := by decide +kernel
theorem dX2_init_6 : decode cX2_init 6 = .ok (.putfield 9, 3) := by decide +kernel
theorem dX2_init_9 : decode cX2_init 9 = .ok (.aload_n 0, 1) := by decide +kernel
theorem dX2_init_10 : decode cX2_init 10 = .ok (.iconst 0, 1) := by decide +kernel
theorem dX2_init_11 : decode cX2_init 11 = .ok (.putfield 15, 3) := by decide +kernel
theorem dX2_init_14 : decode cX2_init 14 = .ok (.aload_n 0, 1) := by decide +kernel
theorem dX2_init_15 : decode cX2_init 15 = .ok (.iconst 0, 1) := by decide +kernel
theorem dX2_init_16 : decode cX2_init 16 = .ok (.putfield 18, 3) := by decide +kernel
theorem dX2_init_19 : decode cX2_init 19 = .ok (.aload_n 0, 1) := by decide +kernel
theorem dX2_init_20 : decode cX2_init 20 = .ok (.iconst 0, 1) := by decide +kernel
theorem dX2_init_21 : decode cX2_init 21 = .ok (.putfield 21, 3) := by decide +kernel
theorem dX2_init_24 : decode cX2_init 24 = .ok (.aload_n 0, 1) := by decide +kernel
theorem dX2_init_25 : decode cX2_init 25 = .ok (.iconst 0, 1) := by decide +kernel
theorem dX2_init_26 : decode cX2_init 26 = .ok (.putfield 24, 3) := by decide +kernel
theorem dX2_init_29 : decode cX2_init 29 = .ok (.aload_n 0, 1) := by decide +kernel
theorem dX2_init_30 : decode cX2_init 30 = .ok (.iconst 0, 1) := by decide +kernel
theorem dX2_init_31 : decode cX2_init 31 = .ok (.putfield 27, 3) := by decide +kernel
theorem dX2_init_34 : decode cX2_init 34 = .ok (.aload_n 0, 1) := by decide +kernel
theorem dX2_init_35 : decode cX2_init 35 = .ok (.bipush 7, 2) := by decide +kernel
theorem dX2_init_37 : decode cX2_init 37 = .ok (.newarray .int, 2) := by decide +kernel
theorem dX2_init_39 : decode cX2_init 39 = .ok (.putfield 30, 3) := by decide +kernel
theorem dX2_init_42 : decode cX2_init 42 = .ok (.aload_n 0, 1) := by decide +kernel
theorem dX2_init_43 : decode cX2_init 43 = .ok (.bipush 7, 2) := by decide +kernel
theorem dX2_init_45 : decode cX2_init 45 = .ok (.newarray .int, 2) := by decide +kernel
theorem dX2_init_47 : decode cX2_init 47 = .ok (.putfield 34, 3) := by decide +kernel
theorem dX2_init_50 : decode cX2_init 50 = .ok (.aload_n 0, 1) := by decide +kernel
theorem dX2_init_51 : decode cX2_init 51 = .ok (.bipush 6, 2) := by decide +kernel
theorem dX2_init_53 : decode cX2_init 53 = .ok (.newarray .int, 2) := by decide +kernel
theorem dX2_init_55 : decode cX2_init 55 = .ok (.putfield 37, 3) := by decide +kernel
theorem dX2_init_58 : decode cX2_init 58 = .ok (.aload_n 0, 1) := by decide +kernel
theorem dX2_init_59 : decode cX2_init 59 = .ok (.bipush 6, 2) := by decide +kernel
theorem dX2_init_61 : decode cX2_init 61 = .ok (.newarray .int, 2) := by decide +kernel
theorem dX2_init_63 : decode cX2_init 63 = .ok (.putfield 40, 3) := by decide +kernel
theorem dX2_init_66 : decode cX2_init 66 = .ok (.aload_n 0, 1) := by decide +kernel
theorem dX2_init_67 : decode cX2_init 67 = .ok (.bipush 6, 2) := by decide +kernel
theorem dX2_init_69 : decode cX2_init 69 = .ok (.newarray .int, 2) := by decide +kernel
theorem dX2_init_71 : decode cX2_init 71 = .ok (.putfield 43, 3) := by decide +kernel
theorem dX2_init_74 : decode cX2_init 74 = .ok (.aload_n 0, 1) := by decide +kernel
theorem dX2_init_75 : decode cX2_init 75 = .ok (.bipush 6, 2) := by decide +kernel
theorem dX2_init_77 : decode cX2_init 77 = .ok (.newarray .int, 2) := by decide +kernel
theorem dX2_init_79 : decode cX2_init 79 = .ok (.putfield 46, 3) := by decide +kernel
theorem dX2_init_82 : decode cX2_init 82 = .ok (.aload_n 0, 1) := by decide +kernel
theorem dX2_init_83 : decode cX2_init 83 = .ok (.bipush 7, 2) := by decide +kernel
theorem dX2_init_85 : decode cX2_init 85 = .ok (.newarray .int, 2) := by decide +kernel
theorem dX2_init_87 : decode cX2_init 87 = .ok (.putfield 49, 3) := by decide +kernel
theorem dX2_init_90 : decode cX2_init 90 = .ok (.aload_n 0, 1) := by decide +kernel
theorem dX2_init_91 : decode cX2_init 91 = .ok (.bipush 49, 2) := by decide +kernel
theorem dX2_init_93 : decode cX2_init 93 = .ok (.newarray .int, 2) := by decide +kernel
theorem dX2_init_95 : decode cX2_init 95 = .ok (.putfield 52, 3) := by decide +kernel
theorem dX2_init_98 : decode cX2_init 98 = .ok (.aload_n 0, 1) := by decide +kernel
theorem dX2_init_99 : decode cX2_init 99 = .ok (.bipush 40, 2) := by decide +kernel
theorem dX2_init_101 : decode cX2_init 101 = .ok (.newarray .int, 2) := by decide +kernel
theorem dX2_init_103 : decode cX2_init 103 = .ok (.putfield 55, 3) := by decide +kernel
theorem dX2_init_106 : decode cX2_init 106 = .ok (.return_, 1) := by decide +kernel
theorem dX2_clear_0 : decode cX2_clear 0 = .ok (.aload_n 0, 1) := by decide +kernel
theorem dX2_clear_1 : decode cX2_clear 1 = .ok (.iconst 0, 1) := by decide +kernel
theorem dX2_clear_2 : decode cX2_clear 2 = .ok (.putfield 9, 3) := by decide +kernel
theorem dX2_clear_5 : decode cX2_clear 5 = .ok (.aload_n 0, 1) := by decide +kernel
theorem dX2_clear_6 : decode cX2_clear 6 = .ok (.iconst 0, 1) := by decide +kernel
theorem dX2_clear_7 : decode cX2_clear 7 = .ok (.putfield 15, 3) := by decide +kernel
theorem dX2_clear_10 : decode cX2_clear 10 = .ok (.aload_n 0, 1) := by decide +kernel
theorem dX2_clear_11 : decode cX2_clear 11 = .ok (.iconst 0, 1) := by decide +kernel
theorem dX2_clear_12 : decode cX2_clear 12 = .ok (.putfield 18, 3) := by decide +kernel
theorem dX2_clear_15 : decode cX2_clear 15 = .ok (.aload_n 0, 1) := by decide +kernel
theorem dX2_clear_16 : decode cX2_clear 16 = .ok (.iconst 0, 1) := by decide +kernel
theorem dX2_clear_17 : decode cX2_clear 17 = .ok (.putfield 21, 3) := by decide +kernel
theorem dX2_clear_20 : decode cX2_clear 20 = .ok (.aload_n 0, 1) := by decide +kernel
theorem dX2_clear_21 : decode cX2_clear 21 = .ok (.iconst 0, 1) := by decide +kernel
theorem dX2_clear_22 : decode cX2_clear 22 = .ok (.putfield 24, 3) := by decide +kernel
theorem dX2_clear_25 : decode cX2_clear 25 = .ok (.aload_n 0, 1) := by decide +kernel
theorem dX2_clear_26 : decode cX2_clear 26 = .ok (.iconst 0, 1) := by decide +kernel
theorem dX2_clear_27 : decode cX2_clear 27 = .ok (.putfield 27, 3) := by decide +kernel
theorem dX2_clear_30 : decode cX2_clear 30 = .ok (.aload_n 0, 1) := by decide +kernel
theorem dX2_clear_31 : decode cX2_clear 31 = .ok (.getfield 49, 3) := by decide +kernel
theorem dX2_clear_34 : decode cX2_clear 34 = .ok (.iconst 0, 1) := by decide +kernel
theorem dX2_clear_35 : decode cX2_clear 35 = .ok (.invokestatic 58, 3) := by decide +kernel
theorem dX2_clear_38 : decode cX2_clear 38 = .ok (.aload_n 0, 1) := by decide +kernel
theorem dX2_clear_39 : decode cX2_clear 39 = .ok (.getfield 52, 3) := by decide +kernel
theorem dX2_clear_42 : decode cX2_clear 42 = .ok (.iconst 0, 1) := by decide +kernel
theorem dX2_clear_43 : decode cX2_clear 43 = .ok (.invokestatic 58, 3) := by decide +kernel
theorem dX2_clear_46 : decode cX2_clear 46 = .ok (.return_, 1) := by decide +kernel
theorem dX2_become_0 : decode cX2_become 0 = .ok (.aload_n 0, 1) := by decide +kernel
theorem dX2_become_1 : decode cX2_become 1 = .ok (.aload_n 1, 1) := by decide +kernel
theorem dX2_become_2 : decode cX2_become 2 = .ok (.getfield 9, 3) := by decide +kernel
theorem dX2_become_5 : decode cX2_become 5 = .ok (.putfield 9, 3) := by decide +kernel
theorem dX2_become_8 : decode cX2_become 8 = .ok (.aload_n 0, 1) := by decide +kernel
theorem dX2_become_9 : decode cX2_become 9 = .ok (.aload_n 1, 1) := by decide +kernel
theorem dX2_become_10 : decode cX2_become 10 = .ok (.getfield 15, 3) := by decide +kernel
theorem dX2_become_13 : decode cX2_become 13 = .ok (.putfield 15, 3) := by decide +kernel
theorem dX2_become_16 : decode cX2_become 16 = .ok (.aload_n 0, 1) := by decide +kernel
theorem dX2_become_17 : decode cX2_become 17 = .ok (.aload_n 1, 1) := by decide +kernel
theorem dX2_become_18 : decode cX2_become 18 = .ok (.getfield 18, 3) := by decide +kernel
theorem dX2_become_21 : decode cX2_become 21 = .ok (.putfield 18, 3) := by decide +kernel
theorem dX2_become_24 : decode cX2_become 24 = .ok (.aload_n 0, 1) := by decide +kernel
theorem dX2_become_25 : decode cX2_become 25 = .ok (.aload_n 1, 1) := by decide +kernel
theorem dX2_become_26 : decode cX2_become 26 = .ok (.getfield 21, 3) := by decide +kernel
theorem dX2_become_29 : decode cX2_become 29 = .ok (.putfield 21, 3) := by decide +kernel
theorem dX2_become_32 : decode cX2_become 32 = .ok (.aload_n 0, 1) := by decide +kernel
theorem dX2_become_33 : decode cX2_become 33 = .ok (.aload_n 1, 1) := by decide +kernel
theorem dX2_become_34 : decode cX2_become 34 = .ok (.getfield 24, 3) := by decide +kernel
theorem dX2_become_37 : decode cX2_become 37 = .ok (.putfield 24, 3) := by decide +kernel
theorem dX2_become_40 : decode cX2_become 40 = .ok (.aload_n 0, 1) := by decide +kernel
theorem dX2_become_41 : decode cX2_become 41 = .ok (.aload_n 1, 1) := by decide +kernel
theorem dX2_become_42 : decode cX2_become 42 = .ok (.getfield 27, 3) := by decide +kernel
theorem dX2_become_45 : decode cX2_become 45 = .ok (.putfield 27, 3) := by decide +kernel
theorem dX2_become_48 : decode cX2_become 48 = .ok (.aload_n 1, 1) := by decide +kernel
theorem dX2_become_49 : decode cX2_become 49 = .ok (.getfield 30, 3) := by decide +kernel
theorem dX2_become_52 : decode cX2_become 52 = .ok (.iconst 0, 1) := by decide +kernel
theorem dX2_become_53 : decode cX2_become 53 = .ok (.aload_n 0, 1) := by decide +kernel
theorem dX2_become_54 : decode cX2_become 54 = .ok (.getfield 30, 3) := by decide +kernel
theorem dX2_become_57 : decode cX2_become 57 = .ok (.iconst 0, 1) := by decide +kernel
theorem dX2_become_58 : decode cX2_become 58 = .ok (.bipush 7, 2) := by decide +kernel
theorem dX2_become_60 : decode cX2_become 60 = .ok (.invokestatic 64, 3) := by decide +kernel
theorem dX2_become_63 : decode cX2_become 63 = .ok (.aload_n 1, 1) := by decide +kernel
theorem dX2_become_64 : decode cX2_become 64 = .ok (.getfield 34, 3) := by decide +kernel
theorem dX2_become_67 : decode cX2_become 67 = .ok (.iconst 0, 1) := by decide +kernel
theorem dX2_become_68 : decode cX2_become 68 = .ok (.aload_n 0, 1) := by decide +kernel
theorem dX2_become_69 : decode cX2_become 69 = .ok (.getfield 34, 3) := by decide +kernel
theorem dX2_become_72 : decode cX2_become 72 = .ok (.iconst 0, 1) := by decide +kernel
theorem dX2_become_73 : decode cX2_become 73 = .ok (.bipush 7, 2) := by decide +kernel
theorem dX2_become_75 : decode cX2_become 75 = .ok (.invokestatic 64, 3) := by decide +kernel
theorem dX2_become_78 : decode cX2_become 78 = .ok (.aload_n 1, 1) := by decide +kernel
theorem dX2_become_79 : decode cX2_become 79 = .ok (.getfield 37, 3) := by decide +kernel
theorem dX2_become_82 : decode cX2_become 82 = .ok (.iconst 0, 1) := by decide +kernel
theorem dX2_become_83 : decode cX2_become 83 = .ok (.aload_n 0, 1) := by decide +kernel
theorem dX2_become_84 : decode cX2_become 84 = .ok (.getfield 37, 3) := by decide +kernel
theorem dX2_become_87 : decode cX2_become 87 = .ok (.iconst 0, 1) := by decide +kernel
theorem dX2_become_88 : decode cX2_become 88 = .ok (.bipush 6, 2) := by decide +kernel
theorem dX2_become_90 : decode cX2_become 90 = .ok (.invokestatic 64, 3) := by decide +kernel
theorem dX2_become_93 : decode cX2_become 93 = .ok (.aload_n 1, 1) := by decide +kernel
theorem dX2_become_94 : decode cX2_become 94 = .ok (.getfield 40, 3) := by decide +kernel
theorem dX2_become_97 : decode cX2_become 97 = .ok (.iconst 0, 1) := by decide +kernel
theorem dX2_become_98 : decode cX2_become 98 = .ok (.aload_n 0, 1) := by decide +kernel
theorem dX2_become_99 : decode cX2_become 99 = .ok (.getfield 40, 3) := by decide +kernel
theorem dX2_become_102 : decode cX2_become 102 = .ok (.iconst 0, 1) := by decide +kernel
theorem dX2_become_103 : decode cX2_become 103 = .ok (.bipush 6, 2) := by decide +kernel
theorem dX2_become_105 : decode cX2_become 105 = .ok (.invokestatic 64, 3) := by decide +kernel
theorem dX2_become_108 : decode cX2_become 108 = .ok (.aload_n 1, 1) := by decide +kernel
theorem dX2_become_109 : decode cX2_become 109 = .ok (.getfield 43, 3) := by decide +kernel
theorem dX2_become_112 : decode cX2_become 112 = .ok (.iconst 0, 1) := by decide +kernel
theorem dX2_become_113 : decode cX2_become 113 = .ok (.aload_n 0, 1) := by decide +kernel
theorem dX2_become_114 : decode cX2_become 114 = .ok (.getfield 43, 3) := by decide +kernel
theorem dX2_become_117 : decode cX2_become 117 = .ok (.iconst 0, 1) := by decide +kernel
theorem dX2_become_118 : decode cX2_become 118 = .ok (.bipush 6, 2) := by decide +kernel
theorem dX2_become_120 : decode cX2_become 120 = .ok (.invokestatic 64, 3) := by decide +kernel
theorem dX2_become_123 : decode cX2_become 123 = .ok (.aload_n 1, 1) := by decide +kernel
theorem dX2_become_124 : decode cX2_become 124 = .ok (.getfield 46, 3) := by decide +kernel
theorem dX2_become_127 : decode cX2_become 127 = .ok (.iconst 0, 1) := by decide +kernel
theorem dX2_become_128 : decode cX2_become 128 = .ok (.aload_n 0, 1) := by decide +kernel
theorem dX2_become_129 : decode cX2_become 129 = .ok (.getfield 46, 3) := by decide +kernel
theorem dX2_become_132 : decode cX2_become 132 = .ok (.iconst 0, 1) := by decide +kernel
theorem dX2_become_133 : decode cX2_become 133 = .ok (.bipush 6, 2) := by decide +kernel
theorem dX2_become_135 : decode cX2_become 135 = .ok (.invokestatic 64, 3) := by decide +kernel
theorem dX2_become_138 : decode cX2_become 138 = .ok (.aload_n 1, 1) := by decide +kernel
theorem dX2_become_139 : decode cX2_become 139 = .ok (.getfield 49, 3) := by decide +kernel
theorem dX2_become_142 : decode cX2_become 142 = .ok (.iconst 0, 1) := by decide +kernel
theorem dX2_become_143 : decode cX2_become 143 = .ok (.aload_n 0, 1) := by decide +kernel
theorem dX2_become_144 : decode cX2_become 144 = .ok (.getfield 49, 3) := by decide +kernel
theorem dX2_become_147 : decode cX2_become 147 = .ok (.iconst 0, 1) := by decide +kernel
theorem dX2_become_148 : decode cX2_become 148 = .ok (.bipush 7, 2) := by decide +kernel
theorem dX2_become_150 : decode cX2_become 150 = .ok (.invokestatic 64, 3) := by decide +kernel
theorem dX2_become_153 : decode cX2_become 153 = .ok (.aload_n 1, 1) := by decide +kernel
theorem dX2_become_154 : decode cX2_become 154 = .ok (.getfield 52, 3) := by decide +kernel
theorem dX2_become_157 : decode cX2_become 157 = .ok (.iconst 0, 1) := by decide +kernel
theorem dX2_become_158 : decode cX2_become 158 = .ok (.aload_n 0, 1) := by decide +kernel
theorem dX2_become_159 : decode cX2_become 159 = .ok (.getfield 52, 3) := by decide +kernel
theorem dX2_become_162 : decode cX2_become 162 = .ok (.iconst 0, 1) := by decide +kernel
theorem dX2_become_163 : decode cX2_become 163 = .ok (.bipush 49, 2) := by decide +kernel
theorem dX2_become_165 : decode cX2_become 165 = .ok (.invokestatic 64, 3) := by decide +kernel
theorem dX2_become_168 : decode cX2_become 168 = .ok (.aload_n 1, 1) := by decide +kernel
theorem dX2_become_169 : decode cX2_become 169 = .ok (.getfield 55, 3) := by decide +kernel
theorem dX2_become_172 : decode cX2_become 172 = .ok (.iconst 0, 1) := by decide +kernel
theorem dX2_become_173 : decode cX2_become 173 = .ok (.aload_n 0, 1) := by decide +kernel
theorem dX2_become_174 : decode cX2_become 174 = .ok (.getfield 55, 3) := by decide +kernel
theorem dX2_become_177 : decode cX2_become 177 = .ok (.iconst 0, 1) := by decide +kernel
theorem dX2_become_178 : decode cX2_become 178 = .ok (.bipush 40, 2) := by decide +kernel
theorem dX2_become_180 : decode cX2_become 180 = .ok (.invokestatic 64, 3) := by decide +kernel
theorem dX2_become_183 : decode cX2_become 183 = .ok (.return_, 1) := by decide +kernel
theorem dX2_setPlaces_0 : decode cX2_setPlaces 0 = .ok (.aload_n 0, 1) := by decide +kernel
theorem dX2_setPlaces_1 : decode cX2_setPlaces 1 = .ok (.iload_n 1, 1) := by decide +kernel
theorem dX2_setPlaces_2 : decode cX2_setPlaces 2 = .ok (.putfield 9, 3) := by decide +kernel
theorem dX2_setPlaces_5 : decode cX2_setPlaces 5 = .ok (.iconst 0, 1) := by decide +kernel
theorem dX2_setPlaces_6 : decode cX2_setPlaces 6 = .ok (.istore_n 2, 1) := by decide +kernel
theorem dX2_setPlaces_7 : decode cX2_setPlaces 7 = .ok (.iload_n 2, 1) := by decide +kernel
theorem dX2_setPlaces_8 : decode cX2_setPlaces 8 = .ok (.bipush 7, 2) := by decide +kernel
theorem dX2_setPlaces_10 : decode cX2_setPlaces 10 = .ok (.if_icmp .ge 23, 3) := by decide +kernel
theorem dX2_setPlaces_13 : decode cX2_setPlaces 13 = .ok (.aload_n 0, 1) := by decide +kernel
theorem dX2_setPlaces_14 : decode cX2_setPlaces 14 = .ok (.getfield 30, 3) := by decide +kernel
theorem dX2_setPlaces_17 : decode cX2_setPlaces 17 = .ok (.iload_n 2, 1) := by decide +kernel
theorem dX2_setPlaces_18 : decode cX2_setPlaces 18 = .ok (.iload_n 2, 1) := by decide +kernel
theorem dX2_setPlaces_19 : decode cX2_setPlaces 19 = .ok (.iastore, 1) := by decide +kernel
theorem dX2_setPlaces_20 : decode cX2_setPlaces 20 = .ok (.aload_n 0, 1) := by decide +kernel
theorem dX2_setPlaces_21 : decode cX2_setPlaces 21 = .ok (.getfield 34, 3) := by decide +kernel
theorem dX2_setPlaces_24 : decode cX2_setPlaces 24 = .ok (.iload_n 2, 1) := by decide +kernel
theorem dX2_setPlaces_25 : decode cX2_setPlaces 25 = .ok (.iload_n 2, 1) := by decide +kernel
theorem dX2_setPlaces_26 : decode cX2_setPlaces 26 = .ok (.iastore, 1) := by decide +kernel
theorem dX2_setPlaces_27 : decode cX2_setPlaces 27 = .ok (.iinc 2 1, 3) := by decide +kernel
theorem dX2_setPlaces_30 : decode cX2_setPlaces 30 = .ok (.goto (-23), 3) := by decide +kernel
theorem dX2_setPlaces_33 : decode cX2_setPlaces 33 = .ok (.return_, 1) := by decide +kernel
theorem dX2_isNone_0 : decode cX2_isNone 0 = .ok (.aload_n 0, 1) := by decide +kernel
theorem dX2_isNone_1 : decode cX2_isNone 1 = .ok (.getfield 9, 3) := by decide +kernel
theorem dX2_isNone_4 : decode cX2_isNone 4 = .ok (.ifCond .ne 7, 3) := by decide +kernel
theorem dX2_isNone_7 : decode cX2_isNone 7 = .ok (.iconst 1, 1) := by decide +kernel
theorem dX2_isNone_8 : decode cX2_isNone 8 = .ok (.goto 4, 3) := by decide +kernel
theorem dX2_isNone_11 : decode cX2_isNone 11 = .ok (.iconst 0, 1) := by decide +kernel
theorem dX2_isNone_12 : decode cX2_isNone 12 = .ok (.ireturn, 1) := by decide +kernel
theorem dX2_holds_0 : decode cX2_holds 0 = .ok (.iload_n 1, 1) := by decide +kernel
theorem dX2_holds_1 : decode cX2_holds 1 = .ok (.ifCond .lt 24, 3) := by decide +kernel
theorem dX2_holds_4 : decode cX2_holds 4 = .ok (.iload_n 1, 1) := by decide +kernel
theorem dX2_holds_5 : decode cX2_holds 5 = .ok (.aload_n 0, 1) := by decide +kernel
theorem dX2_holds_6 : decode cX2_holds 6 = .ok (.getfield 9, 3) := by decide +kernel
theorem dX2_holds_9 : decode cX2_holds 9 = .ok (.if_icmp .ge 16, 3) := by decide +kernel
theorem dX2_holds_12 : decode cX2_holds 12 = .ok (.aload_n 0, 1) := by decide +kernel
theorem dX2_holds_13 : decode cX2_holds 13 = .ok (.getfield 9, 3) := by decide +kernel
theorem dX2_holds_16 : decode cX2_holds 16 = .ok (.bipush 7, 2) := by decide +kernel
theorem dX2_holds_18 : decode cX2_holds 18 = .ok (.if_icmp .gt 7, 3) := by decide +kernel
theorem dX2_holds_21 : decode cX2_holds 21 = .ok (.iconst 1, 1) := by decide +kernel
theorem dX2_holds_22 : decode cX2_holds 22 = .ok (.goto 4, 3) := by decide +kernel
theorem dX2_holds_25 : decode cX2_holds 25 = .ok (.iconst 0, 1) := by decide +kernel
theorem dX2_holds_26 : decode cX2_holds 26 = .ok (.ireturn, 1) := by decide +kernel
theorem dX2_blank_0 : decode cX2_blank 0 = .ok (.aload_n 0, 1) := by decide +kernel
theorem dX2_blank_1 : decode cX2_blank 1 = .ok (.getfield 9, 3) := by decide +kernel
theorem dX2_blank_4 : decode cX2_blank 4 = .ok (.iconst 1, 1) := by decide +kernel
theorem dX2_blank_5 : decode cX2_blank 5 = .ok (.isub, 1) := by decide +kernel
theorem dX2_blank_6 : decode cX2_blank 6 = .ok (.ireturn, 1) := by decide +kernel
theorem dX2_placeOf_0 : decode cX2_placeOf 0 = .ok (.aload_n 0, 1) := by decide +kernel
theorem dX2_placeOf_1 : decode cX2_placeOf 1 = .ok (.getfield 34, 3) := by decide +kernel
theorem dX2_placeOf_4 : decode cX2_placeOf 4 = .ok (.aload_n 0, 1) := by decide +kernel
theorem dX2_placeOf_5 : decode cX2_placeOf 5 = .ok (.getfield 9, 3) := by decide +kernel
theorem dX2_placeOf_8 : decode cX2_placeOf 8 = .ok (.iload_n 1, 1) := by decide +kernel
theorem dX2_placeOf_9 : decode cX2_placeOf 9 = .ok (.invokestatic 70, 3) := by decide +kernel
theorem dX2_placeOf_12 : decode cX2_placeOf 12 = .ok (.ireturn, 1) := by decide +kernel
theorem dX2_suitOf_0 : decode cX2_suitOf 0 = .ok (.aload_n 0, 1) := by decide +kernel
theorem dX2_suitOf_1 : decode cX2_suitOf 1 = .ok (.getfield 52, 3) := by decide +kernel
theorem dX2_suitOf_4 : decode cX2_suitOf 4 = .ok (.iload_n 1, 1) := by decide +kernel
theorem dX2_suitOf_5 : decode cX2_suitOf 5 = .ok (.bipush 7, 2) := by decide +kernel
theorem dX2_suitOf_7 : decode cX2_suitOf 7 = .ok (.imul, 1) := by decide +kernel
theorem dX2_suitOf_8 : decode cX2_suitOf 8 = .ok (.iload_n 2, 1) := by decide +kernel
theorem dX2_suitOf_9 : decode cX2_suitOf 9 = .ok (.iadd, 1) := by decide +kernel
theorem dX2_suitOf_10 : decode cX2_suitOf 10 = .ok (.iaload, 1) := by decide +kernel
theorem dX2_suitOf_11 : decode cX2_suitOf 11 = .ok (.ireturn, 1) := by decide +kernel
theorem dX2_setSuit_0 : decode cX2_setSuit 0 = .ok (.aload_n 0, 1) := by decide +kernel
theorem dX2_setSuit_1 : decode cX2_setSuit 1 = .ok (.getfield 52, 3) := by decide +kernel
theorem dX2_setSuit_4 : decode cX2_setSuit 4 = .ok (.iload_n 1, 1) := by decide +kernel
theorem dX2_setSuit_5 : decode cX2_setSuit 5 = .ok (.bipush 7, 2) := by decide +kernel
theorem dX2_setSuit_7 : decode cX2_setSuit 7 = .ok (.imul, 1) := by decide +kernel
theorem dX2_setSuit_8 : decode cX2_setSuit 8 = .ok (.iload_n 2, 1) := by decide +kernel
theorem dX2_setSuit_9 : decode cX2_setSuit 9 = .ok (.iadd, 1) := by decide +kernel
theorem dX2_setSuit_10 : decode cX2_setSuit 10 = .ok (.iload_n 3, 1) := by decide +kernel
theorem dX2_setSuit_11 : decode cX2_setSuit 11 = .ok (.iastore, 1) := by decide +kernel
theorem dX2_setSuit_12 : decode cX2_setSuit 12 = .ok (.return_, 1) := by decide +kernel
theorem dX2_suitSum_0 : decode cX2_suitSum 0 = .ok (.iconst 0, 1) := by decide +kernel
theorem dX2_suitSum_1 : decode cX2_suitSum 1 = .ok (.istore_n 1, 1) := by decide +kernel
theorem dX2_suitSum_2 : decode cX2_suitSum 2 = .ok (.iconst 0, 1) := by decide +kernel
theorem dX2_suitSum_3 : decode cX2_suitSum 3 = .ok (.istore_n 2, 1) := by decide +kernel
theorem dX2_suitSum_4 : decode cX2_suitSum 4 = .ok (.iload_n 2, 1) := by decide +kernel
theorem dX2_suitSum_5 : decode cX2_suitSum 5 = .ok (.aload_n 0, 1) := by decide +kernel
theorem dX2_suitSum_6 : decode cX2_suitSum 6 = .ok (.getfield 9, 3) := by decide +kernel
theorem dX2_suitSum_9 : decode cX2_suitSum 9 = .ok (.if_icmp .ge 23, 3) := by decide +kernel
theorem dX2_suitSum_12 : decode cX2_suitSum 12 = .ok (.iload_n 1, 1) := by decide +kernel
theorem dX2_suitSum_13 : decode cX2_suitSum 13 = .ok (.aload_n 0, 1) := by decide +kernel
theorem dX2_suitSum_14 : decode cX2_suitSum 14 = .ok (.aload_n 0, 1) := by decide +kernel
theorem dX2_suitSum_15 : decode cX2_suitSum 15 = .ok (.getfield 34, 3) := by decide +kernel
theorem dX2_suitSum_18 : decode cX2_suitSum 18 = .ok (.iload_n 2, 1) := by decide +kernel
theorem dX2_suitSum_19 : decode cX2_suitSum 19 = .ok (.iaload, 1) := by decide +kernel
theorem dX2_suitSum_20 : decode cX2_suitSum 20 = .ok (.iload_n 2, 1) := by decide +kernel
theorem dX2_suitSum_21 : decode cX2_suitSum 21 = .ok (.invokevirtual 76, 3) := by decide +kernel
theorem dX2_suitSum_24 : decode cX2_suitSum 24 = .ok (.iadd, 1) := by decide +kernel
theorem dX2_suitSum_25 : decode cX2_suitSum 25 = .ok (.istore_n 1, 1) := by decide +kernel
theorem dX2_suitSum_26 : decode cX2_suitSum 26 = .ok (.iinc 2 1, 3) := by decide +kernel
theorem dX2_suitSum_29 : decode cX2_suitSum 29 = .ok (.goto (-25), 3) := by decide +kernel
theorem dX2_suitSum_32 : decode cX2_suitSum 32 = .ok (.iload_n 1, 1) := by decide +kernel
theorem dX2_suitSum_33 : decode cX2_suitSum 33 = .ok (.ireturn, 1) := by decide +kernel
theorem dX2_suitGain_0 : decode cX2_suitGain 0 = .ok (.aload_n 0, 1) := by decide +kernel
theorem dX2_suitGain_1 : decode cX2_suitGain 1 = .ok (.getfield 34, 3) := by decide +kernel
theorem dX2_suitGain_4 : decode cX2_suitGain 4 = .ok (.iload_n 1, 1) := by decide +kernel
theorem dX2_suitGain_5 : decode cX2_suitGain 5 = .ok (.iaload, 1) := by decide +kernel
theorem dX2_suitGain_6 : decode cX2_suitGain 6 = .ok (.istore_n 3, 1) := by decide +kernel
theorem dX2_suitGain_7 : decode cX2_suitGain 7 = .ok (.aload_n 0, 1) := by decide +kernel
theorem dX2_suitGain_8 : decode cX2_suitGain 8 = .ok (.getfield 34, 3) := by decide +kernel
theorem dX2_suitGain_11 : decode cX2_suitGain 11 = .ok (.iload_n 2, 1) := by decide +kernel
theorem dX2_suitGain_12 : decode cX2_suitGain 12 = .ok (.iaload, 1) := by decide +kernel
theorem dX2_suitGain_13 : decode cX2_suitGain 13 = .ok (.istore 4, 2) := by decide +kernel
theorem dX2_suitGain_15 : decode cX2_suitGain 15 = .ok (.aload_n 0, 1) := by decide +kernel
theorem dX2_suitGain_16 : decode cX2_suitGain 16 = .ok (.iload 4, 2) := by decide +kernel
theorem dX2_suitGain_18 : decode cX2_suitGain 18 = .ok (.iload_n 1, 1) := by decide +kernel
theorem dX2_suitGain_19 : decode cX2_suitGain 19 = .ok (.invokevirtual 76, 3) := by decide +kernel
theorem dX2_suitGain_22 : decode cX2_suitGain 22 = .ok (.aload_n 0, 1) := by decide +kernel
theorem dX2_suitGain_23 : decode cX2_suitGain 23 = .ok (.iload_n 3, 1) := by decide +kernel
theorem dX2_suitGain_24 : decode cX2_suitGain 24 = .ok (.iload_n 2, 1) := by decide +kernel
theorem dX2_suitGain_25 : decode cX2_suitGain 25 = .ok (.invokevirtual 76, 3) := by decide +kernel
theorem dX2_suitGain_28 : decode cX2_suitGain 28 = .ok (.iadd, 1) := by decide +kernel
theorem dX2_suitGain_29 : decode cX2_suitGain 29 = .ok (.istore 5, 2) := by decide +kernel
theorem dX2_suitGain_31 : decode cX2_suitGain 31 = .ok (.iload 5, 2) := by decide +kernel
theorem dX2_suitGain_33 : decode cX2_suitGain 33 = .ok (.aload_n 0, 1) := by decide +kernel
theorem dX2_suitGain_34 : decode cX2_suitGain 34 = .ok (.iload_n 3, 1) := by decide +kernel
theorem dX2_suitGain_35 : decode cX2_suitGain 35 = .ok (.iload_n 1, 1) := by decide +kernel
theorem dX2_suitGain_36 : decode cX2_suitGain 36 = .ok (.invokevirtual 76, 3) := by decide +kernel
theorem dX2_suitGain_39 : decode cX2_suitGain 39 = .ok (.isub, 1) := by decide +kernel
theorem dX2_suitGain_40 : decode cX2_suitGain 40 = .ok (.aload_n 0, 1) := by decide +kernel
theorem dX2_suitGain_41 : decode cX2_suitGain 41 = .ok (.iload 4, 2) := by decide +kernel
theorem dX2_suitGain_43 : decode cX2_suitGain 43 = .ok (.iload_n 2, 1) := by decide +kernel
theorem dX2_suitGain_44 : decode cX2_suitGain 44 = .ok (.invokevirtual 76, 3) := by decide +kernel
theorem dX2_suitGain_47 : decode cX2_suitGain 47 = .ok (.isub, 1) := by decide +kernel
theorem dX2_suitGain_48 : decode cX2_suitGain 48 = .ok (.ireturn, 1) := by decide +kernel
theorem dX2_setFoes_0 : decode cX2_setFoes 0 = .ok (.aload_n 0, 1) := by decide +kernel
theorem dX2_setFoes_1 : decode cX2_setFoes 1 = .ok (.getfield 49, 3) := by decide +kernel
theorem dX2_setFoes_4 : decode cX2_setFoes 4 = .ok (.iload_n 1, 1) := by decide +kernel
theorem dX2_setFoes_5 : decode cX2_setFoes 5 = .ok (.dup2, 1) := by decide +kernel
theorem dX2_setFoes_6 : decode cX2_setFoes 6 = .ok (.iaload, 1) := by decide +kernel
theorem dX2_setFoes_7 : decode cX2_setFoes 7 = .ok (.iconst 1, 1) := by decide +kernel
theorem dX2_setFoes_8 : decode cX2_setFoes 8 = .ok (.iload_n 2, 1) := by decide +kernel
theorem dX2_setFoes_9 : decode cX2_setFoes 9 = .ok (.ishl, 1) := by decide +kernel
theorem dX2_setFoes_10 : decode cX2_setFoes 10 = .ok (.ior, 1) := by decide +kernel
theorem dX2_setFoes_11 : decode cX2_setFoes 11 = .ok (.iastore, 1) := by decide +kernel
theorem dX2_setFoes_12 : decode cX2_setFoes 12 = .ok (.aload_n 0, 1) := by decide +kernel
theorem dX2_setFoes_13 : decode cX2_setFoes 13 = .ok (.getfield 49, 3) := by decide +kernel
theorem dX2_setFoes_16 : decode cX2_setFoes 16 = .ok (.iload_n 2, 1) := by decide +kernel
theorem dX2_setFoes_17 : decode cX2_setFoes 17 = .ok (.dup2, 1) := by decide +kernel
theorem dX2_setFoes_18 : decode cX2_setFoes 18 = .ok (.iaload, 1) := by decide +kernel
theorem dX2_setFoes_19 : decode cX2_setFoes 19 = .ok (.iconst 1, 1) := by decide +kernel
theorem dX2_setFoes_20 : decode cX2_setFoes 20 = .ok (.iload_n 1, 1) := by decide +kernel
theorem dX2_setFoes_21 : decode cX2_setFoes 21 = .ok (.ishl, 1) := by decide +kernel
theorem dX2_setFoes_22 : decode cX2_setFoes 22 = .ok (.ior, 1) := by decide +kernel
theorem dX2_setFoes_23 : decode cX2_setFoes 23 = .ok (.iastore, 1) := by decide +kernel
theorem dX2_setFoes_24 : decode cX2_setFoes 24 = .ok (.return_, 1) := by decide +kernel
theorem dX2_areFoes_0 : decode cX2_areFoes 0 = .ok (.aload_n 0, 1) := by decide +kernel
theorem dX2_areFoes_1 : decode cX2_areFoes 1 = .ok (.getfield 49, 3) := by decide +kernel
theorem dX2_areFoes_4 : decode cX2_areFoes 4 = .ok (.iload_n 1, 1) := by decide +kernel
theorem dX2_areFoes_5 : decode cX2_areFoes 5 = .ok (.iaload, 1) := by decide +kernel
theorem dX2_areFoes_6 : decode cX2_areFoes 6 = .ok (.iload_n 2, 1) := by decide +kernel
theorem dX2_areFoes_7 : decode cX2_areFoes 7 = .ok (.ishr, 1) := by decide +kernel
theorem dX2_areFoes_8 : decode cX2_areFoes 8 = .ok (.iconst 1, 1) := by decide +kernel
theorem dX2_areFoes_9 : decode cX2_areFoes 9 = .ok (.iand, 1) := by decide +kernel
theorem dX2_areFoes_10 : decode cX2_areFoes 10 = .ok (.ifCond .eq 7, 3) := by decide +kernel
theorem dX2_areFoes_13 : decode cX2_areFoes 13 = .ok (.iconst 1, 1) := by decide +kernel
theorem dX2_areFoes_14 : decode cX2_areFoes 14 = .ok (.goto 4, 3) := by decide +kernel
theorem dX2_areFoes_17 : decode cX2_areFoes 17 = .ok (.iconst 0, 1) := by decide +kernel
theorem dX2_areFoes_18 : decode cX2_areFoes 18 = .ok (.ireturn, 1) := by decide +kernel
theorem dX2_foePairs_0 : decode cX2_foePairs 0 = .ok (.iconst 0, 1) := by decide +kernel
theorem dX2_foePairs_1 : decode cX2_foePairs 1 = .ok (.istore_n 1, 1) := by decide +kernel
theorem dX2_foePairs_2 : decode cX2_foePairs 2 = .ok (.iconst 0, 1) := by decide +kernel
theorem dX2_foePairs_3 : decode cX2_foePairs 3 = .ok (.istore_n 2, 1) := by decide +kernel
theorem dX2_foePairs_4 : decode cX2_foePairs 4 = .ok (.iload_n 2, 1) := by decide +kernel
theorem dX2_foePairs_5 : decode cX2_foePairs 5 = .ok (.aload_n 0, 1) := by decide +kernel
theorem dX2_foePairs_6 : decode cX2_foePairs 6 = .ok (.getfield 9, 3) := by decide +kernel
theorem dX2_foePairs_9 : decode cX2_foePairs 9 = .ok (.if_icmp .ge 21, 3) := by decide +kernel
theorem dX2_foePairs_12 : decode cX2_foePairs 12 = .ok (.iload_n 1, 1) := by decide +kernel
theorem dX2_foePairs_13 : decode cX2_foePairs 13 = .ok (.aload_n 0, 1) := by decide +kernel
theorem dX2_foePairs_14 : decode cX2_foePairs 14 = .ok (.getfield 49, 3) := by decide +kernel
theorem dX2_foePairs_17 : decode cX2_foePairs 17 = .ok (.iload_n 2, 1) := by decide +kernel
theorem dX2_foePairs_18 : decode cX2_foePairs 18 = .ok (.iaload, 1) := by decide +kernel
theorem dX2_foePairs_19 : decode cX2_foePairs 19 = .ok (.invokestatic 80, 3) := by decide +kernel
theorem dX2_foePairs_22 : decode cX2_foePairs 22 = .ok (.iadd, 1) := by decide +kernel
theorem dX2_foePairs_23 : decode cX2_foePairs 23 = .ok (.istore_n 1, 1) := by decide +kernel
theorem dX2_foePairs_24 : decode cX2_foePairs 24 = .ok (.iinc 2 1, 3) := by decide +kernel
theorem dX2_foePairs_27 : decode cX2_foePairs 27 = .ok (.goto (-23), 3) := by decide +kernel
theorem dX2_foePairs_30 : decode cX2_foePairs 30 = .ok (.iload_n 1, 1) := by decide +kernel
theorem dX2_foePairs_31 : decode cX2_foePairs 31 = .ok (.iconst 2, 1) := by decide +kernel
theorem dX2_foePairs_32 : decode cX2_foePairs 32 = .ok (.idiv, 1) := by decide +kernel
theorem dX2_foePairs_33 : decode cX2_foePairs 33 = .ok (.ireturn, 1) := by decide +kernel
theorem dX2_canLeap_0 : decode cX2_canLeap 0 = .ok (.aload_n 0, 1) := by decide +kernel
theorem dX2_canLeap_1 : decode cX2_canLeap 1 = .ok (.getfield 18, 3) := by decide +kernel
theorem dX2_canLeap_4 : decode cX2_canLeap 4 = .ok (.iload_n 1, 1) := by decide +kernel
theorem dX2_canLeap_5 : decode cX2_canLeap 5 = .ok (.iload_n 2, 1) := by decide +kernel
theorem dX2_canLeap_6 : decode cX2_canLeap 6 = .ok (.isub, 1) := by decide +kernel
theorem dX2_canLeap_7 : decode cX2_canLeap 7 = .ok (.invokestatic 86, 3) := by decide +kernel
theorem dX2_canLeap_10 : decode cX2_canLeap 10 = .ok (.ishr, 1) := by decide +kernel
theorem dX2_canLeap_11 : decode cX2_canLeap 11 = .ok (.iconst 1, 1) := by decide +kernel
theorem dX2_canLeap_12 : decode cX2_canLeap 12 = .ok (.iand, 1) := by decide +kernel
theorem dX2_canLeap_13 : decode cX2_canLeap 13 = .ok (.ifCond .eq 7, 3) := by decide +kernel
theorem dX2_canLeap_16 : decode cX2_canLeap 16 = .ok (.iconst 1, 1) := by decide +kernel
theorem dX2_canLeap_17 : decode cX2_canLeap 17 = .ok (.goto 4, 3) := by decide +kernel
theorem dX2_canLeap_20 : decode cX2_canLeap 20 = .ok (.iconst 0, 1) := by decide +kernel
theorem dX2_canLeap_21 : decode cX2_canLeap 21 = .ok (.ireturn, 1) := by decide +kernel
theorem dX2_lawsIn_0 : decode cX2_lawsIn 0 = .ok (.iconst 0, 1) := by decide +kernel
theorem dX2_lawsIn_1 : decode cX2_lawsIn 1 = .ok (.istore_n 2, 1) := by decide +kernel
theorem dX2_lawsIn_2 : decode cX2_lawsIn 2 = .ok (.iconst 0, 1) := by decide +kernel
theorem dX2_lawsIn_3 : decode cX2_lawsIn 3 = .ok (.istore_n 3, 1) := by decide +kernel
theorem dX2_lawsIn_4 : decode cX2_lawsIn 4 = .ok (.iload_n 3, 1) := by decide +kernel
theorem dX2_lawsIn_5 : decode cX2_lawsIn 5 = .ok (.aload_n 0, 1) := by decide +kernel
theorem dX2_lawsIn_6 : decode cX2_lawsIn 6 = .ok (.getfield 21, 3) := by decide +kernel
theorem dX2_lawsIn_9 : decode cX2_lawsIn 9 = .ok (.if_icmp .ge 42, 3) := by decide +kernel
theorem dX2_lawsIn_12 : decode cX2_lawsIn 12 = .ok (.aload_n 0, 1) := by decide +kernel
theorem dX2_lawsIn_13 : decode cX2_lawsIn 13 = .ok (.getfield 43, 3) := by decide +kernel
theorem dX2_lawsIn_16 : decode cX2_lawsIn 16 = .ok (.iload_n 3, 1) := by decide +kernel
theorem dX2_lawsIn_17 : decode cX2_lawsIn 17 = .ok (.iaload, 1) := by decide +kernel
theorem dX2_lawsIn_18 : decode cX2_lawsIn 18 = .ok (.istore 4, 2) := by decide +kernel
theorem dX2_lawsIn_20 : decode cX2_lawsIn 20 = .ok (.iload 4, 2) := by decide +kernel
theorem dX2_lawsIn_22 : decode cX2_lawsIn 22 = .ok (.ifCond .le 23, 3) := by decide +kernel
theorem dX2_lawsIn_25 : decode cX2_lawsIn 25 = .ok (.iload_n 1, 1) := by decide +kernel
theorem dX2_lawsIn_26 : decode cX2_lawsIn 26 = .ok (.aload_n 0, 1) := by decide +kernel
theorem dX2_lawsIn_27 : decode cX2_lawsIn 27 = .ok (.getfield 46, 3) := by decide +kernel
theorem dX2_lawsIn_30 : decode cX2_lawsIn 30 = .ok (.iload_n 3, 1) := by decide +kernel
theorem dX2_lawsIn_31 : decode cX2_lawsIn 31 = .ok (.iaload, 1) := by decide +kernel
theorem dX2_lawsIn_32 : decode cX2_lawsIn 32 = .ok (.isub, 1) := by decide +kernel
theorem dX2_lawsIn_33 : decode cX2_lawsIn 33 = .ok (.iload 4, 2) := by decide +kernel
theorem dX2_lawsIn_35 : decode cX2_lawsIn 35 = .ok (.irem, 1) := by decide +kernel
theorem dX2_lawsIn_36 : decode cX2_lawsIn 36 = .ok (.ifCond .ne 9, 3) := by decide +kernel
theorem dX2_lawsIn_39 : decode cX2_lawsIn 39 = .ok (.iload_n 2, 1) := by decide +kernel
theorem dX2_lawsIn_40 : decode cX2_lawsIn 40 = .ok (.iconst 1, 1) := by decide +kernel
theorem dX2_lawsIn_41 : decode cX2_lawsIn 41 = .ok (.iload_n 3, 1) := by decide +kernel
theorem dX2_lawsIn_42 : decode cX2_lawsIn 42 = .ok (.ishl, 1) := by decide +kernel
theorem dX2_lawsIn_43 : decode cX2_lawsIn 43 = .ok (.ior, 1) := by decide +kernel
theorem dX2_lawsIn_44 : decode cX2_lawsIn 44 = .ok (.istore_n 2, 1) := by decide +kernel
theorem dX2_lawsIn_45 : decode cX2_lawsIn 45 = .ok (.iinc 3 1, 3) := by decide +kernel
theorem dX2_lawsIn_48 : decode cX2_lawsIn 48 = .ok (.goto (-44), 3) := by decide +kernel
theorem dX2_lawsIn_51 : decode cX2_lawsIn 51 = .ok (.iload_n 2, 1) := by decide +kernel
theorem dX2_lawsIn_52 : decode cX2_lawsIn 52 = .ok (.ireturn, 1) := by decide +kernel
theorem dX2_changeOver_0 : decode cX2_changeOver 0 = .ok (.iconst 0, 1) := by decide +kernel
theorem dX2_changeOver_1 : decode cX2_changeOver 1 = .ok (.istore_n 3, 1) := by decide +kernel
theorem dX2_changeOver_2 : decode cX2_changeOver 2 = .ok (.iload_n 3, 1) := by decide +kernel
theorem dX2_changeOver_3 : decode cX2_changeOver 3 = .ok (.aload_n 0, 1) := by decide +kernel
theorem dX2_changeOver_4 : decode cX2_changeOver 4 = .ok (.getfield 21, 3) := by decide +kernel
theorem dX2_changeOver_7 : decode cX2_changeOver 7 = .ok (.if_icmp .ge 53, 3) := by decide +kernel
theorem dX2_changeOver_10 : decode cX2_changeOver 10 = .ok (.iload_n 2, 1) := by decide +kernel
theorem dX2_changeOver_11 : decode cX2_changeOver 11 = .ok (.iload_n 3, 1) := by decide +kernel
theorem dX2_changeOver_12 : decode cX2_changeOver 12 = .ok (.ishr, 1) := by decide +kernel
theorem dX2_changeOver_13 : decode cX2_changeOver 13 = .ok (.iconst 1, 1) := by decide +kernel
theorem dX2_changeOver_14 : decode cX2_changeOver 14 = .ok (.iand, 1) := by decide +kernel
theorem dX2_changeOver_15 : decode cX2_changeOver 15 = .ok (.ifCond .eq 39, 3) := by decide +kernel
theorem dX2_changeOver_18 : decode cX2_changeOver 18 = .ok (.aload_n 1, 1) := by decide +kernel
theorem dX2_changeOver_19 : decode cX2_changeOver 19 = .ok (.aload_n 0, 1) := by decide +kernel
theorem dX2_changeOver_20 : decode cX2_changeOver 20 = .ok (.getfield 37, 3) := by decide +kernel
theorem dX2_changeOver_23 : decode cX2_changeOver 23 = .ok (.iload_n 3, 1) := by decide +kernel
theorem dX2_changeOver_24 : decode cX2_changeOver 24 = .ok (.iaload, 1) := by decide +kernel
theorem dX2_changeOver_25 : decode cX2_changeOver 25 = .ok (.iaload, 1) := by decide +kernel
theorem dX2_changeOver_26 : decode cX2_changeOver 26 = .ok (.istore 4, 2) := by decide +kernel
theorem dX2_changeOver_28 : decode cX2_changeOver 28 = .ok (.aload_n 1, 1) := by decide +kernel
theorem dX2_changeOver_29 : decode cX2_changeOver 29 = .ok (.aload_n 0, 1) := by decide +kernel
theorem dX2_changeOver_30 : decode cX2_changeOver 30 = .ok (.getfield 37, 3) := by decide +kernel
theorem dX2_changeOver_33 : decode cX2_changeOver 33 = .ok (.iload_n 3, 1) := by decide +kernel
theorem dX2_changeOver_34 : decode cX2_changeOver 34 = .ok (.iaload, 1) := by decide +kernel
theorem dX2_changeOver_35 : decode cX2_changeOver 35 = .ok (.aload_n 1, 1) := by decide +kernel
theorem dX2_changeOver_36 : decode cX2_changeOver 36 = .ok (.aload_n 0, 1) := by decide +kernel
theorem dX2_changeOver_37 : decode cX2_changeOver 37 = .ok (.getfield 40, 3) := by decide +kernel
theorem dX2_changeOver_40 : decode cX2_changeOver 40 = .ok (.iload_n 3, 1) := by decide +kernel
theorem dX2_changeOver_41 : decode cX2_changeOver 41 = .ok (.iaload, 1) := by decide +kernel
theorem dX2_changeOver_42 : decode cX2_changeOver 42 = .ok (.iaload, 1) := by decide +kernel
theorem dX2_changeOver_43 : decode cX2_changeOver 43 = .ok (.iastore, 1) := by decide +kernel
theorem dX2_changeOver_44 : decode cX2_changeOver 44 = .ok (.aload_n 1, 1) := by decide +kernel
theorem dX2_changeOver_45 : decode cX2_changeOver 45 = .ok (.aload_n 0, 1) := by decide +kernel
theorem dX2_changeOver_46 : decode cX2_changeOver 46 = .ok (.getfield 40, 3) := by decide +kernel
theorem dX2_changeOver_49 : decode cX2_changeOver 49 = .ok (.iload_n 3, 1) := by decide +kernel
theorem dX2_changeOver_50 : decode cX2_changeOver 50 = .ok (.iaload, 1) := by decide +kernel
theorem dX2_changeOver_51 : decode cX2_changeOver 51 = .ok (.iload 4, 2) := by decide +kernel
theorem dX2_changeOver_53 : decode cX2_changeOver 53 = .ok (.iastore, 1) := by decide +kernel
theorem dX2_changeOver_54 : decode cX2_changeOver 54 = .ok (.iinc 3 1, 3) := by decide +kernel
theorem dX2_changeOver_57 : decode cX2_changeOver 57 = .ok (.goto (-55), 3) := by decide +kernel
theorem dX2_changeOver_60 : decode cX2_changeOver 60 = .ok (.return_, 1) := by decide +kernel
theorem dX2_changeBack_0 : decode cX2_changeBack 0 = .ok (.aload_n 0, 1) := by decide +kernel
theorem dX2_changeBack_1 : decode cX2_changeBack 1 = .ok (.getfield 21, 3) := by decide +kernel
theorem dX2_changeBack_4 : decode cX2_changeBack 4 = .ok (.iconst 1, 1) := by decide +kernel
theorem dX2_changeBack_5 : decode cX2_changeBack 5 = .ok (.isub, 1) := by decide +kernel
theorem dX2_changeBack_6 : decode cX2_changeBack 6 = .ok (.istore_n 3, 1) := by decide +kernel
theorem dX2_changeBack_7 : decode cX2_changeBack 7 = .ok (.iload_n 3, 1) := by decide +kernel
theorem dX2_changeBack_8 : decode cX2_changeBack 8 = .ok (.ifCond .lt 33, 3) := by decide +kernel
theorem dX2_changeBack_11 : decode cX2_changeBack 11 = .ok (.iload_n 2, 1) := by decide +kernel
theorem dX2_changeBack_12 : decode cX2_changeBack 12 = .ok (.iload_n 3, 1) := by decide +kernel
theorem dX2_changeBack_13 : decode cX2_changeBack 13 = .ok (.ishr, 1) := by decide +kernel
theorem dX2_changeBack_14 : decode cX2_changeBack 14 = .ok (.iconst 1, 1) := by decide +kernel
theorem dX2_changeBack_15 : decode cX2_changeBack 15 = .ok (.iand, 1) := by decide +kernel
theorem dX2_changeBack_16 : decode cX2_changeBack 16 = .ok (.ifCond .eq 19, 3) := by decide +kernel
theorem dX2_changeBack_19 : decode cX2_changeBack 19 = .ok (.aload_n 1, 1) := by decide +kernel
theorem dX2_changeBack_20 : decode cX2_changeBack 20 = .ok (.aload_n 0, 1) := by decide +kernel
theorem dX2_changeBack_21 : decode cX2_changeBack 21 = .ok (.getfield 37, 3) := by decide +kernel
theorem dX2_changeBack_24 : decode cX2_changeBack 24 = .ok (.iload_n 3, 1) := by decide +kernel
theorem dX2_changeBack_25 : decode cX2_changeBack 25 = .ok (.iaload, 1) := by decide +kernel
theorem dX2_changeBack_26 : decode cX2_changeBack 26 = .ok (.aload_n 0, 1) := by decide +kernel
theorem dX2_changeBack_27 : decode cX2_changeBack 27 = .ok (.getfield 40, 3) := by decide +kernel
theorem dX2_changeBack_30 : decode cX2_changeBack 30 = .ok (.iload_n 3, 1) := by decide +kernel
theorem dX2_changeBack_31 : decode cX2_changeBack 31 = .ok (.iaload, 1) := by decide +kernel
theorem dX2_changeBack_32 : decode cX2_changeBack 32 = .ok (.invokestatic 91, 3) := by decide +kernel
theorem dX2_changeBack_35 : decode cX2_changeBack 35 = .ok (.iinc 3 (-1), 3) := by decide +kernel
theorem dX2_changeBack_38 : decode cX2_changeBack 38 = .ok (.goto (-31), 3) := by decide +kernel
theorem dX2_changeBack_41 : decode cX2_changeBack 41 = .ok (.return_, 1) := by decide +kernel
theorem dX2_canAct_0 : decode cX2_canAct 0 = .ok (.aload_n 0, 1) := by decide +kernel
theorem dX2_canAct_1 : decode cX2_canAct 1 = .ok (.getfield 24, 3) := by decide +kernel
theorem dX2_canAct_4 : decode cX2_canAct 4 = .ok (.ifCond .lt 16, 3) := by decide +kernel
theorem dX2_canAct_7 : decode cX2_canAct 7 = .ok (.aload_n 0, 1) := by decide +kernel
theorem dX2_canAct_8 : decode cX2_canAct 8 = .ok (.getfield 24, 3) := by decide +kernel
theorem dX2_canAct_11 : decode cX2_canAct 11 = .ok (.bipush 40, 2) := by decide +kernel
theorem dX2_canAct_13 : decode cX2_canAct 13 = .ok (.if_icmp .ge 7, 3) := by decide +kernel
theorem dX2_canAct_16 : decode cX2_canAct 16 = .ok (.iconst 1, 1) := by decide +kernel
theorem dX2_canAct_17 : decode cX2_canAct 17 = .ok (.goto 4, 3) := by decide +kernel
theorem dX2_canAct_20 : decode cX2_canAct 20 = .ok (.iconst 0, 1) := by decide +kernel
theorem dX2_canAct_21 : decode cX2_canAct 21 = .ok (.ireturn, 1) := by decide +kernel
theorem dX2_actSwap_0 : decode cX2_actSwap 0 = .ok (.aload_n 0, 1) := by decide +kernel
theorem dX2_actSwap_1 : decode cX2_actSwap 1 = .ok (.getfield 34, 3) := by decide +kernel
theorem dX2_actSwap_4 : decode cX2_actSwap 4 = .ok (.iload_n 1, 1) := by decide +kernel
theorem dX2_actSwap_5 : decode cX2_actSwap 5 = .ok (.iload_n 2, 1) := by decide +kernel
theorem dX2_actSwap_6 : decode cX2_actSwap 6 = .ok (.invokestatic 91, 3) := by decide +kernel
theorem dX2_actSwap_9 : decode cX2_actSwap 9 = .ok (.aload_n 0, 1) := by decide +kernel
theorem dX2_actSwap_10 : decode cX2_actSwap 10 = .ok (.getfield 55, 3) := by decide +kernel
theorem dX2_actSwap_13 : decode cX2_actSwap 13 = .ok (.aload_n 0, 1) := by decide +kernel
theorem dX2_actSwap_14 : decode cX2_actSwap 14 = .ok (.getfield 24, 3) := by decide +kernel
theorem dX2_actSwap_17 : decode cX2_actSwap 17 = .ok (.bipush 8, 2) := by decide +kernel
theorem dX2_actSwap_19 : decode cX2_actSwap 19 = .ok (.iload_n 1, 1) := by decide +kernel
theorem dX2_actSwap_20 : decode cX2_actSwap 20 = .ok (.imul, 1) := by decide +kernel
theorem dX2_actSwap_21 : decode cX2_actSwap 21 = .ok (.iload_n 2, 1) := by decide +kernel
theorem dX2_actSwap_22 : decode cX2_actSwap 22 = .ok (.iadd, 1) := by decide +kernel
theorem dX2_actSwap_23 : decode cX2_actSwap 23 = .ok (.iastore, 1) := by decide +kernel
theorem dX2_actSwap_24 : decode cX2_actSwap 24 = .ok (.aload_n 0, 1) := by decide +kernel
theorem dX2_actSwap_25 : decode cX2_actSwap 25 = .ok (.dup, 1) := by decide +kernel
theorem dX2_actSwap_26 : decode cX2_actSwap 26 = .ok (.getfield 24, 3) := by decide +kernel
theorem dX2_actSwap_29 : decode cX2_actSwap 29 = .ok (.iconst 1, 1) := by decide +kernel
theorem dX2_actSwap_30 : decode cX2_actSwap 30 = .ok (.iadd, 1) := by decide +kernel
theorem dX2_actSwap_31 : decode cX2_actSwap 31 = .ok (.putfield 24, 3) := by decide +kernel
theorem dX2_actSwap_34 : decode cX2_actSwap 34 = .ok (.return_, 1) := by decide +kernel
theorem dX2_actNight_0 : decode cX2_actNight 0 = .ok (.aload_n 0, 1) := by decide +kernel
theorem dX2_actNight_1 : decode cX2_actNight 1 = .ok (.aload_n 0, 1) := by decide +kernel
theorem dX2_actNight_2 : decode cX2_actNight 2 = .ok (.getfield 34, 3) := by decide +kernel
theorem dX2_actNight_5 : decode cX2_actNight 5 = .ok (.aload_n 0, 1) := by decide +kernel
theorem dX2_actNight_6 : decode cX2_actNight 6 = .ok (.aload_n 0, 1) := by decide +kernel
theorem dX2_actNight_7 : decode cX2_actNight 7 = .ok (.getfield 27, 3) := by decide +kernel
theorem dX2_actNight_10 : decode cX2_actNight 10 = .ok (.invokevirtual 95, 3) := by decide +kernel
theorem dX2_actNight_13 : decode cX2_actNight 13 = .ok (.invokevirtual 98, 3) := by decide +kernel
theorem dX2_actNight_16 : decode cX2_actNight 16 = .ok (.aload_n 0, 1) := by decide +kernel
theorem dX2_actNight_17 : decode cX2_actNight 17 = .ok (.dup, 1) := by decide +kernel
theorem dX2_actNight_18 : decode cX2_actNight 18 = .ok (.getfield 27, 3) := by decide +kernel
theorem dX2_actNight_21 : decode cX2_actNight 21 = .ok (.iconst 1, 1) := by decide +kernel
theorem dX2_actNight_22 : decode cX2_actNight 22 = .ok (.iadd, 1) := by decide +kernel
theorem dX2_actNight_23 : decode cX2_actNight 23 = .ok (.putfield 27, 3) := by decide +kernel
theorem dX2_actNight_26 : decode cX2_actNight 26 = .ok (.aload_n 0, 1) := by decide +kernel
theorem dX2_actNight_27 : decode cX2_actNight 27 = .ok (.getfield 55, 3) := by decide +kernel
theorem dX2_actNight_30 : decode cX2_actNight 30 = .ok (.aload_n 0, 1) := by decide +kernel
theorem dX2_actNight_31 : decode cX2_actNight 31 = .ok (.getfield 24, 3) := by decide +kernel
theorem dX2_actNight_34 : decode cX2_actNight 34 = .ok (.iconst (-1), 1) := by decide +kernel
theorem dX2_actNight_35 : decode cX2_actNight 35 = .ok (.iastore, 1) := by decide +kernel
theorem dX2_actNight_36 : decode cX2_actNight 36 = .ok (.aload_n 0, 1) := by decide +kernel
theorem dX2_actNight_37 : decode cX2_actNight 37 = .ok (.dup, 1) := by decide +kernel
theorem dX2_actNight_38 : decode cX2_actNight 38 = .ok (.getfield 24, 3) := by decide +kernel
theorem dX2_actNight_41 : decode cX2_actNight 41 = .ok (.iconst 1, 1) := by decide +kernel
theorem dX2_actNight_42 : decode cX2_actNight 42 = .ok (.iadd, 1) := by decide +kernel
theorem dX2_actNight_43 : decode cX2_actNight 43 = .ok (.putfield 24, 3) := by decide +kernel
theorem dX2_actNight_46 : decode cX2_actNight 46 = .ok (.return_, 1) := by decide +kernel
theorem dX2_takeBack_0 : decode cX2_takeBack 0 = .ok (.aload_n 0, 1) := by decide +kernel
theorem dX2_takeBack_1 : decode cX2_takeBack 1 = .ok (.dup, 1) := by decide +kernel
theorem dX2_takeBack_2 : decode cX2_takeBack 2 = .ok (.getfield 24, 3) := by decide +kernel
theorem dX2_takeBack_5 : decode cX2_takeBack 5 = .ok (.iconst 1, 1) := by decide +kernel
theorem dX2_takeBack_6 : decode cX2_takeBack 6 = .ok (.isub, 1) := by decide +kernel
theorem dX2_takeBack_7 : decode cX2_takeBack 7 = .ok (.putfield 24, 3) := by decide +kernel
theorem dX2_takeBack_10 : decode cX2_takeBack 10 = .ok (.aload_n 0, 1) := by decide +kernel
theorem dX2_takeBack_11 : decode cX2_takeBack 11 = .ok (.getfield 55, 3) := by decide +kernel
theorem dX2_takeBack_14 : decode cX2_takeBack 14 = .ok (.aload_n 0, 1) := by decide +kernel
theorem dX2_takeBack_15 : decode cX2_takeBack 15 = .ok (.getfield 24, 3) := by decide +kernel
theorem dX2_takeBack_18 : decode cX2_takeBack 18 = .ok (.iaload, 1) := by decide +kernel
theorem dX2_takeBack_19 : decode cX2_takeBack 19 = .ok (.istore_n 1, 1) := by decide +kernel
theorem dX2_takeBack_20 : decode cX2_takeBack 20 = .ok (.iload_n 1, 1) := by decide +kernel
theorem dX2_takeBack_21 : decode cX2_takeBack 21 = .ok (.iconst (-1), 1) := by decide +kernel
theorem dX2_takeBack_22 : decode cX2_takeBack 22 = .ok (.if_icmp .ne 32, 3) := by decide +kernel
theorem dX2_takeBack_25 : decode cX2_takeBack 25 = .ok (.aload_n 0, 1) := by decide +kernel
theorem dX2_takeBack_26 : decode cX2_takeBack 26 = .ok (.dup, 1) := by decide +kernel
theorem dX2_takeBack_27 : decode cX2_takeBack 27 = .ok (.getfield 27, 3) := by decide +kernel
theorem dX2_takeBack_30 : decode cX2_takeBack 30 = .ok (.iconst 1, 1) := by decide +kernel
theorem dX2_takeBack_31 : decode cX2_takeBack 31 = .ok (.isub, 1) := by decide +kernel
theorem dX2_takeBack_32 : decode cX2_takeBack 32 = .ok (.putfield 27, 3) := by decide +kernel
theorem dX2_takeBack_35 : decode cX2_takeBack 35 = .ok (.aload_n 0, 1) := by decide +kernel
theorem dX2_takeBack_36 : decode cX2_takeBack 36 = .ok (.aload_n 0, 1) := by decide +kernel
theorem dX2_takeBack_37 : decode cX2_takeBack 37 = .ok (.getfield 34, 3) := by decide +kernel
theorem dX2_takeBack_40 : decode cX2_takeBack 40 = .ok (.aload_n 0, 1) := by decide +kernel
theorem dX2_takeBack_41 : decode cX2_takeBack 41 = .ok (.aload_n 0, 1) := by decide +kernel
theorem dX2_takeBack_42 : decode cX2_takeBack 42 = .ok (.getfield 27, 3) := by decide +kernel
theorem dX2_takeBack_45 : decode cX2_takeBack 45 = .ok (.invokevirtual 95, 3) := by decide +kernel
theorem dX2_takeBack_48 : decode cX2_takeBack 48 = .ok (.invokevirtual 101, 3) := by decide +kernel
theorem dX2_takeBack_51 : decode cX2_takeBack 51 = .ok (.goto 18, 3) := by decide +kernel
theorem dX2_takeBack_54 : decode cX2_takeBack 54 = .ok (.aload_n 0, 1) := by decide +kernel
theorem dX2_takeBack_55 : decode cX2_takeBack 55 = .ok (.getfield 34, 3) := by decide +kernel
theorem dX2_takeBack_58 : decode cX2_takeBack 58 = .ok (.iload_n 1, 1) := by decide +kernel
theorem dX2_takeBack_59 : decode cX2_takeBack 59 = .ok (.bipush 8, 2) := by decide +kernel
theorem dX2_takeBack_61 : decode cX2_takeBack 61 = .ok (.idiv, 1) := by decide +kernel
theorem dX2_takeBack_62 : decode cX2_takeBack 62 = .ok (.iload_n 1, 1) := by decide +kernel
theorem dX2_takeBack_63 : decode cX2_takeBack 63 = .ok (.bipush 8, 2) := by decide +kernel
theorem dX2_takeBack_65 : decode cX2_takeBack 65 = .ok (.irem, 1) := by decide +kernel
theorem dX2_takeBack_66 : decode cX2_takeBack 66 = .ok (.invokestatic 91, 3) := by decide +kernel
theorem dX2_takeBack_69 : decode cX2_takeBack 69 = .ok (.return_, 1) := by decide +kernel
theorem dX2_takeAllBack_0 : decode cX2_takeAllBack 0 = .ok (.aload_n 0, 1) := by decide +kernel
theorem dX2_takeAllBack_1 : decode cX2_takeAllBack 1 = .ok (.getfield 30, 3) := by decide +kernel
theorem dX2_takeAllBack_4 : decode cX2_takeAllBack 4 = .ok (.iconst 0, 1) := by decide +kernel
theorem dX2_takeAllBack_5 : decode cX2_takeAllBack 5 = .ok (.aload_n 0, 1) := by decide +kernel
theorem dX2_takeAllBack_6 : decode cX2_takeAllBack 6 = .ok (.getfield 34, 3) := by decide +kernel
theorem dX2_takeAllBack_9 : decode cX2_takeAllBack 9 = .ok (.iconst 0, 1) := by decide +kernel
theorem dX2_takeAllBack_10 : decode cX2_takeAllBack 10 = .ok (.bipush 7, 2) := by decide +kernel
theorem dX2_takeAllBack_12 : decode cX2_takeAllBack 12 = .ok (.invokestatic 64, 3) := by decide +kernel
theorem dX2_takeAllBack_15 : decode cX2_takeAllBack 15 = .ok (.aload_n 0, 1) := by decide +kernel
theorem dX2_takeAllBack_16 : decode cX2_takeAllBack 16 = .ok (.iconst 0, 1) := by decide +kernel
theorem dX2_takeAllBack_17 : decode cX2_takeAllBack 17 = .ok (.putfield 24, 3) := by decide +kernel
theorem dX2_takeAllBack_20 : decode cX2_takeAllBack 20 = .ok (.aload_n 0, 1) := by decide +kernel
theorem dX2_takeAllBack_21 : decode cX2_takeAllBack 21 = .ok (.iconst 0, 1) := by decide +kernel
theorem dX2_takeAllBack_22 : decode cX2_takeAllBack 22 = .ok (.putfield 27, 3) := by decide +kernel
theorem dX2_takeAllBack_25 : decode cX2_takeAllBack 25 = .ok (.return_, 1) := by decide +kernel
theorem dX3_init_0 : decode cX3_init 0 = .ok (.aload_n 0, 1) := by decide +kernel
theorem dX3_init_1 : decode cX3_init 1 = .ok (.invokespecial 3, 3) := by decide +kernel
theorem dX3_init_4 : decode cX3_init 4 = .ok (.aload_n 0, 1) := by decide +kernel
theorem dX3_init_5 : decode cX3_init 5 = .ok (.bipush 7, 2) := by decide +kernel
theorem dX3_init_7 : decode cX3_init 7 = .ok (.newarray .long, 2) := by decide +kernel
theorem dX3_init_9 : decode cX3_init 9 = .ok (.putfield 9, 3) := by decide +kernel
theorem dX3_init_12 : decode cX3_init 12 = .ok (.aload_n 0, 1) := by decide +kernel
theorem dX3_init_13 : decode cX3_init 13 = .ok (.lconst 1, 1) := by decide +kernel
theorem dX3_init_14 : decode cX3_init 14 = .ok (.putfield 15, 3) := by decide +kernel
theorem dX3_init_17 : decode cX3_init 17 = .ok (.aload_n 0, 1) := by decide +kernel
theorem dX3_init_18 : decode cX3_init 18 = .ok (.bipush 7, 2) := by decide +kernel
theorem dX3_init_20 : decode cX3_init 20 = .ok (.newarray .long, 2) := by decide +kernel
theorem dX3_init_22 : decode cX3_init 22 = .ok (.putfield 19, 3) := by decide +kernel
theorem dX3_init_25 : decode cX3_init 25 = .ok (.return_, 1) := by decide +kernel
theorem dX3_spread_0 : decode cX3_spread 0 = .ok (.aload_n 0, 1) := by decide +kernel
theorem dX3_spread_1 : decode cX3_spread 1 = .ok (.getfield 9, 3) := by decide +kernel
theorem dX3_spread_4 : decode cX3_spread 4 = .ok (.lconst 0, 1) := by decide +kernel
theorem dX3_spread_5 : decode cX3_spread 5 = .ok (.invokestatic 22, 3) := by decide +kernel
theorem dX3_spread_8 : decode cX3_spread 8 = .ok (.aload_n 1, 1) := by decide +kernel
theorem dX3_spread_9 : decode cX3_spread 9 = .ok (.aload_n 1, 1) := by decide +kernel
theorem dX3_spread_10 : decode cX3_spread 10 = .ok (.invokevirtual 28, 3) := by decide +kernel
theorem dX3_spread_13 : decode cX3_spread 13 = .ok (.invokevirtual 34, 3) := by decide +kernel
theorem dX3_spread_16 : decode cX3_spread 16 = .ok (.istore_n 3, 1) := by decide +kernel
theorem dX3_spread_17 : decode cX3_spread 17 = .ok (.iload_n 3, 1) := by decide +kernel
theorem dX3_spread_18 : decode cX3_spread 18 = .ok (.ifCond .lt 10, 3) := by decide +kernel
theorem dX3_spread_21 : decode cX3_spread 21 = .ok (.aload_n 0, 1) := by decide +kernel
theorem dX3_spread_22 : decode cX3_spread 22 = .ok (.getfield 9, 3) := by decide +kernel
theorem dX3_spread_25 : decode cX3_spread 25 = .ok (.iload_n 3, 1) := by decide +kernel
theorem dX3_spread_26 : decode cX3_spread 26 = .ok (.lconst 1, 1) := by decide +kernel
theorem dX3_spread_27 : decode cX3_spread 27 = .ok (.lastore, 1) := by decide +kernel
theorem dX3_spread_28 : decode cX3_spread 28 = .ok (.aload_n 0, 1) := by decide +kernel
theorem dX3_spread_29 : decode cX3_spread 29 = .ok (.lconst 1, 1) := by decide +kernel
theorem dX3_spread_30 : decode cX3_spread 30 = .ok (.putfield 15, 3) := by decide +kernel
theorem dX3_spread_33 : decode cX3_spread 33 = .ok (.iconst 0, 1) := by decide +kernel
theorem dX3_spread_34 : decode cX3_spread 34 = .ok (.istore 4, 2) := by decide +kernel
theorem dX3_spread_36 : decode cX3_spread 36 = .ok (.iload 4, 2) := by decide +kernel
theorem dX3_spread_38 : decode cX3_spread 38 = .ok (.iload_n 2, 1) := by decide +kernel
theorem dX3_spread_39 : decode cX3_spread 39 = .ok (.if_icmp .ge 33, 3) := by decide +kernel
theorem dX3_spread_42 : decode cX3_spread 42 = .ok (.aload_n 0, 1) := by decide +kernel
theorem dX3_spread_43 : decode cX3_spread 43 = .ok (.aload_n 1, 1) := by decide +kernel
theorem dX3_spread_44 : decode cX3_spread 44 = .ok (.getfield 38, 3) := by decide +kernel
theorem dX3_spread_47 : decode cX3_spread 47 = .ok (.invokevirtual 42, 3) := by decide +kernel
theorem dX3_spread_50 : decode cX3_spread 50 = .ok (.aload_n 0, 1) := by decide +kernel
theorem dX3_spread_51 : decode cX3_spread 51 = .ok (.dup, 1) := by decide +kernel
theorem dX3_spread_52 : decode cX3_spread 52 = .ok (.getfield 15, 3) := by decide +kernel
theorem dX3_spread_55 : decode cX3_spread 55 = .ok (.aload_n 1, 1) := by decide +kernel
theorem dX3_spread_56 : decode cX3_spread 56 = .ok (.getfield 38, 3) := by decide +kernel
theorem dX3_spread_59 : decode cX3_spread 59 = .ok (.iconst 1, 1) := by decide +kernel
theorem dX3_spread_60 : decode cX3_spread 60 = .ok (.isub, 1) := by decide +kernel
theorem dX3_spread_61 : decode cX3_spread 61 = .ok (.i2l, 1) := by decide +kernel
theorem dX3_spread_62 : decode cX3_spread 62 = .ok (.lmul, 1) := by decide +kernel
theorem dX3_spread_63 : decode cX3_spread 63 = .ok (.putfield 15, 3) := by decide +kernel
theorem dX3_spread_66 : decode cX3_spread 66 = .ok (.iinc 4 1, 3) := by decide +kernel
theorem dX3_spread_69 : decode cX3_spread 69 = .ok (.goto (-33), 3) := by decide +kernel
theorem dX3_spread_72 : decode cX3_spread 72 = .ok (.return_, 1) := by decide +kernel
theorem dX3_spreadOneNight_0 : decode cX3_spreadOneNight 0 = .ok (.aload_n 0, 1) := by decide +kernel
theorem dX3_spreadOneNight_1 : decode cX3_spreadOneNight 1 = .ok (.getfield 9, 3) := by decide +kernel
theorem dX3_spreadOneNight_4 : decode cX3_spreadOneNight 4 = .ok (.iconst 0, 1) := by decide +kernel
theorem dX3_spreadOneNight_5 : decode cX3_spreadOneNight 5 = .ok (.aload_n 0, 1) := by decide +kernel
theorem dX3_spreadOneNight_6 : decode cX3_spreadOneNight 6 = .ok (.getfield 19, 3) := by decide +kernel
theorem dX3_spreadOneNight_9 : decode cX3_spreadOneNight 9 = .ok (.iconst 0, 1) := by decide +kernel
theorem dX3_spreadOneNight_10 : decode cX3_spreadOneNight 10 = .ok (.bipush 7, 2) := by decide +kernel
theorem dX3_spreadOneNight_12 : decode cX3_spreadOneNight 12 = .ok (.invokestatic 46, 3) := by decide +kernel
theorem dX3_spreadOneNight_15 : decode cX3_spreadOneNight 15 = .ok (.iconst 0, 1) := by decide +kernel
theorem dX3_spreadOneNight_16 : decode cX3_spreadOneNight 16 = .ok (.istore_n 2, 1) := by decide +kernel
theorem dX3_spreadOneNight_17 : decode cX3_spreadOneNight 17 = .ok (.iload_n 2, 1) := by decide +kernel
theorem dX3_spreadOneNight_18 : decode cX3_spreadOneNight 18 = .ok (.iload_n 1, 1) := by decide +kernel
theorem dX3_spreadOneNight_19 : decode cX3_spreadOneNight 19 = .ok (.if_icmp .ge 77, 3) := by decide +kernel
theorem dX3_spreadOneNight_22 : decode cX3_spreadOneNight 22 = .ok (.iload_n 1, 1) := by decide +kernel
theorem dX3_spreadOneNight_23 : decode cX3_spreadOneNight 23 = .ok (.iconst 1, 1) := by decide +kernel
theorem dX3_spreadOneNight_24 : decode cX3_spreadOneNight 24 = .ok (.isub, 1) := by decide +kernel
theorem dX3_spreadOneNight_25 : decode cX3_spreadOneNight 25 = .ok (.istore_n 3, 1) := by decide +kernel
theorem dX3_spreadOneNight_26 : decode cX3_spreadOneNight 26 = .ok (.lconst 0, 1) := by decide +kernel
theorem dX3_spreadOneNight_27 : decode cX3_spreadOneNight 27 = .ok (.lstore 4, 2) := by decide +kernel
theorem dX3_spreadOneNight_29 : decode cX3_spreadOneNight 29 = .ok (.iload_n 2, 1) := by decide +kernel
theorem dX3_spreadOneNight_30 : decode cX3_spreadOneNight 30 = .ok (.ifCond .le 19, 3) := by decide +kernel
theorem dX3_spreadOneNight_33 : decode cX3_spreadOneNight 33 = .ok (.lload 4, 2) := by decide +kernel
theorem dX3_spreadOneNight_35 : decode cX3_spreadOneNight 35 = .ok (.aload_n 0, 1) := by decide +kernel
theorem dX3_spreadOneNight_36 : decode cX3_spreadOneNight 36 = .ok (.getfield 19, 3) := by decide +kernel
theorem dX3_spreadOneNight_39 : decode cX3_spreadOneNight 39 = .ok (.iload_n 2, 1) := by decide +kernel
theorem dX3_spreadOneNight_40 : decode cX3_spreadOneNight 40 = .ok (.iconst 1, 1) := by decide +kernel
theorem dX3_spreadOneNight_41 : decode cX3_spreadOneNight 41 = .ok (.isub, 1) := by decide +kernel
theorem dX3_spreadOneNight_42 : decode cX3_spreadOneNight 42 = .ok (.laload, 1) := by decide +kernel
theorem dX3_spreadOneNight_43 : decode cX3_spreadOneNight 43 = .ok (.ladd, 1) := by decide +kernel
theorem dX3_spreadOneNight_44 : decode cX3_spreadOneNight 44 = .ok (.lstore 4, 2) := by decide +kernel
theorem dX3_spreadOneNight_46 : decode cX3_spreadOneNight 46 = .ok (.iinc 3 (-1), 3) := by decide +kernel
theorem dX3_spreadOneNight_49 : decode cX3_spreadOneNight 49 = .ok (.iload_n 2, 1) := by decide +kernel
theorem dX3_spreadOneNight_50 : decode cX3_spreadOneNight 50 = .ok (.iload_n 1, 1) := by decide +kernel
theorem dX3_spreadOneNight_51 : decode cX3_spreadOneNight 51 = .ok (.iconst 1, 1) := by decide +kernel
theorem dX3_spreadOneNight_52 : decode cX3_spreadOneNight 52 = .ok (.isub, 1) := by decide +kernel
theorem dX3_spreadOneNight_53 : decode cX3_spreadOneNight 53 = .ok (.if_icmp .ge 19, 3) := by decide +kernel
theorem dX3_spreadOneNight_56 : decode cX3_spreadOneNight 56 = .ok (.lload 4, 2) := by decide +kernel
theorem dX3_spreadOneNight_58 : decode cX3_spreadOneNight 58 = .ok (.aload_n 0, 1) := by decide +kernel
theorem dX3_spreadOneNight_59 : decode cX3_spreadOneNight 59 = .ok (.getfield 19, 3) := by decide +kernel
theorem dX3_spreadOneNight_62 : decode cX3_spreadOneNight 62 = .ok (.iload_n 2, 1) := by decide +kernel
theorem dX3_spreadOneNight_63 : decode cX3_spreadOneNight 63 = .ok (.iconst 1, 1) := by decide +kernel
theorem dX3_spreadOneNight_64 : decode cX3_spreadOneNight 64 = .ok (.iadd, 1) := by decide +kernel
theorem dX3_spreadOneNight_65 : decode cX3_spreadOneNight 65 = .ok (.laload, 1) := by decide +kernel
theorem dX3_spreadOneNight_66 : decode cX3_spreadOneNight 66 = .ok (.ladd, 1) := by decide +kernel
theorem dX3_spreadOneNight_67 : decode cX3_spreadOneNight 67 = .ok (.lstore 4, 2) := by decide +kernel
theorem dX3_spreadOneNight_69 : decode cX3_spreadOneNight 69 = .ok (.iinc 3 (-1), 3) := by decide +kernel
theorem dX3_spreadOneNight_72 : decode cX3_spreadOneNight 72 = .ok (.aload_n 0, 1) := by decide +kernel
theorem dX3_spreadOneNight_73 : decode cX3_spreadOneNight 73 = .ok (.getfield 9, 3) := by decide +kernel
theorem dX3_spreadOneNight_76 : decode cX3_spreadOneNight 76 = .ok (.iload_n 2, 1) := by decide +kernel
theorem dX3_spreadOneNight_77 : decode cX3_spreadOneNight 77 = .ok (.lload 4, 2) := by decide +kernel
theorem dX3_spreadOneNight_79 : decode cX3_spreadOneNight 79 = .ok (.iload_n 3, 1) := by decide +kernel
theorem dX3_spreadOneNight_80 : decode cX3_spreadOneNight 80 = .ok (.i2l, 1) := by decide +kernel
theorem dX3_spreadOneNight_81 : decode cX3_spreadOneNight 81 = .ok (.aload_n 0, 1) := by decide +kernel
theorem dX3_spreadOneNight_82 : decode cX3_spreadOneNight 82 = .ok (.getfield 19, 3) := by decide +kernel
theorem dX3_spreadOneNight_85 : decode cX3_spreadOneNight 85 = .ok (.iload_n 2, 1) := by decide +kernel
theorem dX3_spreadOneNight_86 : decode cX3_spreadOneNight 86 = .ok (.laload, 1) := by decide +kernel
theorem dX3_spreadOneNight_87 : decode cX3_spreadOneNight 87 = .ok (.lmul, 1) := by decide +kernel
theorem dX3_spreadOneNight_88 : decode cX3_spreadOneNight 88 = .ok (.ladd, 1) := by decide +kernel
theorem dX3_spreadOneNight_89 : decode cX3_spreadOneNight 89 = .ok (.lastore, 1) := by decide +kernel
theorem dX3_spreadOneNight_90 : decode cX3_spreadOneNight 90 = .ok (.iinc 2 1, 3) := by decide +kernel
theorem dX3_spreadOneNight_93 : decode cX3_spreadOneNight 93 = .ok (.goto (-76), 3) := by decide +kernel
theorem dX3_spreadOneNight_96 : decode cX3_spreadOneNight 96 = .ok (.return_, 1) := by decide +kernel
theorem dX3_commonDivisor_0 : decode cX3_commonDivisor 0 = .ok (.lload_n 0, 1) := by decide +kernel
theorem dX3_commonDivisor_1 : decode cX3_commonDivisor 1 = .ok (.lstore 4, 2) := by decide +kernel
theorem dX3_commonDivisor_3 : decode cX3_commonDivisor 3 = .ok (.lload_n 2, 1) := by decide +kernel
theorem dX3_commonDivisor_4 : decode cX3_commonDivisor 4 = .ok (.lstore 6, 2) := by decide +kernel
theorem dX3_commonDivisor_6 : decode cX3_commonDivisor 6 = .ok (.iconst 0, 1) := by decide +kernel
theorem dX3_commonDivisor_7 : decode cX3_commonDivisor 7 = .ok (.istore 8, 2) := by decide +kernel
theorem dX3_commonDivisor_9 : decode cX3_commonDivisor 9 = .ok (.iload 8, 2) := by decide +kernel
theorem dX3_commonDivisor_11 : decode cX3_commonDivisor 11 = .ok (.sipush 200, 3) := by decide +kernel
theorem dX3_commonDivisor_14 : decode cX3_commonDivisor 14 = .ok (.if_icmp .ge 31, 3) := by decide +kernel
theorem dX3_commonDivisor_17 : decode cX3_commonDivisor 17 = .ok (.lload 6, 2) := by decide +kernel
theorem dX3_commonDivisor_19 : decode cX3_commonDivisor 19 = .ok (.lconst 0, 1) := by decide +kernel
theorem dX3_commonDivisor_20 : decode cX3_commonDivisor 20 = .ok (.lcmp, 1) := by decide +kernel
theorem dX3_commonDivisor_21 : decode cX3_commonDivisor 21 = .ok (.ifCond .eq 24, 3) := by decide +kernel
theorem dX3_commonDivisor_24 : decode cX3_commonDivisor 24 = .ok (.lload 4, 2) := by decide +kernel
theorem dX3_commonDivisor_26 : decode cX3_commonDivisor 26 = .ok (.lload 6, 2) := by decide +kernel
theorem dX3_commonDivisor_28 : decode cX3_commonDivisor 28 = .ok (.lrem, 1) := by decide +kernel
theorem dX3_commonDivisor_29 : decode cX3_commonDivisor 29 = .ok (.lstore 9, 2) := by decide +kernel
theorem dX3_commonDivisor_31 : decode cX3_commonDivisor 31 = .ok (.lload 6, 2) := by decide +kernel
theorem dX3_commonDivisor_33 : decode cX3_commonDivisor 33 = .ok (.lstore 4, 2) := by decide +kernel
theorem dX3_commonDivisor_35 : decode cX3_commonDivisor 35 = .ok (.lload 9, 2) := by decide +kernel
theorem dX3_commonDivisor_37 : decode cX3_commonDivisor 37 = .ok (.lstore 6, 2) := by decide +kernel
theorem dX3_commonDivisor_39 : decode cX3_commonDivisor 39 = .ok (.iinc 8 1, 3) := by decide +kernel
theorem dX3_commonDivisor_42 : decode cX3_commonDivisor 42 = .ok (.goto (-33), 3) := by decide +kernel
theorem dX3_commonDivisor_45 : decode cX3_commonDivisor 45 = .ok (.lload 4, 2) := by decide +kernel
theorem dX3_commonDivisor_47 : decode cX3_commonDivisor 47 = .ok (.lreturn, 1) := by decide +kernel
theorem dX3_placeDrawn_0 : decode cX3_placeDrawn 0 = .ok (.iload_n 3, 1) := by decide +kernel
theorem dX3_placeDrawn_1 : decode cX3_placeDrawn 1 = .ok (.iconst 1, 1) := by decide +kernel
theorem dX3_placeDrawn_2 : decode cX3_placeDrawn 2 = .ok (.isub, 1) := by decide +kernel
theorem dX3_placeDrawn_3 : decode cX3_placeDrawn 3 = .ok (.istore 4, 2) := by decide +kernel
theorem dX3_placeDrawn_5 : decode cX3_placeDrawn 5 = .ok (.iload_n 2, 1) := by decide +kernel
theorem dX3_placeDrawn_6 : decode cX3_placeDrawn 6 = .ok (.istore 5, 2) := by decide +kernel
theorem dX3_placeDrawn_8 : decode cX3_placeDrawn 8 = .ok (.iload_n 0, 1) := by decide +kernel
theorem dX3_placeDrawn_9 : decode cX3_placeDrawn 9 = .ok (.i2l, 1) := by decide +kernel
theorem dX3_placeDrawn_10 : decode cX3_placeDrawn 10 = .ok (.lstore 6, 2) := by decide +kernel
theorem dX3_placeDrawn_12 : decode cX3_placeDrawn 12 = .ok (.iconst 0, 1) := by decide +kernel
theorem dX3_placeDrawn_13 : decode cX3_placeDrawn 13 = .ok (.istore 8, 2) := by decide +kernel
theorem dX3_placeDrawn_15 : decode cX3_placeDrawn 15 = .ok (.iload 8, 2) := by decide +kernel
theorem dX3_placeDrawn_17 : decode cX3_placeDrawn 17 = .ok (.iload_n 1, 1) := by decide +kernel
theorem dX3_placeDrawn_18 : decode cX3_placeDrawn 18 = .ok (.if_icmp .ge 72, 3) := by decide +kernel
theorem dX3_placeDrawn_21 : decode cX3_placeDrawn 21 = .ok (.iload 4, 2) := by decide +kernel
theorem dX3_placeDrawn_23 : decode cX3_placeDrawn 23 = .ok (.ifCond .le 67, 3) := by decide +kernel
theorem dX3_placeDrawn_26 : decode cX3_placeDrawn 26 = .ok (.ldc2_w 52, 3) := by decide +kernel
theorem dX3_placeDrawn_29 : decode cX3_placeDrawn 29 = .ok (.lload 6, 2) := by decide +kernel
theorem dX3_placeDrawn_31 : decode cX3_placeDrawn 31 = .ok (.lmul, 1) := by decide +kernel
theorem dX3_placeDrawn_32 : decode cX3_placeDrawn 32 = .ok (.ldc2_w 54, 3) := by decide +kernel
theorem dX3_placeDrawn_35 : decode cX3_placeDrawn 35 = .ok (.ladd, 1) := by decide +kernel
theorem dX3_placeDrawn_36 : decode cX3_placeDrawn 36 = .ok (.ldc2_w 56, 3) := by decide +kernel
theorem dX3_placeDrawn_39 : decode cX3_placeDrawn 39 = .ok (.lrem, 1) := by decide +kernel
theorem dX3_placeDrawn_40 : decode cX3_placeDrawn 40 = .ok (.lstore 6, 2) := by decide +kernel
theorem dX3_placeDrawn_42 : decode cX3_placeDrawn 42 = .ok (.lload 6, 2) := by decide +kernel
theorem dX3_placeDrawn_44 : decode cX3_placeDrawn 44 = .ok (.ldc2_w 58, 3) := by decide +kernel
theorem dX3_placeDrawn_47 : decode cX3_placeDrawn 47 = .ok (.ldiv, 1) := by decide +kernel
theorem dX3_placeDrawn_48 : decode cX3_placeDrawn 48 = .ok (.iload 4, 2) := by decide +kernel
theorem dX3_placeDrawn_50 : decode cX3_placeDrawn 50 = .ok (.i2l, 1) := by decide +kernel
theorem dX3_placeDrawn_51 : decode cX3_placeDrawn 51 = .ok (.lrem, 1) := by decide +kernel
theorem dX3_placeDrawn_52 : decode cX3_placeDrawn 52 = .ok (.l2i, 1) := by decide +kernel
theorem dX3_placeDrawn_53 : decode cX3_placeDrawn 53 = .ok (.istore 9, 2) := by decide +kernel
theorem dX3_placeDrawn_55 : decode cX3_placeDrawn 55 = .ok (.iload 5, 2) := by decide +kernel
theorem dX3_placeDrawn_57 : decode cX3_placeDrawn 57 = .ok (.iload 9, 2) := by decide +kernel
theorem dX3_placeDrawn_59 : decode cX3_placeDrawn 59 = .ok (.if_icmp .ne 12, 3) := by decide +kernel
theorem dX3_placeDrawn_62 : decode cX3_placeDrawn 62 = .ok (.iload 9, 2) := by decide +kernel
theorem dX3_placeDrawn_64 : decode cX3_placeDrawn 64 = .ok (.iconst 1, 1) := by decide +kernel
theorem dX3_placeDrawn_65 : decode cX3_placeDrawn 65 = .ok (.iadd, 1) := by decide +kernel
theorem dX3_placeDrawn_66 : decode cX3_placeDrawn 66 = .ok (.istore 5, 2) := by decide +kernel
theorem dX3_placeDrawn_68 : decode cX3_placeDrawn 68 = .ok (.goto 16, 3) := by decide +kernel
theorem dX3_placeDrawn_71 : decode cX3_placeDrawn 71 = .ok (.iload 5, 2) := by decide +kernel
theorem dX3_placeDrawn_73 : decode cX3_placeDrawn 73 = .ok (.iload 9, 2) := by decide +kernel
theorem dX3_placeDrawn_75 : decode cX3_placeDrawn 75 = .ok (.iconst 1, 1) := by decide +kernel
theorem dX3_placeDrawn_76 : decode cX3_placeDrawn 76 = .ok (.iadd, 1) := by decide +kernel
theorem dX3_placeDrawn_77 : decode cX3_placeDrawn 77 = .ok (.if_icmp .ne 7, 3) := by decide +kernel
theorem dX3_placeDrawn_80 : decode cX3_placeDrawn 80 = .ok (.iload 9, 2) := by decide +kernel
theorem dX3_placeDrawn_82 : decode cX3_placeDrawn 82 = .ok (.istore 5, 2) := by decide +kernel
theorem dX3_placeDrawn_84 : decode cX3_placeDrawn 84 = .ok (.iinc 8 1, 3) := by decide +kernel
theorem dX3_placeDrawn_87 : decode cX3_placeDrawn 87 = .ok (.goto (-72), 3) := by decide +kernel
theorem dX3_placeDrawn_90 : decode cX3_placeDrawn 90 = .ok (.iload 5, 2) := by decide +kernel
theorem dX3_placeDrawn_92 : decode cX3_placeDrawn 92 = .ok (.ireturn, 1) := by decide +kernel
theorem dX4_init_0 : decode cX4_init 0 = .ok (.aload_n 0, 1) := by decide +kernel
theorem dX4_init_1 : decode cX4_init 1 = .ok (.invokespecial 3, 3) := by decide +kernel
theorem dX4_init_4 : decode cX4_init 4 = .ok (.aload_n 0, 1) := by decide +kernel
theorem dX4_init_5 : decode cX4_init 5 = .ok (.sipush 1024, 3) := by decide +kernel
theorem dX4_init_8 : decode cX4_init 8 = .ok (.newarray .int, 2) := by decide +kernel
theorem dX4_init_10 : decode cX4_init 10 = .ok (.putfield 11, 3) := by decide +kernel
theorem dX4_init_13 : decode cX4_init 13 = .ok (.aload_n 0, 1) := by decide +kernel
theorem dX4_init_14 : decode cX4_init 14 = .ok (.bipush 7, 2) := by decide +kernel
theorem dX4_init_16 : decode cX4_init 16 = .ok (.newarray .int, 2) := by decide +kernel
theorem dX4_init_18 : decode cX4_init 18 = .ok (.putfield 15, 3) := by decide +kernel
theorem dX4_init_21 : decode cX4_init 21 = .ok (.aload_n 0, 1) := by decide +kernel
theorem dX4_init_22 : decode cX4_init 22 = .ok (.bipush 7, 2) := by decide +kernel
theorem dX4_init_24 : decode cX4_init 24 = .ok (.newarray .int, 2) := by decide +kernel
theorem dX4_init_26 : decode cX4_init 26 = .ok (.putfield 18, 3) := by decide +kernel
theorem dX4_init_29 : decode cX4_init 29 = .ok (.aload_n 0, 1) := by decide +kernel
theorem dX4_init_30 : decode cX4_init 30 = .ok (.aconst_null, 1) := by decide +kernel
theorem dX4_init_31 : decode cX4_init 31 = .ok (.putfield 21, 3) := by decide +kernel
theorem dX4_init_34 : decode cX4_init 34 = .ok (.aload_n 0, 1) := by decide +kernel
theorem dX4_init_35 : decode cX4_init 35 = .ok (.iconst 0, 1) := by decide +kernel
theorem dX4_init_36 : decode cX4_init 36 = .ok (.putfield 25, 3) := by decide +kernel
theorem dX4_init_39 : decode cX4_init 39 = .ok (.return_, 1) := by decide +kernel
theorem dX4_prepare_0 : decode cX4_prepare 0 = .ok (.aload_n 0, 1) := by decide +kernel
theorem dX4_prepare_1 : decode cX4_prepare 1 = .ok (.aload_n 1, 1) := by decide +kernel
theorem dX4_prepare_2 : decode cX4_prepare 2 = .ok (.putfield 21, 3) := by decide +kernel
theorem dX4_prepare_5 : decode cX4_prepare 5 = .ok (.aload_n 0, 1) := by decide +kernel
theorem dX4_prepare_6 : decode cX4_prepare 6 = .ok (.aload_n 1, 1) := by decide +kernel
theorem dX4_prepare_7 : decode cX4_prepare 7 = .ok (.getfield 29, 3) := by decide +kernel
theorem dX4_prepare_10 : decode cX4_prepare 10 = .ok (.putfield 25, 3) := by decide +kernel
theorem dX4_prepare_13 : decode cX4_prepare 13 = .ok (.iconst 1, 1) := by decide +kernel
theorem dX4_prepare_14 : decode cX4_prepare 14 = .ok (.aload_n 0, 1) := by decide +kernel
theorem dX4_prepare_15 : decode cX4_prepare 15 = .ok (.getfield 25, 3) := by decide +kernel
theorem dX4_prepare_18 : decode cX4_prepare 18 = .ok (.ishl, 1) := by decide +kernel
theorem dX4_prepare_19 : decode cX4_prepare 19 = .ok (.iconst 1, 1) := by decide +kernel
theorem dX4_prepare_20 : decode cX4_prepare 20 = .ok (.isub, 1) := by decide +kernel
theorem dX4_prepare_21 : decode cX4_prepare 21 = .ok (.istore_n 2, 1) := by decide +kernel
theorem dX4_prepare_22 : decode cX4_prepare 22 = .ok (.iconst 0, 1) := by decide +kernel
theorem dX4_prepare_23 : decode cX4_prepare 23 = .ok (.istore_n 3, 1) := by decide +kernel
theorem dX4_prepare_24 : decode cX4_prepare 24 = .ok (.iload_n 3, 1) := by decide +kernel
theorem dX4_prepare_25 : decode cX4_prepare 25 = .ok (.aload_n 0, 1) := by decide +kernel
theorem dX4_prepare_26 : decode cX4_prepare 26 = .ok (.getfield 25, 3) := by decide +kernel
theorem dX4_prepare_29 : decode cX4_prepare 29 = .ok (.if_icmp .ge 20, 3) := by decide +kernel
theorem dX4_prepare_32 : decode cX4_prepare 32 = .ok (.aload_n 0, 1) := by decide +kernel
theorem dX4_prepare_33 : decode cX4_prepare 33 = .ok (.getfield 11, 3) := by decide +kernel
theorem dX4_prepare_36 : decode cX4_prepare 36 = .ok (.iload_n 2, 1) := by decide +kernel
theorem dX4_prepare_37 : decode cX4_prepare 37 = .ok (.iconst 3, 1) := by decide +kernel
theorem dX4_prepare_38 : decode cX4_prepare 38 = .ok (.ishl, 1) := by decide +kernel
theorem dX4_prepare_39 : decode cX4_prepare 39 = .ok (.iload_n 3, 1) := by decide +kernel
theorem dX4_prepare_40 : decode cX4_prepare 40 = .ok (.ior, 1) := by decide +kernel
theorem dX4_prepare_41 : decode cX4_prepare 41 = .ok (.iconst 1, 1) := by decide +kernel
theorem dX4_prepare_42 : decode cX4_prepare 42 = .ok (.iastore, 1) := by decide +kernel
theorem dX4_prepare_43 : decode cX4_prepare 43 = .ok (.iinc 3 1, 3) := by decide +kernel
theorem dX4_prepare_46 : decode cX4_prepare 46 = .ok (.goto (-22), 3) := by decide +kernel
theorem dX4_prepare_49 : decode cX4_prepare 49 = .ok (.iload_n 2, 1) := by decide +kernel
theorem dX4_prepare_50 : decode cX4_prepare 50 = .ok (.iconst 1, 1) := by decide +kernel
theorem dX4_prepare_51 : decode cX4_prepare 51 = .ok (.isub, 1) := by decide +kernel
theorem dX4_prepare_52 : decode cX4_prepare 52 = .ok (.istore_n 3, 1) := by decide +kernel
theorem dX4_prepare_53 : decode cX4_prepare 53 = .ok (.iload_n 3, 1) := by decide +kernel
theorem dX4_prepare_54 : decode cX4_prepare 54 = .ok (.ifCond .le 55, 3) := by decide +kernel
theorem dX4_prepare_57 : decode cX4_prepare 57 = .ok (.iconst 0, 1) := by decide +kernel
theorem dX4_prepare_58 : decode cX4_prepare 58 = .ok (.istore 4, 2) := by decide +kernel
theorem dX4_prepare_60 : decode cX4_prepare 60 = .ok (.iload 4, 2) := by decide +kernel
theorem dX4_prepare_62 : decode cX4_prepare 62 = .ok (.aload_n 0, 1) := by decide +kernel
theorem dX4_prepare_63 : decode cX4_prepare 63 = .ok (.getfield 25, 3) := by decide +kernel
theorem dX4_prepare_66 : decode cX4_prepare 66 = .ok (.if_icmp .ge 37, 3) := by decide +kernel
theorem dX4_prepare_69 : decode cX4_prepare 69 = .ok (.iload_n 3, 1) := by decide +kernel
theorem dX4_prepare_70 : decode cX4_prepare 70 = .ok (.iload 4, 2) := by decide +kernel
theorem dX4_prepare_72 : decode cX4_prepare 72 = .ok (.ishr, 1) := by decide +kernel
theorem dX4_prepare_73 : decode cX4_prepare 73 = .ok (.iconst 1, 1) := by decide +kernel
theorem dX4_prepare_74 : decode cX4_prepare 74 = .ok (.iand, 1) := by decide +kernel
theorem dX4_prepare_75 : decode cX4_prepare 75 = .ok (.ifCond .eq 22, 3) := by decide +kernel
theorem dX4_prepare_78 : decode cX4_prepare 78 = .ok (.aload_n 0, 1) := by decide +kernel
theorem dX4_prepare_79 : decode cX4_prepare 79 = .ok (.getfield 11, 3) := by decide +kernel
theorem dX4_prepare_82 : decode cX4_prepare 82 = .ok (.iload_n 3, 1) := by decide +kernel
theorem dX4_prepare_83 : decode cX4_prepare 83 = .ok (.iconst 3, 1) := by decide +kernel
theorem dX4_prepare_84 : decode cX4_prepare 84 = .ok (.ishl, 1) := by decide +kernel
theorem dX4_prepare_85 : decode cX4_prepare 85 = .ok (.iload 4, 2) := by decide +kernel
theorem dX4_prepare_87 : decode cX4_prepare 87 = .ok (.ior, 1) := by decide +kernel
theorem dX4_prepare_88 : decode cX4_prepare 88 = .ok (.aload_n 0, 1) := by decide +kernel
theorem dX4_prepare_89 : decode cX4_prepare 89 = .ok (.aload_n 1, 1) := by decide +kernel
theorem dX4_prepare_90 : decode cX4_prepare 90 = .ok (.iload_n 3, 1) := by decide +kernel
theorem dX4_prepare_91 : decode cX4_prepare 91 = .ok (.iload 4, 2) := by decide +kernel
theorem dX4_prepare_93 : decode cX4_prepare 93 = .ok (.invokevirtual 32, 3) := by decide +kernel
theorem dX4_prepare_96 : decode cX4_prepare 96 = .ok (.iastore, 1) := by decide +kernel
theorem dX4_prepare_97 : decode cX4_prepare 97 = .ok (.iinc 4 1, 3) := by decide +kernel
theorem dX4_prepare_100 : decode cX4_prepare 100 = .ok (.goto (-40), 3) := by decide +kernel
theorem dX4_prepare_103 : decode cX4_prepare 103 = .ok (.iinc 3 (-1), 3) := by decide +kernel
theorem dX4_prepare_106 : decode cX4_prepare 106 = .ok (.goto (-53), 3) := by decide +kernel
theorem dX4_prepare_109 : decode cX4_prepare 109 = .ok (.return_, 1) := by decide +kernel
theorem dX4_sumBehind_0 : decode cX4_sumBehind 0 = .ok (.iload_n 2, 1) := by decide +kernel
theorem dX4_sumBehind_1 : decode cX4_sumBehind 1 = .ok (.aload_n 1, 1) := by decide +kernel
theorem dX4_sumBehind_2 : decode cX4_sumBehind 2 = .ok (.getfield 36, 3) := by decide +kernel
theorem dX4_sumBehind_5 : decode cX4_sumBehind 5 = .ok (.iload_n 3, 1) := by decide +kernel
theorem dX4_sumBehind_6 : decode cX4_sumBehind 6 = .ok (.iaload, 1) := by decide +kernel
theorem dX4_sumBehind_7 : decode cX4_sumBehind 7 = .ok (.ior, 1) := by decide +kernel
theorem dX4_sumBehind_8 : decode cX4_sumBehind 8 = .ok (.istore 4, 2) := by decide +kernel
theorem dX4_sumBehind_10 : decode cX4_sumBehind 10 = .ok (.iconst 0, 1) := by decide +kernel
theorem dX4_sumBehind_11 : decode cX4_sumBehind 11 = .ok (.istore 5, 2) := by decide +kernel
theorem dX4_sumBehind_13 : decode cX4_sumBehind 13 = .ok (.iconst 0, 1) := by decide +kernel
theorem dX4_sumBehind_14 : decode cX4_sumBehind 14 = .ok (.istore 6, 2) := by decide +kernel
theorem dX4_sumBehind_16 : decode cX4_sumBehind 16 = .ok (.iload 6, 2) := by decide +kernel
theorem dX4_sumBehind_18 : decode cX4_sumBehind 18 = .ok (.aload_n 0, 1) := by decide +kernel
theorem dX4_sumBehind_19 : decode cX4_sumBehind 19 = .ok (.getfield 25, 3) := by decide +kernel
theorem dX4_sumBehind_22 : decode cX4_sumBehind 22 = .ok (.if_icmp .ge 40, 3) := by decide +kernel
theorem dX4_sumBehind_25 : decode cX4_sumBehind 25 = .ok (.iload 4, 2) := by decide +kernel
theorem dX4_sumBehind_27 : decode cX4_sumBehind 27 = .ok (.iload 6, 2) := by decide +kernel
theorem dX4_sumBehind_29 : decode cX4_sumBehind 29 = .ok (.ishr, 1) := by decide +kernel
theorem dX4_sumBehind_30 : decode cX4_sumBehind 30 = .ok (.iconst 1, 1) := by decide +kernel
theorem dX4_sumBehind_31 : decode cX4_sumBehind 31 = .ok (.iand, 1) := by decide +kernel
theorem dX4_sumBehind_32 : decode cX4_sumBehind 32 = .ok (.ifCond .ne 24, 3) := by decide +kernel
theorem dX4_sumBehind_35 : decode cX4_sumBehind 35 = .ok (.iload 5, 2) := by decide +kernel
theorem dX4_sumBehind_37 : decode cX4_sumBehind 37 = .ok (.aload_n 0, 1) := by decide +kernel
theorem dX4_sumBehind_38 : decode cX4_sumBehind 38 = .ok (.getfield 11, 3) := by decide +kernel
theorem dX4_sumBehind_41 : decode cX4_sumBehind 41 = .ok (.iload_n 2, 1) := by decide +kernel
theorem dX4_sumBehind_42 : decode cX4_sumBehind 42 = .ok (.iconst 1, 1) := by decide +kernel
theorem dX4_sumBehind_43 : decode cX4_sumBehind 43 = .ok (.iload 6, 2) := by decide +kernel
theorem dX4_sumBehind_45 : decode cX4_sumBehind 45 = .ok (.ishl, 1) := by decide +kernel
theorem dX4_sumBehind_46 : decode cX4_sumBehind 46 = .ok (.ior, 1) := by decide +kernel
theorem dX4_sumBehind_47 : decode cX4_sumBehind 47 = .ok (.iconst 3, 1) := by decide +kernel
theorem dX4_sumBehind_48 : decode cX4_sumBehind 48 = .ok (.ishl, 1) := by decide +kernel
theorem dX4_sumBehind_49 : decode cX4_sumBehind 49 = .ok (.iload 6, 2) := by decide +kernel
theorem dX4_sumBehind_51 : decode cX4_sumBehind 51 = .ok (.ior, 1) := by decide +kernel
theorem dX4_sumBehind_52 : decode cX4_sumBehind 52 = .ok (.iaload, 1) := by decide +kernel
theorem dX4_sumBehind_53 : decode cX4_sumBehind 53 = .ok (.iadd, 1) := by decide +kernel
theorem dX4_sumBehind_54 : decode cX4_sumBehind 54 = .ok (.istore 5, 2) := by decide +kernel
theorem dX4_sumBehind_56 : decode cX4_sumBehind 56 = .ok (.iinc 6 1, 3) := by decide +kernel
theorem dX4_sumBehind_59 : decode cX4_sumBehind 59 = .ok (.goto (-43), 3) := by decide +kernel
theorem dX4_sumBehind_62 : decode cX4_sumBehind 62 = .ok (.iload 5, 2) := by decide +kernel
theorem dX4_sumBehind_64 : decode cX4_sumBehind 64 = .ok (.ireturn, 1) := by decide +kernel
theorem dX4_rowsInAll_0 : decode cX4_rowsInAll 0 = .ok (.iconst 0, 1) := by decide +kernel
theorem dX4_rowsInAll_1 : decode cX4_rowsInAll 1 = .ok (.istore_n 1, 1) := by decide +kernel
theorem dX4_rowsInAll_2 : decode cX4_rowsInAll 2 = .ok (.iconst 0, 1) := by decide +kernel
theorem dX4_rowsInAll_3 : decode cX4_rowsInAll 3 = .ok (.istore_n 2, 1) := by decide +kernel
theorem dX4_rowsInAll_4 : decode cX4_rowsInAll 4 = .ok (.iload_n 2, 1) := by decide +kernel
theorem dX4_rowsInAll_5 : decode cX4_rowsInAll 5 = .ok (.aload_n 0, 1) := by decide +kernel
theorem dX4_rowsInAll_6 : decode cX4_rowsInAll 6 = .ok (.getfield 25, 3) := by decide +kernel
theorem dX4_rowsInAll_9 : decode cX4_rowsInAll 9 = .ok (.if_icmp .ge 24, 3) := by decide +kernel
theorem dX4_rowsInAll_12 : decode cX4_rowsInAll 12 = .ok (.iload_n 1, 1) := by decide +kernel
theorem dX4_rowsInAll_13 : decode cX4_rowsInAll 13 = .ok (.aload_n 0, 1) := by decide +kernel
theorem dX4_rowsInAll_14 : decode cX4_rowsInAll 14 = .ok (.getfield 11, 3) := by decide +kernel
theorem dX4_rowsInAll_17 : decode cX4_rowsInAll 17 = .ok (.iconst 1, 1) := by decide +kernel
theorem dX4_rowsInAll_18 : decode cX4_rowsInAll 18 = .ok (.iload_n 2, 1) := by decide +kernel
theorem dX4_rowsInAll_19 : decode cX4_rowsInAll 19 = .ok (.ishl, 1) := by decide +kernel
theorem dX4_rowsInAll_20 : decode cX4_rowsInAll 20 = .ok (.iconst 3, 1) := by decide +kernel
theorem dX4_rowsInAll_21 : decode cX4_rowsInAll 21 = .ok (.ishl, 1) := by decide +kernel
theorem dX4_rowsInAll_22 : decode cX4_rowsInAll 22 = .ok (.iload_n 2, 1) := by decide +kernel
theorem dX4_rowsInAll_23 : decode cX4_rowsInAll 23 = .ok (.ior, 1) := by decide +kernel
theorem dX4_rowsInAll_24 : decode cX4_rowsInAll 24 = .ok (.iaload, 1) := by decide +kernel
theorem dX4_rowsInAll_25 : decode cX4_rowsInAll 25 = .ok (.iadd, 1) := by decide +kernel
theorem dX4_rowsInAll_26 : decode cX4_rowsInAll 26 = .ok (.istore_n 1, 1) := by decide +kernel
theorem dX4_rowsInAll_27 : decode cX4_rowsInAll 27 = .ok (.iinc 2 1, 3) := by decide +kernel
theorem dX4_rowsInAll_30 : decode cX4_rowsInAll 30 = .ok (.goto (-26), 3) := by decide +kernel
theorem dX4_rowsInAll_33 : decode cX4_rowsInAll 33 = .ok (.iload_n 1, 1) := by decide +kernel
theorem dX4_rowsInAll_34 : decode cX4_rowsInAll 34 = .ok (.ireturn, 1) := by decide +kernel
theorem dX4_leastRowHead_0 : decode cX4_leastRowHead 0 = .ok (.iconst 0, 1) := by decide +kernel
theorem dX4_leastRowHead_1 : decode cX4_leastRowHead 1 = .ok (.istore_n 2, 1) := by decide +kernel
theorem dX4_leastRowHead_2 : decode cX4_leastRowHead 2 = .ok (.iconst (-1), 1) := by decide +kernel
theorem dX4_leastRowHead_3 : decode cX4_leastRowHead 3 = .ok (.istore_n 3, 1) := by decide +kernel
theorem dX4_leastRowHead_4 : decode cX4_leastRowHead 4 = .ok (.iconst 0, 1) := by decide +kernel
theorem dX4_leastRowHead_5 : decode cX4_leastRowHead 5 = .ok (.istore 4, 2) := by decide +kernel
theorem dX4_leastRowHead_7 : decode cX4_leastRowHead 7 = .ok (.iload 4, 2) := by decide +kernel
theorem dX4_leastRowHead_9 : decode cX4_leastRowHead 9 = .ok (.iload_n 1, 1) := by decide +kernel
theorem dX4_leastRowHead_10 : decode cX4_leastRowHead 10 = .ok (.if_icmp .gt 29, 3) := by decide +kernel
theorem dX4_leastRowHead_13 : decode cX4_leastRowHead 13 = .ok (.aload_n 0, 1) := by decide +kernel
theorem dX4_leastRowHead_14 : decode cX4_leastRowHead 14 = .ok (.iload_n 2, 1) := by decide +kernel
theorem dX4_leastRowHead_15 : decode cX4_leastRowHead 15 = .ok (.iload_n 3, 1) := by decide +kernel
theorem dX4_leastRowHead_16 : decode cX4_leastRowHead 16 = .ok (.invokevirtual 39, 3) := by decide +kernel
theorem dX4_leastRowHead_19 : decode cX4_leastRowHead 19 = .ok (.istore_n 3, 1) := by decide +kernel
theorem dX4_leastRowHead_20 : decode cX4_leastRowHead 20 = .ok (.iload_n 3, 1) := by decide +kernel
theorem dX4_leastRowHead_21 : decode cX4_leastRowHead 21 = .ok (.iconst (-1), 1) := by decide +kernel
theorem dX4_leastRowHead_22 : decode cX4_leastRowHead 22 = .ok (.if_icmp .ne 5, 3) := by decide +kernel
theorem dX4_leastRowHead_25 : decode cX4_leastRowHead 25 = .ok (.iconst (-1), 1) := by decide +kernel
theorem dX4_leastRowHead_26 : decode cX4_leastRowHead 26 = .ok (.ireturn, 1) := by decide +kernel
theorem dX4_leastRowHead_27 : decode cX4_leastRowHead 27 = .ok (.iload_n 2, 1) := by decide +kernel
theorem dX4_leastRowHead_28 : decode cX4_leastRowHead 28 = .ok (.iconst 1, 1) := by decide +kernel
theorem dX4_leastRowHead_29 : decode cX4_leastRowHead 29 = .ok (.iload_n 3, 1) := by decide +kernel
theorem dX4_leastRowHead_30 : decode cX4_leastRowHead 30 = .ok (.ishl, 1) := by decide +kernel
theorem dX4_leastRowHead_31 : decode cX4_leastRowHead 31 = .ok (.ior, 1) := by decide +kernel
theorem dX4_leastRowHead_32 : decode cX4_leastRowHead 32 = .ok (.istore_n 2, 1) := by decide +kernel
theorem dX4_leastRowHead_33 : decode cX4_leastRowHead 33 = .ok (.iinc 4 1, 3) := by decide +kernel
theorem dX4_leastRowHead_36 : decode cX4_leastRowHead 36 = .ok (.goto (-29), 3) := by decide +kernel
theorem dX4_leastRowHead_39 : decode cX4_leastRowHead 39 = .ok (.iload_n 3, 1) := by decide +kernel
theorem dX4_leastRowHead_40 : decode cX4_leastRowHead 40 = .ok (.ireturn, 1) := by decide +kernel
theorem dX4_leastNext_0 : decode cX4_leastNext 0 = .ok (.iconst 0, 1) := by decide +kernel
theorem dX4_leastNext_1 : decode cX4_leastNext 1 = .ok (.istore_n 3, 1) := by decide +kernel
theorem dX4_leastNext_2 : decode cX4_leastNext 2 = .ok (.iload_n 3, 1) := by decide +kernel
theorem dX4_leastNext_3 : decode cX4_leastNext 3 = .ok (.aload_n 0, 1) := by decide +kernel
theorem dX4_leastNext_4 : decode cX4_leastNext 4 = .ok (.getfield 25, 3) := by decide +kernel
theorem dX4_leastNext_7 : decode cX4_leastNext 7 = .ok (.if_icmp .ge 21, 3) := by decide +kernel
theorem dX4_leastNext_10 : decode cX4_leastNext 10 = .ok (.aload_n 0, 1) := by decide +kernel
theorem dX4_leastNext_11 : decode cX4_leastNext 11 = .ok (.iload_n 1, 1) := by decide +kernel
theorem dX4_leastNext_12 : decode cX4_leastNext 12 = .ok (.iload_n 2, 1) := by decide +kernel
theorem dX4_leastNext_13 : decode cX4_leastNext 13 = .ok (.iload_n 3, 1) := by decide +kernel
theorem dX4_leastNext_14 : decode cX4_leastNext 14 = .ok (.invokevirtual 43, 3) := by decide +kernel
theorem dX4_leastNext_17 : decode cX4_leastNext 17 = .ok (.ifCond .eq 5, 3) := by decide +kernel
theorem dX4_leastNext_20 : decode cX4_leastNext 20 = .ok (.iload_n 3, 1) := by decide +kernel
theorem dX4_leastNext_21 : decode cX4_leastNext 21 = .ok (.ireturn, 1) := by decide +kernel
theorem dX4_leastNext_22 : decode cX4_leastNext 22 = .ok (.iinc 3 1, 3) := by decide +kernel
theorem dX4_leastNext_25 : decode cX4_leastNext 25 = .ok (.goto (-23), 3) := by decide +kernel
theorem dX4_leastNext_28 : decode cX4_leastNext 28 = .ok (.iconst (-1), 1) := by decide +kernel
theorem dX4_leastNext_29 : decode cX4_leastNext 29 = .ok (.ireturn, 1) := by decide +kernel
theorem dX4_canFollow_0 : decode cX4_canFollow 0 = .ok (.aload_n 0, 1) := by decide +kernel
theorem dX4_canFollow_1 : decode cX4_canFollow 1 = .ok (.getfield 21, 3) := by decide +kernel
theorem dX4_canFollow_4 : decode cX4_canFollow 4 = .ok (.ifnull 11, 3) := by decide +kernel
theorem dX4_canFollow_7 : decode cX4_canFollow 7 = .ok (.iload_n 1, 1) := by decide +kernel
theorem dX4_canFollow_8 : decode cX4_canFollow 8 = .ok (.iload_n 3, 1) := by decide +kernel
theorem dX4_canFollow_9 : decode cX4_canFollow 9 = .ok (.ishr, 1) := by decide +kernel
theorem dX4_canFollow_10 : decode cX4_canFollow 10 = .ok (.iconst 1, 1) := by decide +kernel
theorem dX4_canFollow_11 : decode cX4_canFollow 11 = .ok (.iand, 1) := by decide +kernel
theorem dX4_canFollow_12 : decode cX4_canFollow 12 = .ok (.ifCond .eq 5, 3) := by decide +kernel
theorem dX4_canFollow_15 : decode cX4_canFollow 15 = .ok (.iconst 0, 1) := by decide +kernel
theorem dX4_canFollow_16 : decode cX4_canFollow 16 = .ok (.ireturn, 1) := by decide +kernel
theorem dX4_canFollow_17 : decode cX4_canFollow 17 = .ok (.iload_n 2, 1) := by decide +kernel
theorem dX4_canFollow_18 : decode cX4_canFollow 18 = .ok (.iconst (-1), 1) := by decide +kernel
theorem dX4_canFollow_19 : decode cX4_canFollow 19 = .ok (.if_icmp .eq 17, 3) := by decide +kernel
theorem dX4_canFollow_22 : decode cX4_canFollow 22 = .ok (.aload_n 0, 1) := by decide +kernel
theorem dX4_canFollow_23 : decode cX4_canFollow 23 = .ok (.getfield 21, 3) := by decide +kernel
theorem dX4_canFollow_26 : decode cX4_canFollow 26 = .ok (.iload_n 2, 1) := by decide +kernel
theorem dX4_canFollow_27 : decode cX4_canFollow 27 = .ok (.iload_n 3, 1) := by decide +kernel
theorem dX4_canFollow_28 : decode cX4_canFollow 28 = .ok (.invokevirtual 47, 3) := by decide +kernel
theorem dX4_canFollow_31 : decode cX4_canFollow 31 = .ok (.ifCond .eq 5, 3) := by decide +kernel
theorem dX4_canFollow_34 : decode cX4_canFollow 34 = .ok (.iconst 0, 1) := by decide +kernel
theorem dX4_canFollow_35 : decode cX4_canFollow 35 = .ok (.ireturn, 1) := by decide +kernel
theorem dX4_canFollow_36 : decode cX4_canFollow 36 = .ok (.aload_n 0, 1) := by decide +kernel
theorem dX4_canFollow_37 : decode cX4_canFollow 37 = .ok (.getfield 11, 3) := by decide +kernel
theorem dX4_canFollow_40 : decode cX4_canFollow 40 = .ok (.iload_n 1, 1) := by decide +kernel
theorem dX4_canFollow_41 : decode cX4_canFollow 41 = .ok (.iconst 1, 1) := by decide +kernel
theorem dX4_canFollow_42 : decode cX4_canFollow 42 = .ok (.iload_n 3, 1) := by decide +kernel
theorem dX4_canFollow_43 : decode cX4_canFollow 43 = .ok (.ishl, 1) := by decide +kernel
theorem dX4_canFollow_44 : decode cX4_canFollow 44 = .ok (.ior, 1) := by decide +kernel
theorem dX4_canFollow_45 : decode cX4_canFollow 45 = .ok (.iconst 3, 1) := by decide +kernel
theorem dX4_canFollow_46 : decode cX4_canFollow 46 = .ok (.ishl, 1) := by decide +kernel
theorem dX4_canFollow_47 : decode cX4_canFollow 47 = .ok (.iload_n 3, 1) := by decide +kernel
theorem dX4_canFollow_48 : decode cX4_canFollow 48 = .ok (.ior, 1) := by decide +kernel
theorem dX4_canFollow_49 : decode cX4_canFollow 49 = .ok (.iaload, 1) := by decide +kernel
theorem dX4_canFollow_50 : decode cX4_canFollow 50 = .ok (.ifCond .le 7, 3) := by decide +kernel
theorem dX4_canFollow_53 : decode cX4_canFollow 53 = .ok (.iconst 1, 1) := by decide +kernel
theorem dX4_canFollow_54 : decode cX4_canFollow 54 = .ok (.goto 4, 3) := by decide +kernel
theorem dX4_canFollow_57 : decode cX4_canFollow 57 = .ok (.iconst 0, 1) := by decide +kernel
theorem dX4_canFollow_58 : decode cX4_canFollow 58 = .ok (.ireturn, 1) := by decide +kernel
theorem dX4_fewestSwaps_0 : decode cX4_fewestSwaps 0 = .ok (.aload_n 0, 1) := by decide +kernel
theorem dX4_fewestSwaps_1 : decode cX4_fewestSwaps 1 = .ok (.getfield 21, 3) := by decide +kernel
theorem dX4_fewestSwaps_4 : decode cX4_fewestSwaps 4 = .ok (.ifnonnull 7, 3) := by decide +kernel
theorem dX4_fewestSwaps_7 : decode cX4_fewestSwaps 7 = .ok (.iconst (-1), 1) := by decide +kernel
theorem dX4_fewestSwaps_8 : decode cX4_fewestSwaps 8 = .ok (.goto 10, 3) := by decide +kernel
theorem dX4_fewestSwaps_11 : decode cX4_fewestSwaps 11 = .ok (.aload_n 0, 1) := by decide +kernel
theorem dX4_fewestSwaps_12 : decode cX4_fewestSwaps 12 = .ok (.iconst 0, 1) := by decide +kernel
theorem dX4_fewestSwaps_13 : decode cX4_fewestSwaps 13 = .ok (.iconst 0, 1) := by decide +kernel
theorem dX4_fewestSwaps_14 : decode cX4_fewestSwaps 14 = .ok (.iconst (-1), 1) := by decide +kernel
theorem dX4_fewestSwaps_15 : decode cX4_fewestSwaps 15 = .ok (.invokestatic 51, 3) := by decide +kernel
theorem dX4_fewestSwaps_18 : decode cX4_fewestSwaps 18 = .ok (.ireturn, 1) := by decide +kernel
theorem dX4_fewestBehind_0 : decode cX4_fewestBehind 0 = .ok (.aload_n 0, 1) := by decide +kernel
theorem dX4_fewestBehind_1 : decode cX4_fewestBehind 1 = .ok (.getfield 15, 3) := by decide +kernel
theorem dX4_fewestBehind_4 : decode cX4_fewestBehind 4 = .ok (.astore 4, 2) := by decide +kernel
theorem dX4_fewestBehind_6 : decode cX4_fewestBehind 6 = .ok (.iload_n 1, 1) := by decide +kernel
theorem dX4_fewestBehind_7 : decode cX4_fewestBehind 7 = .ok (.aload_n 0, 1) := by decide +kernel
theorem dX4_fewestBehind_8 : decode cX4_fewestBehind 8 = .ok (.getfield 25, 3) := by decide +kernel
theorem dX4_fewestBehind_11 : decode cX4_fewestBehind 11 = .ok (.if_icmp .ge 9, 3) := by decide +kernel
theorem dX4_fewestBehind_14 : decode cX4_fewestBehind 14 = .ok (.iload_n 1, 1) := by decide +kernel
theorem dX4_fewestBehind_15 : decode cX4_fewestBehind 15 = .ok (.bipush 7, 2) := by decide +kernel
theorem dX4_fewestBehind_17 : decode cX4_fewestBehind 17 = .ok (.if_icmp .lt 42, 3) := by decide +kernel
theorem dX4_fewestBehind_20 : decode cX4_fewestBehind 20 = .ok (.aload_n 0, 1) := by decide +kernel
theorem dX4_fewestBehind_21 : decode cX4_fewestBehind 21 = .ok (.getfield 21, 3) := by decide +kernel
theorem dX4_fewestBehind_24 : decode cX4_fewestBehind 24 = .ok (.getfield 55, 3) := by decide +kernel
theorem dX4_fewestBehind_27 : decode cX4_fewestBehind 27 = .ok (.aload 4, 2) := by decide +kernel
theorem dX4_fewestBehind_29 : decode cX4_fewestBehind 29 = .ok (.aload_n 0, 1) := by decide +kernel
theorem dX4_fewestBehind_30 : decode cX4_fewestBehind 30 = .ok (.getfield 25, 3) := by decide +kernel
theorem dX4_fewestBehind_33 : decode cX4_fewestBehind 33 = .ok (.aload_n 0, 1) := by decide +kernel
theorem dX4_fewestBehind_34 : decode cX4_fewestBehind 34 = .ok (.getfield 18, 3) := by decide +kernel
theorem dX4_fewestBehind_37 : decode cX4_fewestBehind 37 = .ok (.invokestatic 58, 3) := by decide +kernel
theorem dX4_fewestBehind_40 : decode cX4_fewestBehind 40 = .ok (.istore 5, 2) := by decide +kernel
theorem dX4_fewestBehind_42 : decode cX4_fewestBehind 42 = .ok (.iload_n 3, 1) := by decide +kernel
theorem dX4_fewestBehind_43 : decode cX4_fewestBehind 43 = .ok (.iconst (-1), 1) := by decide +kernel
theorem dX4_fewestBehind_44 : decode cX4_fewestBehind 44 = .ok (.if_icmp .ne 8, 3) := by decide +kernel
theorem dX4_fewestBehind_47 : decode cX4_fewestBehind 47 = .ok (.iload 5, 2) := by decide +kernel
theorem dX4_fewestBehind_49 : decode cX4_fewestBehind 49 = .ok (.goto 9, 3) := by decide +kernel
theorem dX4_fewestBehind_52 : decode cX4_fewestBehind 52 = .ok (.iload_n 3, 1) := by decide +kernel
theorem dX4_fewestBehind_53 : decode cX4_fewestBehind 53 = .ok (.iload 5, 2) := by decide +kernel
theorem dX4_fewestBehind_55 : decode cX4_fewestBehind 55 = .ok (.invokestatic 64, 3) := by decide +kernel
theorem dX4_fewestBehind_58 : decode cX4_fewestBehind 58 = .ok (.ireturn, 1) := by decide +kernel
theorem dX4_fewestBehind_59 : decode cX4_fewestBehind 59 = .ok (.iload_n 1, 1) := by decide +kernel
theorem dX4_fewestBehind_60 : decode cX4_fewestBehind 60 = .ok (.ifCond .le 12, 3) := by decide +kernel
theorem dX4_fewestBehind_63 : decode cX4_fewestBehind 63 = .ok (.aload 4, 2) := by decide +kernel
theorem dX4_fewestBehind_65 : decode cX4_fewestBehind 65 = .ok (.iload_n 1, 1) := by decide +kernel
theorem dX4_fewestBehind_66 : decode cX4_fewestBehind 66 = .ok (.iconst 1, 1) := by decide +kernel
theorem dX4_fewestBehind_67 : decode cX4_fewestBehind 67 = .ok (.isub, 1) := by decide +kernel
theorem dX4_fewestBehind_68 : decode cX4_fewestBehind 68 = .ok (.iaload, 1) := by decide +kernel
theorem dX4_fewestBehind_69 : decode cX4_fewestBehind 69 = .ok (.goto 4, 3) := by decide +kernel
theorem dX4_fewestBehind_72 : decode cX4_fewestBehind 72 = .ok (.iconst (-1), 1) := by decide +kernel
theorem dX4_fewestBehind_73 : decode cX4_fewestBehind 73 = .ok (.istore 5, 2) := by decide +kernel
theorem dX4_fewestBehind_75 : decode cX4_fewestBehind 75 = .ok (.iload_n 3, 1) := by decide +kernel
theorem dX4_fewestBehind_76 : decode cX4_fewestBehind 76 = .ok (.istore 6, 2) := by decide +kernel
theorem dX4_fewestBehind_78 : decode cX4_fewestBehind 78 = .ok (.iconst 0, 1) := by decide +kernel
theorem dX4_fewestBehind_79 : decode cX4_fewestBehind 79 = .ok (.istore 7, 2) := by decide +kernel
theorem dX4_fewestBehind_81 : decode cX4_fewestBehind 81 = .ok (.iload 7, 2) := by decide +kernel
theorem dX4_fewestBehind_83 : decode cX4_fewestBehind 83 = .ok (.aload_n 0, 1) := by decide +kernel
theorem dX4_fewestBehind_84 : decode cX4_fewestBehind 84 = .ok (.getfield 25, 3) := by decide +kernel
theorem dX4_fewestBehind_87 : decode cX4_fewestBehind 87 = .ok (.if_icmp .ge 44, 3) := by decide +kernel
theorem dX4_fewestBehind_90 : decode cX4_fewestBehind 90 = .ok (.aload_n 0, 1) := by decide +kernel
theorem dX4_fewestBehind_91 : decode cX4_fewestBehind 91 = .ok (.iload_n 2, 1) := by decide +kernel
theorem dX4_fewestBehind_92 : decode cX4_fewestBehind 92 = .ok (.iload 5, 2) := by decide +kernel
theorem dX4_fewestBehind_94 : decode cX4_fewestBehind 94 = .ok (.iload 7, 2) := by decide +kernel
theorem dX4_fewestBehind_96 : decode cX4_fewestBehind 96 = .ok (.invokevirtual 43, 3) := by decide +kernel
theorem dX4_fewestBehind_99 : decode cX4_fewestBehind 99 = .ok (.ifCond .eq 26, 3) := by decide +kernel
theorem dX4_fewestBehind_102 : decode cX4_fewestBehind 102 = .ok (.aload 4, 2) := by decide +kernel
theorem dX4_fewestBehind_104 : decode cX4_fewestBehind 104 = .ok (.iload_n 1, 1) := by decide +kernel
theorem dX4_fewestBehind_105 : decode cX4_fewestBehind 105 = .ok (.iload 7, 2) := by decide +kernel
theorem dX4_fewestBehind_107 : decode cX4_fewestBehind 107 = .ok (.iastore, 1) := by decide +kernel
theorem dX4_fewestBehind_108 : decode cX4_fewestBehind 108 = .ok (.aload_n 0, 1) := by decide +kernel
theorem dX4_fewestBehind_109 : decode cX4_fewestBehind 109 = .ok (.iload_n 1, 1) := by decide +kernel
theorem dX4_fewestBehind_110 : decode cX4_fewestBehind 110 = .ok (.iconst 1, 1) := by decide +kernel
theorem dX4_fewestBehind_111 : decode cX4_fewestBehind 111 = .ok (.iadd, 1) := by decide +kernel
theorem dX4_fewestBehind_112 : decode cX4_fewestBehind 112 = .ok (.iload_n 2, 1) := by decide +kernel
theorem dX4_fewestBehind_113 : decode cX4_fewestBehind 113 = .ok (.iconst 1, 1) := by decide +kernel
theorem dX4_fewestBehind_114 : decode cX4_fewestBehind 114 = .ok (.iload 7, 2) := by decide +kernel
theorem dX4_fewestBehind_116 : decode cX4_fewestBehind 116 = .ok (.ishl, 1) := by decide +kernel
theorem dX4_fewestBehind_117 : decode cX4_fewestBehind 117 = .ok (.ior, 1) := by decide +kernel
theorem dX4_fewestBehind_118 : decode cX4_fewestBehind 118 = .ok (.iload 6, 2) := by decide +kernel
theorem dX4_fewestBehind_120 : decode cX4_fewestBehind 120 = .ok (.invokestatic 51, 3) := by decide +kernel
theorem dX4_fewestBehind_123 : decode cX4_fewestBehind 123 = .ok (.istore 6, 2) := by decide +kernel
theorem dX4_fewestBehind_125 : decode cX4_fewestBehind 125 = .ok (.iinc 7 1, 3) := by decide +kernel
theorem dX4_fewestBehind_128 : decode cX4_fewestBehind 128 = .ok (.goto (-47), 3) := by decide +kernel
theorem dX4_fewestBehind_131 : decode cX4_fewestBehind 131 = .ok (.iload 6, 2) := by decide +kernel
theorem dX4_fewestBehind_133 : decode cX4_fewestBehind 133 = .ok (.ireturn, 1) := by decide +kernel
theorem dX5_exchange_0 : decode cX5_exchange 0 = .ok (.aload_n 0, 1) := by decide +kernel
theorem dX5_exchange_1 : decode cX5_exchange 1 = .ok (.iload_n 1, 1) := by decide +kernel
theorem dX5_exchange_2 : decode cX5_exchange 2 = .ok (.iaload, 1) := by decide +kernel
theorem dX5_exchange_3 : decode cX5_exchange 3 = .ok (.istore_n 3, 1) := by decide +kernel
theorem dX5_exchange_4 : decode cX5_exchange 4 = .ok (.aload_n 0, 1) := by decide +kernel
theorem dX5_exchange_5 : decode cX5_exchange 5 = .ok (.iload_n 1, 1) := by decide +kernel
theorem dX5_exchange_6 : decode cX5_exchange 6 = .ok (.aload_n 0, 1) := by decide +kernel
theorem dX5_exchange_7 : decode cX5_exchange 7 = .ok (.iload_n 2, 1) := by decide +kernel
theorem dX5_exchange_8 : decode cX5_exchange 8 = .ok (.iaload, 1) := by decide +kernel
theorem dX5_exchange_9 : decode cX5_exchange 9 = .ok (.iastore, 1) := by decide +kernel
theorem dX5_exchange_10 : decode cX5_exchange 10 = .ok (.aload_n 0, 1) := by decide +kernel
theorem dX5_exchange_11 : decode cX5_exchange 11 = .ok (.iload_n 2, 1) := by decide +kernel
theorem dX5_exchange_12 : decode cX5_exchange 12 = .ok (.iload_n 3, 1) := by decide +kernel
theorem dX5_exchange_13 : decode cX5_exchange 13 = .ok (.iastore, 1) := by decide +kernel
theorem dX5_exchange_14 : decode cX5_exchange 14 = .ok (.return_, 1) := by decide +kernel
theorem dX5_placeIn_0 : decode cX5_placeIn 0 = .ok (.iconst 0, 1) := by decide +kernel
theorem dX5_placeIn_1 : decode cX5_placeIn 1 = .ok (.istore_n 3, 1) := by decide +kernel
theorem dX5_placeIn_2 : decode cX5_placeIn 2 = .ok (.iload_n 3, 1) := by decide +kernel
theorem dX5_placeIn_3 : decode cX5_placeIn 3 = .ok (.iload_n 1, 1) := by decide +kernel
theorem dX5_placeIn_4 : decode cX5_placeIn 4 = .ok (.if_icmp .ge 18, 3) := by decide +kernel
theorem dX5_placeIn_7 : decode cX5_placeIn 7 = .ok (.aload_n 0, 1) := by decide +kernel
theorem dX5_placeIn_8 : decode cX5_placeIn 8 = .ok (.iload_n 3, 1) := by decide +kernel
theorem dX5_placeIn_9 : decode cX5_placeIn 9 = .ok (.iaload, 1) := by decide +kernel
theorem dX5_placeIn_10 : decode cX5_placeIn 10 = .ok (.iload_n 2, 1) := by decide +kernel
theorem dX5_placeIn_11 : decode cX5_placeIn 11 = .ok (.if_icmp .ne 5, 3) := by decide +kernel
theorem dX5_placeIn_14 : decode cX5_placeIn 14 = .ok (.iload_n 3, 1) := by decide +kernel
theorem dX5_placeIn_15 : decode cX5_placeIn 15 = .ok (.ireturn, 1) := by decide +kernel
theorem dX5_placeIn_16 : decode cX5_placeIn 16 = .ok (.iinc 3 1, 3) := by decide +kernel
theorem dX5_placeIn_19 : decode cX5_placeIn 19 = .ok (.goto (-17), 3) := by decide +kernel
theorem dX5_placeIn_22 : decode cX5_placeIn 22 = .ok (.iconst (-1), 1) := by decide +kernel
theorem dX5_placeIn_23 : decode cX5_placeIn 23 = .ok (.ireturn, 1) := by decide +kernel
theorem dX5_alike_0 : decode cX5_alike 0 = .ok (.iconst 0, 1) := by decide +kernel
theorem dX5_alike_1 : decode cX5_alike 1 = .ok (.istore_n 3, 1) := by decide +kernel
theorem dX5_alike_2 : decode cX5_alike 2 = .ok (.iload_n 3, 1) := by decide +kernel
theorem dX5_alike_3 : decode cX5_alike 3 = .ok (.iload_n 2, 1) := by decide +kernel
theorem dX5_alike_4 : decode cX5_alike 4 = .ok (.if_icmp .ge 20, 3) := by decide +kernel
theorem dX5_alike_7 : decode cX5_alike 7 = .ok (.aload_n 0, 1) := by decide +kernel
theorem dX5_alike_8 : decode cX5_alike 8 = .ok (.iload_n 3, 1) := by decide +kernel
theorem dX5_alike_9 : decode cX5_alike 9 = .ok (.iaload, 1) := by decide +kernel
theorem dX5_alike_10 : decode cX5_alike 10 = .ok (.aload_n 1, 1) := by decide +kernel
theorem dX5_alike_11 : decode cX5_alike 11 = .ok (.iload_n 3, 1) := by decide +kernel
theorem dX5_alike_12 : decode cX5_alike 12 = .ok (.iaload, 1) := by decide +kernel
theorem dX5_alike_13 : decode cX5_alike 13 = .ok (.if_icmp .eq 5, 3) := by decide +kernel
theorem dX5_alike_16 : decode cX5_alike 16 = .ok (.iconst 0, 1) := by decide +kernel
theorem dX5_alike_17 : decode cX5_alike 17 = .ok (.ireturn, 1) := by decide +kernel
theorem dX5_alike_18 : decode cX5_alike 18 = .ok (.iinc 3 1, 3) := by decide +kernel
theorem dX5_alike_21 : decode cX5_alike 21 = .ok (.goto (-19), 3) := by decide +kernel
theorem dX5_alike_24 : decode cX5_alike 24 = .ok (.iconst 1, 1) := by decide +kernel
theorem dX5_alike_25 : decode cX5_alike 25 = .ok (.ireturn, 1) := by decide +kernel
theorem dX5_rightBits_0 : decode cX5_rightBits 0 = .ok (.iconst 0, 1) := by decide +kernel
theorem dX5_rightBits_1 : decode cX5_rightBits 1 = .ok (.istore_n 2, 1) := by decide +kernel
theorem dX5_rightBits_2 : decode cX5_rightBits 2 = .ok (.iconst 0, 1) := by decide +kernel
theorem dX5_rightBits_3 : decode cX5_rightBits 3 = .ok (.istore_n 3, 1) := by decide +kernel
theorem dX5_rightBits_4 : decode cX5_rightBits 4 = .ok (.iload_n 3, 1) := by decide +kernel
theorem dX5_rightBits_5 : decode cX5_rightBits 5 = .ok (.iload_n 1, 1) := by decide +kernel
theorem dX5_rightBits_6 : decode cX5_rightBits 6 = .ok (.if_icmp .ge 22, 3) := by decide +kernel
theorem dX5_rightBits_9 : decode cX5_rightBits 9 = .ok (.aload_n 0, 1) := by decide +kernel
theorem dX5_rightBits_10 : decode cX5_rightBits 10 = .ok (.iload_n 3, 1) := by decide +kernel
theorem dX5_rightBits_11 : decode cX5_rightBits 11 = .ok (.iaload, 1) := by decide +kernel
theorem dX5_rightBits_12 : decode cX5_rightBits 12 = .ok (.iload_n 3, 1) := by decide +kernel
theorem dX5_rightBits_13 : decode cX5_rightBits 13 = .ok (.if_icmp .ne 9, 3) := by decide +kernel
theorem dX5_rightBits_16 : decode cX5_rightBits 16 = .ok (.iload_n 2, 1) := by decide +kernel
theorem dX5_rightBits_17 : decode cX5_rightBits 17 = .ok (.iconst 1, 1) := by decide +kernel
theorem dX5_rightBits_18 : decode cX5_rightBits 18 = .ok (.iload_n 3, 1) := by decide +kernel
theorem dX5_rightBits_19 : decode cX5_rightBits 19 = .ok (.ishl, 1) := by decide +kernel
theorem dX5_rightBits_20 : decode cX5_rightBits 20 = .ok (.ior, 1) := by decide +kernel
theorem dX5_rightBits_21 : decode cX5_rightBits 21 = .ok (.istore_n 2, 1) := by decide +kernel
theorem dX5_rightBits_22 : decode cX5_rightBits 22 = .ok (.iinc 3 1, 3) := by decide +kernel
theorem dX5_rightBits_25 : decode cX5_rightBits 25 = .ok (.goto (-21), 3) := by decide +kernel
theorem dX5_rightBits_28 : decode cX5_rightBits 28 = .ok (.iload_n 2, 1) := by decide +kernel
theorem dX5_rightBits_29 : decode cX5_rightBits 29 = .ok (.ireturn, 1) := by decide +kernel
theorem dX5_rightCount_0 : decode cX5_rightCount 0 = .ok (.aload_n 0, 1) := by decide +kernel
theorem dX5_rightCount_1 : decode cX5_rightCount 1 = .ok (.iload_n 1, 1) := by decide +kernel
theorem dX5_rightCount_2 : decode cX5_rightCount 2 = .ok (.invokestatic 9, 3) := by decide +kernel
theorem dX5_rightCount_5 : decode cX5_rightCount 5 = .ok (.invokestatic 15, 3) := by decide +kernel
theorem dX5_rightCount_8 : decode cX5_rightCount 8 = .ok (.ireturn, 1) := by decide +kernel
theorem dX5_areBeside_0 : decode cX5_areBeside 0 = .ok (.aload_n 0, 1) := by decide +kernel
theorem dX5_areBeside_1 : decode cX5_areBeside 1 = .ok (.iload_n 1, 1) := by decide +kernel
theorem dX5_areBeside_2 : decode cX5_areBeside 2 = .ok (.iload_n 2, 1) := by decide +kernel
theorem dX5_areBeside_3 : decode cX5_areBeside 3 = .ok (.invokestatic 21, 3) := by decide +kernel
theorem dX5_areBeside_6 : decode cX5_areBeside 6 = .ok (.aload_n 0, 1) := by decide +kernel
theorem dX5_areBeside_7 : decode cX5_areBeside 7 = .ok (.iload_n 1, 1) := by decide +kernel
theorem dX5_areBeside_8 : decode cX5_areBeside 8 = .ok (.iload_n 3, 1) := by decide +kernel
theorem dX5_areBeside_9 : decode cX5_areBeside 9 = .ok (.invokestatic 21, 3) := by decide +kernel
theorem dX5_areBeside_12 : decode cX5_areBeside 12 = .ok (.isub, 1) := by decide +kernel
theorem dX5_areBeside_13 : decode cX5_areBeside 13 = .ok (.invokestatic 25, 3) := by decide +kernel
theorem dX5_areBeside_16 : decode cX5_areBeside 16 = .ok (.iconst 1, 1) := by decide +kernel
theorem dX5_areBeside_17 : decode cX5_areBeside 17 = .ok (.if_icmp .ne 7, 3) := by decide +kernel
theorem dX5_areBeside_20 : decode cX5_areBeside 20 = .ok (.iconst 1, 1) := by decide +kernel
theorem dX5_areBeside_21 : decode cX5_areBeside 21 = .ok (.goto 4, 3) := by decide +kernel
theorem dX5_areBeside_24 : decode cX5_areBeside 24 = .ok (.iconst 0, 1) := by decide +kernel
theorem dX5_areBeside_25 : decode cX5_areBeside 25 = .ok (.ireturn, 1) := by decide +kernel
theorem dX5_crossings_0 : decode cX5_crossings 0 = .ok (.iconst 0, 1) := by decide +kernel
theorem dX5_crossings_1 : decode cX5_crossings 1 = .ok (.istore_n 2, 1) := by decide +kernel
theorem dX5_crossings_2 : decode cX5_crossings 2 = .ok (.iconst 0, 1) := by decide +kernel
theorem dX5_crossings_3 : decode cX5_crossings 3 = .ok (.istore_n 3, 1) := by decide +kernel
theorem dX5_crossings_4 : decode cX5_crossings 4 = .ok (.iload_n 3, 1) := by decide +kernel
theorem dX5_crossings_5 : decode cX5_crossings 5 = .ok (.iload_n 1, 1) := by decide +kernel
theorem dX5_crossings_6 : decode cX5_crossings 6 = .ok (.if_icmp .ge 39, 3) := by decide +kernel
theorem dX5_crossings_9 : decode cX5_crossings 9 = .ok (.iload_n 3, 1) := by decide +kernel
theorem dX5_crossings_10 : decode cX5_crossings 10 = .ok (.iconst 1, 1) := by decide +kernel
theorem dX5_crossings_11 : decode cX5_crossings 11 = .ok (.iadd, 1) := by decide +kernel
theorem dX5_crossings_12 : decode cX5_crossings 12 = .ok (.istore 4, 2) := by decide +kernel
theorem dX5_crossings_14 : decode cX5_crossings 14 = .ok (.iload 4, 2) := by decide +kernel
theorem dX5_crossings_16 : decode cX5_crossings 16 = .ok (.iload_n 1, 1) := by decide +kernel
theorem dX5_crossings_17 : decode cX5_crossings 17 = .ok (.if_icmp .ge 22, 3) := by decide +kernel
theorem dX5_crossings_20 : decode cX5_crossings 20 = .ok (.aload_n 0, 1) := by decide +kernel
theorem dX5_crossings_21 : decode cX5_crossings 21 = .ok (.iload_n 3, 1) := by decide +kernel
theorem dX5_crossings_22 : decode cX5_crossings 22 = .ok (.iaload, 1) := by decide +kernel
theorem dX5_crossings_23 : decode cX5_crossings 23 = .ok (.aload_n 0, 1) := by decide +kernel
theorem dX5_crossings_24 : decode cX5_crossings 24 = .ok (.iload 4, 2) := by decide +kernel
theorem dX5_crossings_26 : decode cX5_crossings 26 = .ok (.iaload, 1) := by decide +kernel
theorem dX5_crossings_27 : decode cX5_crossings 27 = .ok (.if_icmp .le 6, 3) := by decide +kernel
theorem dX5_crossings_30 : decode cX5_crossings 30 = .ok (.iinc 2 1, 3) := by decide +kernel
theorem dX5_crossings_33 : decode cX5_crossings 33 = .ok (.iinc 4 1, 3) := by decide +kernel
theorem dX5_crossings_36 : decode cX5_crossings 36 = .ok (.goto (-22), 3) := by decide +kernel
theorem dX5_crossings_39 : decode cX5_crossings 39 = .ok (.iinc 3 1, 3) := by decide +kernel
theorem dX5_crossings_42 : decode cX5_crossings 42 = .ok (.goto (-38), 3) := by decide +kernel
theorem dX5_crossings_45 : decode cX5_crossings 45 = .ok (.iload_n 2, 1) := by decide +kernel
theorem dX5_crossings_46 : decode cX5_crossings 46 = .ok (.ireturn, 1) := by decide +kernel
theorem dX5_ringBits_0 : decode cX5_ringBits 0 = .ok (.iconst 0, 1) := by decide +kernel
theorem dX5_ringBits_1 : decode cX5_ringBits 1 = .ok (.istore_n 3, 1) := by decide +kernel
theorem dX5_ringBits_2 : decode cX5_ringBits 2 = .ok (.iload_n 2, 1) := by decide +kernel
theorem dX5_ringBits_3 : decode cX5_ringBits 3 = .ok (.istore 4, 2) := by decide +kernel
theorem dX5_ringBits_5 : decode cX5_ringBits 5 = .ok (.iconst 0, 1) := by decide +kernel
theorem dX5_ringBits_6 : decode cX5_ringBits 6 = .ok (.istore 5, 2) := by decide +kernel
theorem dX5_ringBits_8 : decode cX5_ringBits 8 = .ok (.iload 5, 2) := by decide +kernel
theorem dX5_ringBits_10 : decode cX5_ringBits 10 = .ok (.iload_n 1, 1) := by decide +kernel
theorem dX5_ringBits_11 : decode cX5_ringBits 11 = .ok (.if_icmp .ge 22, 3) := by decide +kernel
theorem dX5_ringBits_14 : decode cX5_ringBits 14 = .ok (.iload_n 3, 1) := by decide +kernel
theorem dX5_ringBits_15 : decode cX5_ringBits 15 = .ok (.iconst 1, 1) := by decide +kernel
theorem dX5_ringBits_16 : decode cX5_ringBits 16 = .ok (.iload 4, 2) := by decide +kernel
theorem dX5_ringBits_18 : decode cX5_ringBits 18 = .ok (.ishl, 1) := by decide +kernel
theorem dX5_ringBits_19 : decode cX5_ringBits 19 = .ok (.ior, 1) := by decide +kernel
theorem dX5_ringBits_20 : decode cX5_ringBits 20 = .ok (.istore_n 3, 1) := by decide +kernel
theorem dX5_ringBits_21 : decode cX5_ringBits 21 = .ok (.aload_n 0, 1) := by decide +kernel
theorem dX5_ringBits_22 : decode cX5_ringBits 22 = .ok (.iload 4, 2) := by decide +kernel
theorem dX5_ringBits_24 : decode cX5_ringBits 24 = .ok (.iaload, 1) := by decide +kernel
theorem dX5_ringBits_25 : decode cX5_ringBits 25 = .ok (.istore 4, 2) := by decide +kernel
theorem dX5_ringBits_27 : decode cX5_ringBits 27 = .ok (.iinc 5 1, 3) := by decide +kernel
theorem dX5_ringBits_30 : decode cX5_ringBits 30 = .ok (.goto (-22), 3) := by decide +kernel
theorem dX5_ringBits_33 : decode cX5_ringBits 33 = .ok (.iload_n 3, 1) := by decide +kernel
theorem dX5_ringBits_34 : decode cX5_ringBits 34 = .ok (.ireturn, 1) := by decide +kernel
theorem dX5_longestRise_0 : decode cX5_longestRise 0 = .ok (.iconst 0, 1) := by decide +kernel
theorem dX5_longestRise_1 : decode cX5_longestRise 1 = .ok (.istore_n 3, 1) := by decide +kernel
theorem dX5_longestRise_2 : decode cX5_longestRise 2 = .ok (.iconst 0, 1) := by decide +kernel
theorem dX5_longestRise_3 : decode cX5_longestRise 3 = .ok (.istore 4, 2) := by decide +kernel
theorem dX5_longestRise_5 : decode cX5_longestRise 5 = .ok (.iload 4, 2) := by decide +kernel
theorem dX5_longestRise_7 : decode cX5_longestRise 7 = .ok (.iload_n 1, 1) := by decide +kernel
theorem dX5_longestRise_8 : decode cX5_longestRise 8 = .ok (.if_icmp .ge 67, 3) := by decide +kernel
theorem dX5_longestRise_11 : decode cX5_longestRise 11 = .ok (.aload_n 2, 1) := by decide +kernel
theorem dX5_longestRise_12 : decode cX5_longestRise 12 = .ok (.iload 4, 2) := by decide +kernel
theorem dX5_longestRise_14 : decode cX5_longestRise 14 = .ok (.iconst 1, 1) := by decide +kernel
theorem dX5_longestRise_15 : decode cX5_longestRise 15 = .ok (.iastore, 1) := by decide +kernel
theorem dX5_longestRise_16 : decode cX5_longestRise 16 = .ok (.iconst 0, 1) := by decide +kernel
theorem dX5_longestRise_17 : decode cX5_longestRise 17 = .ok (.istore 5, 2) := by decide +kernel
theorem dX5_longestRise_19 : decode cX5_longestRise 19 = .ok (.iload 5, 2) := by decide +kernel
theorem dX5_longestRise_21 : decode cX5_longestRise 21 = .ok (.iload 4, 2) := by decide +kernel
theorem dX5_longestRise_23 : decode cX5_longestRise 23 = .ok (.if_icmp .ge 37, 3) := by decide +kernel
theorem dX5_longestRise_26 : decode cX5_longestRise 26 = .ok (.aload_n 0, 1) := by decide +kernel
theorem dX5_longestRise_27 : decode cX5_longestRise 27 = .ok (.iload 5, 2) := by decide +kernel
theorem dX5_longestRise_29 : decode cX5_longestRise 29 = .ok (.iaload, 1) := by decide +kernel
theorem dX5_longestRise_30 : decode cX5_longestRise 30 = .ok (.aload_n 0, 1) := by decide +kernel
theorem dX5_longestRise_31 : decode cX5_longestRise 31 = .ok (.iload 4, 2) := by decide +kernel
theorem dX5_longestRise_33 : decode cX5_longestRise 33 = .ok (.iaload, 1) := by decide +kernel
theorem dX5_longestRise_34 : decode cX5_longestRise 34 = .ok (.if_icmp .ge 20, 3) := by decide +kernel
theorem dX5_longestRise_37 : decode cX5_longestRise 37 = .ok (.aload_n 2, 1) := by decide +kernel
theorem dX5_longestRise_38 : decode cX5_longestRise 38 = .ok (.iload 4, 2) := by decide +kernel
theorem dX5_longestRise_40 : decode cX5_longestRise 40 = .ok (.aload_n 2, 1) := by decide +kernel
theorem dX5_longestRise_41 : decode cX5_longestRise 41 = .ok (.iload 4, 2) := by decide +kernel
theorem dX5_longestRise_43 : decode cX5_longestRise 43 = .ok (.iaload, 1) := by decide +kernel
theorem dX5_longestRise_44 : decode cX5_longestRise 44 = .ok (.aload_n 2, 1) := by decide +kernel
theorem dX5_longestRise_45 : decode cX5_longestRise 45 = .ok (.iload 5, 2) := by decide +kernel
theorem dX5_longestRise_47 : decode cX5_longestRise 47 = .ok (.iaload, 1) := by decide +kernel
theorem dX5_longestRise_48 : decode cX5_longestRise 48 = .ok (.iconst 1, 1) := by decide +kernel
theorem dX5_longestRise_49 : decode cX5_longestRise 49 = .ok (.iadd, 1) := by decide +kernel
theorem dX5_longestRise_50 : decode cX5_longestRise 50 = .ok (.invokestatic 30, 3) := by decide +kernel
theorem dX5_longestRise_53 : decode cX5_longestRise 53 = .ok (.iastore, 1) := by decide +kernel
theorem dX5_longestRise_54 : decode cX5_longestRise 54 = .ok (.iinc 5 1, 3) := by decide +kernel
theorem dX5_longestRise_57 : decode cX5_longestRise 57 = .ok (.goto (-38), 3) := by decide +kernel
theorem dX5_longestRise_60 : decode cX5_longestRise 60 = .ok (.iload_n 3, 1) := by decide +kernel
theorem dX5_longestRise_61 : decode cX5_longestRise 61 = .ok (.aload_n 2, 1) := by decide +kernel
theorem dX5_longestRise_62 : decode cX5_longestRise 62 = .ok (.iload 4, 2) := by decide +kernel
theorem dX5_longestRise_64 : decode cX5_longestRise 64 = .ok (.iaload, 1) := by decide +kernel
theorem dX5_longestRise_65 : decode cX5_longestRise 65 = .ok (.invokestatic 30, 3) := by decide +kernel
theorem dX5_longestRise_68 : decode cX5_longestRise 68 = .ok (.istore_n 3, 1) := by decide +kernel
theorem dX5_longestRise_69 : decode cX5_longestRise 69 = .ok (.iinc 4 1, 3) := by decide +kernel
theorem dX5_longestRise_72 : decode cX5_longestRise 72 = .ok (.goto (-67), 3) := by decide +kernel
theorem dX5_longestRise_75 : decode cX5_longestRise 75 = .ok (.iload_n 3, 1) := by decide +kernel
theorem dX5_longestRise_76 : decode cX5_longestRise 76 = .ok (.ireturn, 1) := by decide +kernel
theorem dX5_swapsBetween_0 : decode cX5_swapsBetween 0 = .ok (.aload_n 0, 1) := by decide +kernel
theorem dX5_swapsBetween_1 : decode cX5_swapsBetween 1 = .ok (.iconst 0, 1) := by decide +kernel
theorem dX5_swapsBetween_2 : decode cX5_swapsBetween 2 = .ok (.aload_n 3, 1) := by decide +kernel
theorem dX5_swapsBetween_3 : decode cX5_swapsBetween 3 = .ok (.iconst 0, 1) := by decide +kernel
theorem dX5_swapsBetween_4 : decode cX5_swapsBetween 4 = .ok (.bipush 7, 2) := by decide +kernel
theorem dX5_swapsBetween_6 : decode cX5_swapsBetween 6 = .ok (.invokestatic 34, 3) := by decide +kernel
theorem dX5_swapsBetween_9 : decode cX5_swapsBetween 9 = .ok (.iconst 0, 1) := by decide +kernel
theorem dX5_swapsBetween_10 : decode cX5_swapsBetween 10 = .ok (.istore 4, 2) := by decide +kernel
theorem dX5_swapsBetween_12 : decode cX5_swapsBetween 12 = .ok (.iconst 0, 1) := by decide +kernel
theorem dX5_swapsBetween_13 : decode cX5_swapsBetween 13 = .ok (.istore 5, 2) := by decide +kernel
theorem dX5_swapsBetween_15 : decode cX5_swapsBetween 15 = .ok (.iload 5, 2) := by decide +kernel
theorem dX5_swapsBetween_17 : decode cX5_swapsBetween 17 = .ok (.iload_n 2, 1) := by decide +kernel
theorem dX5_swapsBetween_18 : decode cX5_swapsBetween 18 = .ok (.if_icmp .ge 47, 3) := by decide +kernel
theorem dX5_swapsBetween_21 : decode cX5_swapsBetween 21 = .ok (.aload_n 3, 1) := by decide +kernel
theorem dX5_swapsBetween_22 : decode cX5_swapsBetween 22 = .ok (.iload 5, 2) := by decide +kernel
theorem dX5_swapsBetween_24 : decode cX5_swapsBetween 24 = .ok (.iaload, 1) := by decide +kernel
theorem dX5_swapsBetween_25 : decode cX5_swapsBetween 25 = .ok (.aload_n 1, 1) := by decide +kernel
theorem dX5_swapsBetween_26 : decode cX5_swapsBetween 26 = .ok (.iload 5, 2) := by decide +kernel
theorem dX5_swapsBetween_28 : decode cX5_swapsBetween 28 = .ok (.iaload, 1) := by decide +kernel
theorem dX5_swapsBetween_29 : decode cX5_swapsBetween 29 = .ok (.if_icmp .eq 30, 3) := by decide +kernel
theorem dX5_swapsBetween_32 : decode cX5_swapsBetween 32 = .ok (.aload_n 3, 1) := by decide +kernel
theorem dX5_swapsBetween_33 : decode cX5_swapsBetween 33 = .ok (.iload_n 2, 1) := by decide +kernel
theorem dX5_swapsBetween_34 : decode cX5_swapsBetween 34 = .ok (.aload_n 1, 1) := by decide +kernel
theorem dX5_swapsBetween_35 : decode cX5_swapsBetween 35 = .ok (.iload 5, 2) := by decide +kernel
theorem dX5_swapsBetween_37 : decode cX5_swapsBetween 37 = .ok (.iaload, 1) := by decide +kernel
theorem dX5_swapsBetween_38 : decode cX5_swapsBetween 38 = .ok (.invokestatic 21, 3) := by decide +kernel
theorem dX5_swapsBetween_41 : decode cX5_swapsBetween 41 = .ok (.istore 6, 2) := by decide +kernel
theorem dX5_swapsBetween_43 : decode cX5_swapsBetween 43 = .ok (.iload 6, 2) := by decide +kernel
theorem dX5_swapsBetween_45 : decode cX5_swapsBetween 45 = .ok (.ifCond .lt 11, 3) := by decide +kernel
theorem dX5_swapsBetween_48 : decode cX5_swapsBetween 48 = .ok (.aload_n 3, 1) := by decide +kernel
theorem dX5_swapsBetween_49 : decode cX5_swapsBetween 49 = .ok (.iload 5, 2) := by decide +kernel
theorem dX5_swapsBetween_51 : decode cX5_swapsBetween 51 = .ok (.iload 6, 2) := by decide +kernel
theorem dX5_swapsBetween_53 : decode cX5_swapsBetween 53 = .ok (.invokestatic 40, 3) := by decide +kernel
theorem dX5_swapsBetween_56 : decode cX5_swapsBetween 56 = .ok (.iinc 4 1, 3) := by decide +kernel
theorem dX5_swapsBetween_59 : decode cX5_swapsBetween 59 = .ok (.iinc 5 1, 3) := by decide +kernel
theorem dX5_swapsBetween_62 : decode cX5_swapsBetween 62 = .ok (.goto (-47), 3) := by decide +kernel
theorem dX5_swapsBetween_65 : decode cX5_swapsBetween 65 = .ok (.iload 4, 2) := by decide +kernel
theorem dX5_swapsBetween_67 : decode cX5_swapsBetween 67 = .ok (.ireturn, 1) := by decide +kernel
theorem dX6_init_0 : decode cX6_init 0 = .ok (.aload_n 0, 1) := by decide +kernel
theorem dX6_init_1 : decode cX6_init 1 = .ok (.invokespecial 3, 3) := by decide +kernel
theorem dX6_init_4 : decode cX6_init 4 = .ok (.aload_n 0, 1) := by decide +kernel
theorem dX6_init_5 : decode cX6_init 5 = .ok (.bipush 7, 2) := by decide +kernel
theorem dX6_init_7 : decode cX6_init 7 = .ok (.newarray .int, 2) := by decide +kernel
theorem dX6_init_9 : decode cX6_init 9 = .ok (.putfield 9, 3) := by decide +kernel
theorem dX6_init_12 : decode cX6_init 12 = .ok (.aload_n 0, 1) := by decide +kernel
theorem dX6_init_13 : decode cX6_init 13 = .ok (.iconst 0, 1) := by decide +kernel
theorem dX6_init_14 : decode cX6_init 14 = .ok (.putfield 15, 3) := by decide +kernel
theorem dX6_init_17 : decode cX6_init 17 = .ok (.aload_n 0, 1) := by decide +kernel
theorem dX6_init_18 : decode cX6_init 18 = .ok (.iconst 0, 1) := by decide +kernel
theorem dX6_init_19 : decode cX6_init 19 = .ok (.putfield 19, 3) := by decide +kernel
theorem dX6_init_22 : decode cX6_init 22 = .ok (.aload_n 0, 1) := by decide +kernel
theorem dX6_init_23 : decode cX6_init 23 = .ok (.iconst 0, 1) := by decide +kernel
theorem dX6_init_24 : decode cX6_init 24 = .ok (.putfield 22, 3) := by decide +kernel
theorem dX6_init_27 : decode cX6_init 27 = .ok (.aload_n 0, 1) := by decide +kernel
theorem dX6_init_28 : decode cX6_init 28 = .ok (.iconst 1, 1) := by decide +kernel
theorem dX6_init_29 : decode cX6_init 29 = .ok (.putfield 25, 3) := by decide +kernel
theorem dX6_init_32 : decode cX6_init 32 = .ok (.return_, 1) := by decide +kernel
theorem dX6_take_0 : decode cX6_take 0 = .ok (.aload_n 1, 1) := by decide +kernel
theorem dX6_take_1 : decode cX6_take 1 = .ok (.aload_n 2, 1) := by decide +kernel
theorem dX6_take_2 : decode cX6_take 2 = .ok (.iload_n 3, 1) := by decide +kernel
theorem dX6_take_3 : decode cX6_take 3 = .ok (.invokestatic 29, 3) := by decide +kernel
theorem dX6_take_6 : decode cX6_take 6 = .ok (.ifCond .ne 5, 3) := by decide +kernel
theorem dX6_take_9 : decode cX6_take 9 = .ok (.iconst 0, 1) := by decide +kernel
theorem dX6_take_10 : decode cX6_take 10 = .ok (.ireturn, 1) := by decide +kernel
theorem dX6_take_11 : decode cX6_take 11 = .ok (.aload_n 0, 1) := by decide +kernel
theorem dX6_take_12 : decode cX6_take 12 = .ok (.aload_n 1, 1) := by decide +kernel
theorem dX6_take_13 : decode cX6_take 13 = .ok (.getfield 33, 3) := by decide +kernel
theorem dX6_take_16 : decode cX6_take 16 = .ok (.putfield 15, 3) := by decide +kernel
theorem dX6_take_19 : decode cX6_take 19 = .ok (.aload_n 0, 1) := by decide +kernel
theorem dX6_take_20 : decode cX6_take 20 = .ok (.iconst 0, 1) := by decide +kernel
theorem dX6_take_21 : decode cX6_take 21 = .ok (.putfield 19, 3) := by decide +kernel
theorem dX6_take_24 : decode cX6_take 24 = .ok (.aload_n 0, 1) := by decide +kernel
theorem dX6_take_25 : decode cX6_take 25 = .ok (.aload_n 0, 1) := by decide +kernel
theorem dX6_take_26 : decode cX6_take 26 = .ok (.getfield 15, 3) := by decide +kernel
theorem dX6_take_29 : decode cX6_take 29 = .ok (.putfield 22, 3) := by decide +kernel
theorem dX6_take_32 : decode cX6_take 32 = .ok (.aload_n 0, 1) := by decide +kernel
theorem dX6_take_33 : decode cX6_take 33 = .ok (.iconst 1, 1) := by decide +kernel
theorem dX6_take_34 : decode cX6_take 34 = .ok (.putfield 25, 3) := by decide +kernel
theorem dX6_take_37 : decode cX6_take 37 = .ok (.aload_n 0, 1) := by decide +kernel
theorem dX6_take_38 : decode cX6_take 38 = .ok (.getfield 9, 3) := by decide +kernel
theorem dX6_take_41 : decode cX6_take 41 = .ok (.iconst (-1), 1) := by decide +kernel
theorem dX6_take_42 : decode cX6_take 42 = .ok (.invokestatic 36, 3) := by decide +kernel
theorem dX6_take_45 : decode cX6_take 45 = .ok (.aload_n 2, 1) := by decide +kernel
theorem dX6_take_46 : decode cX6_take 46 = .ok (.getfield 42, 3) := by decide +kernel
theorem dX6_take_49 : decode cX6_take 49 = .ok (.iload_n 3, 1) := by decide +kernel
theorem dX6_take_50 : decode cX6_take 50 = .ok (.aaload, 1) := by decide +kernel
theorem dX6_take_51 : decode cX6_take 51 = .ok (.astore 5, 2) := by decide +kernel
theorem dX6_take_53 : decode cX6_take 53 = .ok (.iconst 0, 1) := by decide +kernel
theorem dX6_take_54 : decode cX6_take 54 = .ok (.istore 6, 2) := by decide +kernel
theorem dX6_take_56 : decode cX6_take 56 = .ok (.iload 6, 2) := by decide +kernel
theorem dX6_take_58 : decode cX6_take 58 = .ok (.aload_n 2, 1) := by decide +kernel
theorem dX6_take_59 : decode cX6_take 59 = .ok (.getfield 48, 3) := by decide +kernel
theorem dX6_take_62 : decode cX6_take 62 = .ok (.iload_n 3, 1) := by decide +kernel
theorem dX6_take_63 : decode cX6_take 63 = .ok (.iaload, 1) := by decide +kernel
theorem dX6_take_64 : decode cX6_take 64 = .ok (.if_icmp .ge 52, 3) := by decide +kernel
theorem dX6_take_67 : decode cX6_take 67 = .ok (.aload 4, 2) := by decide +kernel
theorem dX6_take_69 : decode cX6_take 69 = .ok (.aload_n 1, 1) := by decide +kernel
theorem dX6_take_70 : decode cX6_take 70 = .ok (.invokevirtual 51, 3) := by decide +kernel
theorem dX6_take_73 : decode cX6_take 73 = .ok (.aload 4, 2) := by decide +kernel
theorem dX6_take_75 : decode cX6_take 75 = .ok (.aload 5, 2) := by decide +kernel
theorem dX6_take_77 : decode cX6_take 77 = .ok (.iload 6, 2) := by decide +kernel
theorem dX6_take_79 : decode cX6_take 79 = .ok (.iconst 1, 1) := by decide +kernel
theorem dX6_take_80 : decode cX6_take 80 = .ok (.iadd, 1) := by decide +kernel
theorem dX6_take_81 : decode cX6_take 81 = .ok (.laload, 1) := by decide +kernel
theorem dX6_take_82 : decode cX6_take 82 = .ok (.l2i, 1) := by decide +kernel
theorem dX6_take_83 : decode cX6_take 83 = .ok (.invokevirtual 57, 3) := by decide +kernel
theorem dX6_take_86 : decode cX6_take 86 = .ok (.aload_n 0, 1) := by decide +kernel
theorem dX6_take_87 : decode cX6_take 87 = .ok (.aload 4, 2) := by decide +kernel
theorem dX6_take_89 : decode cX6_take 89 = .ok (.getfield 61, 3) := by decide +kernel
theorem dX6_take_92 : decode cX6_take 92 = .ok (.aload 5, 2) := by decide +kernel
theorem dX6_take_94 : decode cX6_take 94 = .ok (.iload 6, 2) := by decide +kernel
theorem dX6_take_96 : decode cX6_take 96 = .ok (.laload, 1) := by decide +kernel
theorem dX6_take_97 : decode cX6_take 97 = .ok (.l2i, 1) := by decide +kernel
theorem dX6_take_98 : decode cX6_take 98 = .ok (.iaload, 1) := by decide +kernel
theorem dX6_take_99 : decode cX6_take 99 = .ok (.aload 5, 2) := by decide +kernel
theorem dX6_take_101 : decode cX6_take 101 = .ok (.iload 6, 2) := by decide +kernel
theorem dX6_take_103 : decode cX6_take 103 = .ok (.iconst 2, 1) := by decide +kernel
theorem dX6_take_104 : decode cX6_take 104 = .ok (.iadd, 1) := by decide +kernel
theorem dX6_take_105 : decode cX6_take 105 = .ok (.laload, 1) := by decide +kernel
theorem dX6_take_106 : decode cX6_take 106 = .ok (.l2i, 1) := by decide +kernel
theorem dX6_take_107 : decode cX6_take 107 = .ok (.invokevirtual 64, 3) := by decide +kernel
theorem dX6_take_110 : decode cX6_take 110 = .ok (.iinc 6 3, 3) := by decide +kernel
theorem dX6_take_113 : decode cX6_take 113 = .ok (.goto (-57), 3) := by decide +kernel
theorem dX6_take_116 : decode cX6_take 116 = .ok (.iconst 1, 1) := by decide +kernel
theorem dX6_take_117 : decode cX6_take 117 = .ok (.ireturn, 1) := by decide +kernel
theorem dX6_areSuch_0 : decode cX6_areSuch 0 = .ok (.aload_n 1, 1) := by decide +kernel
theorem dX6_areSuch_1 : decode cX6_areSuch 1 = .ok (.getfield 48, 3) := by decide +kernel
theorem dX6_areSuch_4 : decode cX6_areSuch 4 = .ok (.iload_n 2, 1) := by decide +kernel
theorem dX6_areSuch_5 : decode cX6_areSuch 5 = .ok (.iaload, 1) := by decide +kernel
theorem dX6_areSuch_6 : decode cX6_areSuch 6 = .ok (.istore_n 3, 1) := by decide +kernel
theorem dX6_areSuch_7 : decode cX6_areSuch 7 = .ok (.iload_n 3, 1) := by decide +kernel
theorem dX6_areSuch_8 : decode cX6_areSuch 8 = .ok (.iconst 3, 1) := by decide +kernel
theorem dX6_areSuch_9 : decode cX6_areSuch 9 = .ok (.irem, 1) := by decide +kernel
theorem dX6_areSuch_10 : decode cX6_areSuch 10 = .ok (.ifCond .eq 5, 3) := by decide +kernel
theorem dX6_areSuch_13 : decode cX6_areSuch 13 = .ok (.iconst 0, 1) := by decide +kernel
theorem dX6_areSuch_14 : decode cX6_areSuch 14 = .ok (.ireturn, 1) := by decide +kernel
theorem dX6_areSuch_15 : decode cX6_areSuch 15 = .ok (.aload_n 1, 1) := by decide +kernel
theorem dX6_areSuch_16 : decode cX6_areSuch 16 = .ok (.getfield 42, 3) := by decide +kernel
theorem dX6_areSuch_19 : decode cX6_areSuch 19 = .ok (.iload_n 2, 1) := by decide +kernel
theorem dX6_areSuch_20 : decode cX6_areSuch 20 = .ok (.aaload, 1) := by decide +kernel
theorem dX6_areSuch_21 : decode cX6_areSuch 21 = .ok (.astore 4, 2) := by decide +kernel
theorem dX6_areSuch_23 : decode cX6_areSuch 23 = .ok (.iconst 0, 1) := by decide +kernel
theorem dX6_areSuch_24 : decode cX6_areSuch 24 = .ok (.istore 5, 2) := by decide +kernel
theorem dX6_areSuch_26 : decode cX6_areSuch 26 = .ok (.iload 5, 2) := by decide +kernel
theorem dX6_areSuch_28 : decode cX6_areSuch 28 = .ok (.iload_n 3, 1) := by decide +kernel
theorem dX6_areSuch_29 : decode cX6_areSuch 29 = .ok (.if_icmp .ge 125, 3) := by decide +kernel
theorem dX6_areSuch_32 : decode cX6_areSuch 32 = .ok (.aload 4, 2) := by decide +kernel
theorem dX6_areSuch_34 : decode cX6_areSuch 34 = .ok (.iload 5, 2) := by decide +kernel
theorem dX6_areSuch_36 : decode cX6_areSuch 36 = .ok (.laload, 1) := by decide +kernel
theorem dX6_areSuch_37 : decode cX6_areSuch 37 = .ok (.lconst 0, 1) := by decide +kernel
theorem dX6_areSuch_38 : decode cX6_areSuch 38 = .ok (.lcmp, 1) := by decide +kernel
theorem dX6_areSuch_39 : decode cX6_areSuch 39 = .ok (.ifCond .lt 21, 3) := by decide +kernel
theorem dX6_areSuch_42 : decode cX6_areSuch 42 = .ok (.aload 4, 2) := by decide +kernel
theorem dX6_areSuch_44 : decode cX6_areSuch 44 = .ok (.iload 5, 2) := by decide +kernel
theorem dX6_areSuch_46 : decode cX6_areSuch 46 = .ok (.laload, 1) := by decide +kernel
theorem dX6_areSuch_47 : decode cX6_areSuch 47 = .ok (.aload_n 0, 1) := by decide +kernel
theorem dX6_areSuch_48 : decode cX6_areSuch 48 = .ok (.getfield 33, 3) := by decide +kernel

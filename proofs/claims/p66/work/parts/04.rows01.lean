theorem dX6_areSuch_51 : decode cX6_areSuch 51 = .ok (.i2l, 1) := by decide +kernel
theorem dX6_areSuch_52 : decode cX6_areSuch 52 = .ok (.lcmp, 1) := by decide +kernel
theorem dX6_areSuch_53 : decode cX6_areSuch 53 = .ok (.ifCond .ge 7, 3) := by decide +kernel
theorem dX6_areSuch_56 : decode cX6_areSuch 56 = .ok (.iconst 1, 1) := by decide +kernel
theorem dX6_areSuch_57 : decode cX6_areSuch 57 = .ok (.goto 4, 3) := by decide +kernel
theorem dX6_areSuch_60 : decode cX6_areSuch 60 = .ok (.iconst 0, 1) := by decide +kernel
theorem dX6_areSuch_61 : decode cX6_areSuch 61 = .ok (.istore 6, 2) := by decide +kernel
theorem dX6_areSuch_63 : decode cX6_areSuch 63 = .ok (.aload 4, 2) := by decide +kernel
theorem dX6_areSuch_65 : decode cX6_areSuch 65 = .ok (.iload 5, 2) := by decide +kernel
theorem dX6_areSuch_67 : decode cX6_areSuch 67 = .ok (.iconst 1, 1) := by decide +kernel
theorem dX6_areSuch_68 : decode cX6_areSuch 68 = .ok (.iadd, 1) := by decide +kernel
theorem dX6_areSuch_69 : decode cX6_areSuch 69 = .ok (.laload, 1) := by decide +kernel
theorem dX6_areSuch_70 : decode cX6_areSuch 70 = .ok (.lconst 0, 1) := by decide +kernel
theorem dX6_areSuch_71 : decode cX6_areSuch 71 = .ok (.lcmp, 1) := by decide +kernel
theorem dX6_areSuch_72 : decode cX6_areSuch 72 = .ok (.ifCond .lt 21, 3) := by decide +kernel
theorem dX6_areSuch_75 : decode cX6_areSuch 75 = .ok (.aload 4, 2) := by decide +kernel
theorem dX6_areSuch_77 : decode cX6_areSuch 77 = .ok (.iload 5, 2) := by decide +kernel
theorem dX6_areSuch_79 : decode cX6_areSuch 79 = .ok (.iconst 1, 1) := by decide +kernel
theorem dX6_areSuch_80 : decode cX6_areSuch 80 = .ok (.iadd, 1) := by decide +kernel
theorem dX6_areSuch_81 : decode cX6_areSuch 81 = .ok (.laload, 1) := by decide +kernel
theorem dX6_areSuch_82 : decode cX6_areSuch 82 = .ok (.ldc2_w 68, 3) := by decide +kernel
theorem dX6_areSuch_85 : decode cX6_areSuch 85 = .ok (.lcmp, 1) := by decide +kernel
theorem dX6_areSuch_86 : decode cX6_areSuch 86 = .ok (.ifCond .gt 7, 3) := by decide +kernel
theorem dX6_areSuch_89 : decode cX6_areSuch 89 = .ok (.iconst 1, 1) := by decide +kernel
theorem dX6_areSuch_90 : decode cX6_areSuch 90 = .ok (.goto 4, 3) := by decide +kernel
theorem dX6_areSuch_93 : decode cX6_areSuch 93 = .ok (.iconst 0, 1) := by decide +kernel
theorem dX6_areSuch_94 : decode cX6_areSuch 94 = .ok (.istore 7, 2) := by decide +kernel
theorem dX6_areSuch_96 : decode cX6_areSuch 96 = .ok (.aload 4, 2) := by decide +kernel
theorem dX6_areSuch_98 : decode cX6_areSuch 98 = .ok (.iload 5, 2) := by decide +kernel
theorem dX6_areSuch_100 : decode cX6_areSuch 100 = .ok (.iconst 2, 1) := by decide +kernel
theorem dX6_areSuch_101 : decode cX6_areSuch 101 = .ok (.iadd, 1) := by decide +kernel
theorem dX6_areSuch_102 : decode cX6_areSuch 102 = .ok (.laload, 1) := by decide +kernel
theorem dX6_areSuch_103 : decode cX6_areSuch 103 = .ok (.lconst 0, 1) := by decide +kernel
theorem dX6_areSuch_104 : decode cX6_areSuch 104 = .ok (.lcmp, 1) := by decide +kernel
theorem dX6_areSuch_105 : decode cX6_areSuch 105 = .ok (.ifCond .lt 23, 3) := by decide +kernel
theorem dX6_areSuch_108 : decode cX6_areSuch 108 = .ok (.aload 4, 2) := by decide +kernel
theorem dX6_areSuch_110 : decode cX6_areSuch 110 = .ok (.iload 5, 2) := by decide +kernel
theorem dX6_areSuch_112 : decode cX6_areSuch 112 = .ok (.iconst 2, 1) := by decide +kernel
theorem dX6_areSuch_113 : decode cX6_areSuch 113 = .ok (.iadd, 1) := by decide +kernel
theorem dX6_areSuch_114 : decode cX6_areSuch 114 = .ok (.laload, 1) := by decide +kernel
theorem dX6_areSuch_115 : decode cX6_areSuch 115 = .ok (.aload_n 0, 1) := by decide +kernel
theorem dX6_areSuch_116 : decode cX6_areSuch 116 = .ok (.getfield 33, 3) := by decide +kernel
theorem dX6_areSuch_119 : decode cX6_areSuch 119 = .ok (.i2l, 1) := by decide +kernel
theorem dX6_areSuch_120 : decode cX6_areSuch 120 = .ok (.lcmp, 1) := by decide +kernel
theorem dX6_areSuch_121 : decode cX6_areSuch 121 = .ok (.ifCond .ge 7, 3) := by decide +kernel
theorem dX6_areSuch_124 : decode cX6_areSuch 124 = .ok (.iconst 1, 1) := by decide +kernel
theorem dX6_areSuch_125 : decode cX6_areSuch 125 = .ok (.goto 4, 3) := by decide +kernel
theorem dX6_areSuch_128 : decode cX6_areSuch 128 = .ok (.iconst 0, 1) := by decide +kernel
theorem dX6_areSuch_129 : decode cX6_areSuch 129 = .ok (.istore 8, 2) := by decide +kernel
theorem dX6_areSuch_131 : decode cX6_areSuch 131 = .ok (.iload 6, 2) := by decide +kernel
theorem dX6_areSuch_133 : decode cX6_areSuch 133 = .ok (.ifCond .eq 13, 3) := by decide +kernel
theorem dX6_areSuch_136 : decode cX6_areSuch 136 = .ok (.iload 7, 2) := by decide +kernel
theorem dX6_areSuch_138 : decode cX6_areSuch 138 = .ok (.ifCond .eq 8, 3) := by decide +kernel
theorem dX6_areSuch_141 : decode cX6_areSuch 141 = .ok (.iload 8, 2) := by decide +kernel
theorem dX6_areSuch_143 : decode cX6_areSuch 143 = .ok (.ifCond .ne 5, 3) := by decide +kernel
theorem dX6_areSuch_146 : decode cX6_areSuch 146 = .ok (.iconst 0, 1) := by decide +kernel
theorem dX6_areSuch_147 : decode cX6_areSuch 147 = .ok (.ireturn, 1) := by decide +kernel
theorem dX6_areSuch_148 : decode cX6_areSuch 148 = .ok (.iinc 5 3, 3) := by decide +kernel
theorem dX6_areSuch_151 : decode cX6_areSuch 151 = .ok (.goto (-125), 3) := by decide +kernel
theorem dX6_areSuch_154 : decode cX6_areSuch 154 = .ok (.iconst 1, 1) := by decide +kernel
theorem dX6_areSuch_155 : decode cX6_areSuch 155 = .ok (.ireturn, 1) := by decide +kernel
theorem dX6_learn_0 : decode cX6_learn 0 = .ok (.aload_n 0, 1) := by decide +kernel
theorem dX6_learn_1 : decode cX6_learn 1 = .ok (.getfield 9, 3) := by decide +kernel
theorem dX6_learn_4 : decode cX6_learn 4 = .ok (.iload_n 1, 1) := by decide +kernel
theorem dX6_learn_5 : decode cX6_learn 5 = .ok (.iaload, 1) := by decide +kernel
theorem dX6_learn_6 : decode cX6_learn 6 = .ok (.iload_n 2, 1) := by decide +kernel
theorem dX6_learn_7 : decode cX6_learn 7 = .ok (.if_icmp .ne 4, 3) := by decide +kernel
theorem dX6_learn_10 : decode cX6_learn 10 = .ok (.return_, 1) := by decide +kernel
theorem dX6_learn_11 : decode cX6_learn 11 = .ok (.aload_n 0, 1) := by decide +kernel
theorem dX6_learn_12 : decode cX6_learn 12 = .ok (.getfield 9, 3) := by decide +kernel
theorem dX6_learn_15 : decode cX6_learn 15 = .ok (.iload_n 1, 1) := by decide +kernel
theorem dX6_learn_16 : decode cX6_learn 16 = .ok (.iaload, 1) := by decide +kernel
theorem dX6_learn_17 : decode cX6_learn 17 = .ok (.iconst (-1), 1) := by decide +kernel
theorem dX6_learn_18 : decode cX6_learn 18 = .ok (.if_icmp .ne 14, 3) := by decide +kernel
theorem dX6_learn_21 : decode cX6_learn 21 = .ok (.aload_n 0, 1) := by decide +kernel
theorem dX6_learn_22 : decode cX6_learn 22 = .ok (.getfield 19, 3) := by decide +kernel
theorem dX6_learn_25 : decode cX6_learn 25 = .ok (.iload_n 2, 1) := by decide +kernel
theorem dX6_learn_26 : decode cX6_learn 26 = .ok (.ishr, 1) := by decide +kernel
theorem dX6_learn_27 : decode cX6_learn 27 = .ok (.iconst 1, 1) := by decide +kernel
theorem dX6_learn_28 : decode cX6_learn 28 = .ok (.iand, 1) := by decide +kernel
theorem dX6_learn_29 : decode cX6_learn 29 = .ok (.ifCond .eq 9, 3) := by decide +kernel
theorem dX6_learn_32 : decode cX6_learn 32 = .ok (.aload_n 0, 1) := by decide +kernel
theorem dX6_learn_33 : decode cX6_learn 33 = .ok (.iconst 0, 1) := by decide +kernel
theorem dX6_learn_34 : decode cX6_learn 34 = .ok (.putfield 25, 3) := by decide +kernel
theorem dX6_learn_37 : decode cX6_learn 37 = .ok (.return_, 1) := by decide +kernel
theorem dX6_learn_38 : decode cX6_learn 38 = .ok (.aload_n 0, 1) := by decide +kernel
theorem dX6_learn_39 : decode cX6_learn 39 = .ok (.getfield 9, 3) := by decide +kernel
theorem dX6_learn_42 : decode cX6_learn 42 = .ok (.iload_n 1, 1) := by decide +kernel
theorem dX6_learn_43 : decode cX6_learn 43 = .ok (.iload_n 2, 1) := by decide +kernel
theorem dX6_learn_44 : decode cX6_learn 44 = .ok (.iastore, 1) := by decide +kernel
theorem dX6_learn_45 : decode cX6_learn 45 = .ok (.aload_n 0, 1) := by decide +kernel
theorem dX6_learn_46 : decode cX6_learn 46 = .ok (.dup, 1) := by decide +kernel
theorem dX6_learn_47 : decode cX6_learn 47 = .ok (.getfield 19, 3) := by decide +kernel
theorem dX6_learn_50 : decode cX6_learn 50 = .ok (.iconst 1, 1) := by decide +kernel
theorem dX6_learn_51 : decode cX6_learn 51 = .ok (.iload_n 2, 1) := by decide +kernel
theorem dX6_learn_52 : decode cX6_learn 52 = .ok (.ishl, 1) := by decide +kernel
theorem dX6_learn_53 : decode cX6_learn 53 = .ok (.ior, 1) := by decide +kernel
theorem dX6_learn_54 : decode cX6_learn 54 = .ok (.putfield 19, 3) := by decide +kernel
theorem dX6_learn_57 : decode cX6_learn 57 = .ok (.aload_n 0, 1) := by decide +kernel
theorem dX6_learn_58 : decode cX6_learn 58 = .ok (.dup, 1) := by decide +kernel
theorem dX6_learn_59 : decode cX6_learn 59 = .ok (.getfield 22, 3) := by decide +kernel
theorem dX6_learn_62 : decode cX6_learn 62 = .ok (.iconst 1, 1) := by decide +kernel
theorem dX6_learn_63 : decode cX6_learn 63 = .ok (.isub, 1) := by decide +kernel
theorem dX6_learn_64 : decode cX6_learn 64 = .ok (.putfield 22, 3) := by decide +kernel
theorem dX6_learn_67 : decode cX6_learn 67 = .ok (.return_, 1) := by decide +kernel
theorem dX6_rowsLeft_0 : decode cX6_rowsLeft 0 = .ok (.aload_n 0, 1) := by decide +kernel
theorem dX6_rowsLeft_1 : decode cX6_rowsLeft 1 = .ok (.getfield 25, 3) := by decide +kernel
theorem dX6_rowsLeft_4 : decode cX6_rowsLeft 4 = .ok (.ifCond .eq 14, 3) := by decide +kernel
theorem dX6_rowsLeft_7 : decode cX6_rowsLeft 7 = .ok (.getstatic 70, 3) := by decide +kernel
theorem dX6_rowsLeft_10 : decode cX6_rowsLeft 10 = .ok (.aload_n 0, 1) := by decide +kernel
theorem dX6_rowsLeft_11 : decode cX6_rowsLeft 11 = .ok (.getfield 22, 3) := by decide +kernel
theorem dX6_rowsLeft_14 : decode cX6_rowsLeft 14 = .ok (.iaload, 1) := by decide +kernel
theorem dX6_rowsLeft_15 : decode cX6_rowsLeft 15 = .ok (.goto 4, 3) := by decide +kernel
theorem dX6_rowsLeft_18 : decode cX6_rowsLeft 18 = .ok (.iconst 0, 1) := by decide +kernel
theorem dX6_rowsLeft_19 : decode cX6_rowsLeft 19 = .ok (.ireturn, 1) := by decide +kernel
theorem dX6_leastRowHead_0 : decode cX6_leastRowHead 0 = .ok (.aload_n 0, 1) := by decide +kernel
theorem dX6_leastRowHead_1 : decode cX6_leastRowHead 1 = .ok (.getfield 25, 3) := by decide +kernel
theorem dX6_leastRowHead_4 : decode cX6_leastRowHead 4 = .ok (.ifCond .ne 5, 3) := by decide +kernel
theorem dX6_leastRowHead_7 : decode cX6_leastRowHead 7 = .ok (.iconst (-1), 1) := by decide +kernel
theorem dX6_leastRowHead_8 : decode cX6_leastRowHead 8 = .ok (.ireturn, 1) := by decide +kernel
theorem dX6_leastRowHead_9 : decode cX6_leastRowHead 9 = .ok (.aload_n 0, 1) := by decide +kernel
theorem dX6_leastRowHead_10 : decode cX6_leastRowHead 10 = .ok (.getfield 9, 3) := by decide +kernel
theorem dX6_leastRowHead_13 : decode cX6_leastRowHead 13 = .ok (.iload_n 1, 1) := by decide +kernel
theorem dX6_leastRowHead_14 : decode cX6_leastRowHead 14 = .ok (.iaload, 1) := by decide +kernel
theorem dX6_leastRowHead_15 : decode cX6_leastRowHead 15 = .ok (.iconst (-1), 1) := by decide +kernel
theorem dX6_leastRowHead_16 : decode cX6_leastRowHead 16 = .ok (.if_icmp .eq 10, 3) := by decide +kernel
theorem dX6_leastRowHead_19 : decode cX6_leastRowHead 19 = .ok (.aload_n 0, 1) := by decide +kernel
theorem dX6_leastRowHead_20 : decode cX6_leastRowHead 20 = .ok (.getfield 9, 3) := by decide +kernel
theorem dX6_leastRowHead_23 : decode cX6_leastRowHead 23 = .ok (.iload_n 1, 1) := by decide +kernel
theorem dX6_leastRowHead_24 : decode cX6_leastRowHead 24 = .ok (.iaload, 1) := by decide +kernel
theorem dX6_leastRowHead_25 : decode cX6_leastRowHead 25 = .ok (.ireturn, 1) := by decide +kernel
theorem dX6_leastRowHead_26 : decode cX6_leastRowHead 26 = .ok (.iconst 1, 1) := by decide +kernel
theorem dX6_leastRowHead_27 : decode cX6_leastRowHead 27 = .ok (.aload_n 0, 1) := by decide +kernel
theorem dX6_leastRowHead_28 : decode cX6_leastRowHead 28 = .ok (.getfield 15, 3) := by decide +kernel
theorem dX6_leastRowHead_31 : decode cX6_leastRowHead 31 = .ok (.ishl, 1) := by decide +kernel
theorem dX6_leastRowHead_32 : decode cX6_leastRowHead 32 = .ok (.iconst 1, 1) := by decide +kernel
theorem dX6_leastRowHead_33 : decode cX6_leastRowHead 33 = .ok (.isub, 1) := by decide +kernel
theorem dX6_leastRowHead_34 : decode cX6_leastRowHead 34 = .ok (.aload_n 0, 1) := by decide +kernel
theorem dX6_leastRowHead_35 : decode cX6_leastRowHead 35 = .ok (.getfield 19, 3) := by decide +kernel
theorem dX6_leastRowHead_38 : decode cX6_leastRowHead 38 = .ok (.iconst (-1), 1) := by decide +kernel
theorem dX6_leastRowHead_39 : decode cX6_leastRowHead 39 = .ok (.ixor, 1) := by decide +kernel
theorem dX6_leastRowHead_40 : decode cX6_leastRowHead 40 = .ok (.iand, 1) := by decide +kernel
theorem dX6_leastRowHead_41 : decode cX6_leastRowHead 41 = .ok (.istore_n 2, 1) := by decide +kernel
theorem dX6_leastRowHead_42 : decode cX6_leastRowHead 42 = .ok (.iconst 0, 1) := by decide +kernel
theorem dX6_leastRowHead_43 : decode cX6_leastRowHead 43 = .ok (.istore_n 3, 1) := by decide +kernel
theorem dX6_leastRowHead_44 : decode cX6_leastRowHead 44 = .ok (.iload_n 3, 1) := by decide +kernel
theorem dX6_leastRowHead_45 : decode cX6_leastRowHead 45 = .ok (.iload_n 1, 1) := by decide +kernel
theorem dX6_leastRowHead_46 : decode cX6_leastRowHead 46 = .ok (.if_icmp .ge 25, 3) := by decide +kernel
theorem dX6_leastRowHead_49 : decode cX6_leastRowHead 49 = .ok (.aload_n 0, 1) := by decide +kernel
theorem dX6_leastRowHead_50 : decode cX6_leastRowHead 50 = .ok (.getfield 9, 3) := by decide +kernel
theorem dX6_leastRowHead_53 : decode cX6_leastRowHead 53 = .ok (.iload_n 3, 1) := by decide +kernel
theorem dX6_leastRowHead_54 : decode cX6_leastRowHead 54 = .ok (.iaload, 1) := by decide +kernel
theorem dX6_leastRowHead_55 : decode cX6_leastRowHead 55 = .ok (.iconst (-1), 1) := by decide +kernel
theorem dX6_leastRowHead_56 : decode cX6_leastRowHead 56 = .ok (.if_icmp .ne 9, 3) := by decide +kernel
theorem dX6_leastRowHead_59 : decode cX6_leastRowHead 59 = .ok (.iload_n 2, 1) := by decide +kernel
theorem dX6_leastRowHead_60 : decode cX6_leastRowHead 60 = .ok (.iload_n 2, 1) := by decide +kernel
theorem dX6_leastRowHead_61 : decode cX6_leastRowHead 61 = .ok (.iconst 1, 1) := by decide +kernel
theorem dX6_leastRowHead_62 : decode cX6_leastRowHead 62 = .ok (.isub, 1) := by decide +kernel
theorem dX6_leastRowHead_63 : decode cX6_leastRowHead 63 = .ok (.iand, 1) := by decide +kernel
theorem dX6_leastRowHead_64 : decode cX6_leastRowHead 64 = .ok (.istore_n 2, 1) := by decide +kernel
theorem dX6_leastRowHead_65 : decode cX6_leastRowHead 65 = .ok (.iinc 3 1, 3) := by decide +kernel
theorem dX6_leastRowHead_68 : decode cX6_leastRowHead 68 = .ok (.goto (-24), 3) := by decide +kernel
theorem dX6_leastRowHead_71 : decode cX6_leastRowHead 71 = .ok (.iload_n 2, 1) := by decide +kernel
theorem dX6_leastRowHead_72 : decode cX6_leastRowHead 72 = .ok (.iload_n 2, 1) := by decide +kernel
theorem dX6_leastRowHead_73 : decode cX6_leastRowHead 73 = .ok (.ineg, 1) := by decide +kernel
theorem dX6_leastRowHead_74 : decode cX6_leastRowHead 74 = .ok (.iand, 1) := by decide +kernel
theorem dX6_leastRowHead_75 : decode cX6_leastRowHead 75 = .ok (.iconst 1, 1) := by decide +kernel
theorem dX6_leastRowHead_76 : decode cX6_leastRowHead 76 = .ok (.isub, 1) := by decide +kernel
theorem dX6_leastRowHead_77 : decode cX6_leastRowHead 77 = .ok (.invokestatic 73, 3) := by decide +kernel
theorem dX6_leastRowHead_80 : decode cX6_leastRowHead 80 = .ok (.ireturn, 1) := by decide +kernel
theorem dX6_placeToAsk_0 : decode cX6_placeToAsk 0 = .ok (.aload_n 0, 1) := by decide +kernel
theorem dX6_placeToAsk_1 : decode cX6_placeToAsk 1 = .ok (.getfield 25, 3) := by decide +kernel
theorem dX6_placeToAsk_4 : decode cX6_placeToAsk 4 = .ok (.ifCond .eq 11, 3) := by decide +kernel
theorem dX6_placeToAsk_7 : decode cX6_placeToAsk 7 = .ok (.aload_n 0, 1) := by decide +kernel
theorem dX6_placeToAsk_8 : decode cX6_placeToAsk 8 = .ok (.getfield 22, 3) := by decide +kernel
theorem dX6_placeToAsk_11 : decode cX6_placeToAsk 11 = .ok (.iconst 2, 1) := by decide +kernel
theorem dX6_placeToAsk_12 : decode cX6_placeToAsk 12 = .ok (.if_icmp .ge 5, 3) := by decide +kernel
theorem dX6_placeToAsk_15 : decode cX6_placeToAsk 15 = .ok (.iconst (-1), 1) := by decide +kernel
theorem dX6_placeToAsk_16 : decode cX6_placeToAsk 16 = .ok (.ireturn, 1) := by decide +kernel
theorem dX6_placeToAsk_17 : decode cX6_placeToAsk 17 = .ok (.aload_n 0, 1) := by decide +kernel
theorem dX6_placeToAsk_18 : decode cX6_placeToAsk 18 = .ok (.getfield 9, 3) := by decide +kernel
theorem dX6_placeToAsk_21 : decode cX6_placeToAsk 21 = .ok (.aload_n 0, 1) := by decide +kernel
theorem dX6_placeToAsk_22 : decode cX6_placeToAsk 22 = .ok (.getfield 15, 3) := by decide +kernel
theorem dX6_placeToAsk_25 : decode cX6_placeToAsk 25 = .ok (.iconst (-1), 1) := by decide +kernel
theorem dX6_placeToAsk_26 : decode cX6_placeToAsk 26 = .ok (.invokestatic 79, 3) := by decide +kernel
theorem dX6_placeToAsk_29 : decode cX6_placeToAsk 29 = .ok (.ireturn, 1) := by decide +kernel
theorem dX6_rowsLeftIfAsked_0 : decode cX6_rowsLeftIfAsked 0 = .ok (.aload_n 0, 1) := by decide +kernel
theorem dX6_rowsLeftIfAsked_1 : decode cX6_rowsLeftIfAsked 1 = .ok (.getfield 25, 3) := by decide +kernel
theorem dX6_rowsLeftIfAsked_4 : decode cX6_rowsLeftIfAsked 4 = .ok (.ifCond .eq 24, 3) := by decide +kernel
theorem dX6_rowsLeftIfAsked_7 : decode cX6_rowsLeftIfAsked 7 = .ok (.aload_n 0, 1) := by decide +kernel
theorem dX6_rowsLeftIfAsked_8 : decode cX6_rowsLeftIfAsked 8 = .ok (.getfield 22, 3) := by decide +kernel
theorem dX6_rowsLeftIfAsked_11 : decode cX6_rowsLeftIfAsked 11 = .ok (.iconst 2, 1) := by decide +kernel
theorem dX6_rowsLeftIfAsked_12 : decode cX6_rowsLeftIfAsked 12 = .ok (.if_icmp .lt 16, 3) := by decide +kernel
theorem dX6_rowsLeftIfAsked_15 : decode cX6_rowsLeftIfAsked 15 = .ok (.getstatic 70, 3) := by decide +kernel
theorem dX6_rowsLeftIfAsked_18 : decode cX6_rowsLeftIfAsked 18 = .ok (.aload_n 0, 1) := by decide +kernel
theorem dX6_rowsLeftIfAsked_19 : decode cX6_rowsLeftIfAsked 19 = .ok (.getfield 22, 3) := by decide +kernel
theorem dX6_rowsLeftIfAsked_22 : decode cX6_rowsLeftIfAsked 22 = .ok (.iconst 1, 1) := by decide +kernel
theorem dX6_rowsLeftIfAsked_23 : decode cX6_rowsLeftIfAsked 23 = .ok (.isub, 1) := by decide +kernel
theorem dX6_rowsLeftIfAsked_24 : decode cX6_rowsLeftIfAsked 24 = .ok (.iaload, 1) := by decide +kernel
theorem dX6_rowsLeftIfAsked_25 : decode cX6_rowsLeftIfAsked 25 = .ok (.goto 7, 3) := by decide +kernel
theorem dX6_rowsLeftIfAsked_28 : decode cX6_rowsLeftIfAsked 28 = .ok (.aload_n 0, 1) := by decide +kernel
theorem dX6_rowsLeftIfAsked_29 : decode cX6_rowsLeftIfAsked 29 = .ok (.invokevirtual 85, 3) := by decide +kernel
theorem dX6_rowsLeftIfAsked_32 : decode cX6_rowsLeftIfAsked 32 = .ok (.ireturn, 1) := by decide +kernel
theorem dX7_init_0 : decode cX7_init 0 = .ok (.aload_n 0, 1) := by decide +kernel
theorem dX7_init_1 : decode cX7_init 1 = .ok (.invokespecial 3, 3) := by decide +kernel
theorem dX7_init_4 : decode cX7_init 4 = .ok (.aload_n 0, 1) := by decide +kernel
theorem dX7_init_5 : decode cX7_init 5 = .ok (.bipush 7, 2) := by decide +kernel
theorem dX7_init_7 : decode cX7_init 7 = .ok (.sipush 5040, 3) := by decide +kernel
theorem dX7_init_10 : decode cX7_init 10 = .ok (.multianewarray 11 2, 4) := by decide +kernel
theorem dX7_init_14 : decode cX7_init 14 = .ok (.putfield 13, 3) := by decide +kernel
theorem dX7_init_17 : decode cX7_init 17 = .ok (.aload_n 0, 1) := by decide +kernel
theorem dX7_init_18 : decode cX7_init 18 = .ok (.bipush 7, 2) := by decide +kernel
theorem dX7_init_20 : decode cX7_init 20 = .ok (.newarray .boolean, 2) := by decide +kernel
theorem dX7_init_22 : decode cX7_init 22 = .ok (.putfield 16, 3) := by decide +kernel
theorem dX7_init_25 : decode cX7_init 25 = .ok (.aload_n 0, 1) := by decide +kernel
theorem dX7_init_26 : decode cX7_init 26 = .ok (.bipush 7, 2) := by decide +kernel
theorem dX7_init_28 : decode cX7_init 28 = .ok (.newarray .int, 2) := by decide +kernel
theorem dX7_init_30 : decode cX7_init 30 = .ok (.putfield 20, 3) := by decide +kernel
theorem dX7_init_33 : decode cX7_init 33 = .ok (.aload_n 0, 1) := by decide +kernel
theorem dX7_init_34 : decode cX7_init 34 = .ok (.bipush 7, 2) := by decide +kernel
theorem dX7_init_36 : decode cX7_init 36 = .ok (.newarray .int, 2) := by decide +kernel
theorem dX7_init_38 : decode cX7_init 38 = .ok (.putfield 24, 3) := by decide +kernel
theorem dX7_init_41 : decode cX7_init 41 = .ok (.aload_n 0, 1) := by decide +kernel
theorem dX7_init_42 : decode cX7_init 42 = .ok (.sipush 5040, 3) := by decide +kernel
theorem dX7_init_45 : decode cX7_init 45 = .ok (.newarray .int, 2) := by decide +kernel
theorem dX7_init_47 : decode cX7_init 47 = .ok (.putfield 27, 3) := by decide +kernel
theorem dX7_init_50 : decode cX7_init 50 = .ok (.aload_n 0, 1) := by decide +kernel
theorem dX7_init_51 : decode cX7_init 51 = .ok (.sipush 128, 3) := by decide +kernel
theorem dX7_init_54 : decode cX7_init 54 = .ok (.newarray .int, 2) := by decide +kernel
theorem dX7_init_56 : decode cX7_init 56 = .ok (.putfield 30, 3) := by decide +kernel
theorem dX7_init_59 : decode cX7_init 59 = .ok (.aload_n 0, 1) := by decide +kernel
theorem dX7_init_60 : decode cX7_init 60 = .ok (.bipush 7, 2) := by decide +kernel
theorem dX7_init_62 : decode cX7_init 62 = .ok (.newarray .int, 2) := by decide +kernel
theorem dX7_init_64 : decode cX7_init 64 = .ok (.putfield 33, 3) := by decide +kernel
theorem dX7_init_67 : decode cX7_init 67 = .ok (.aload_n 0, 1) := by decide +kernel
theorem dX7_init_68 : decode cX7_init 68 = .ok (.bipush 7, 2) := by decide +kernel
theorem dX7_init_70 : decode cX7_init 70 = .ok (.newarray .int, 2) := by decide +kernel
theorem dX7_init_72 : decode cX7_init 72 = .ok (.putfield 36, 3) := by decide +kernel
theorem dX7_init_75 : decode cX7_init 75 = .ok (.aload_n 0, 1) := by decide +kernel
theorem dX7_init_76 : decode cX7_init 76 = .ok (.iconst 0, 1) := by decide +kernel
theorem dX7_init_77 : decode cX7_init 77 = .ok (.putfield 39, 3) := by decide +kernel
theorem dX7_init_80 : decode cX7_init 80 = .ok (.aload_n 0, 1) := by decide +kernel
theorem dX7_init_81 : decode cX7_init 81 = .ok (.iconst 0, 1) := by decide +kernel
theorem dX7_init_82 : decode cX7_init 82 = .ok (.putfield 43, 3) := by decide +kernel
theorem dX7_init_85 : decode cX7_init 85 = .ok (.aload_n 0, 1) := by decide +kernel
theorem dX7_init_86 : decode cX7_init 86 = .ok (.iconst 0, 1) := by decide +kernel
theorem dX7_init_87 : decode cX7_init 87 = .ok (.putfield 46, 3) := by decide +kernel
theorem dX7_init_90 : decode cX7_init 90 = .ok (.iconst 1, 1) := by decide +kernel
theorem dX7_init_91 : decode cX7_init 91 = .ok (.istore_n 1, 1) := by decide +kernel
theorem dX7_init_92 : decode cX7_init 92 = .ok (.iload_n 1, 1) := by decide +kernel
theorem dX7_init_93 : decode cX7_init 93 = .ok (.sipush 128, 3) := by decide +kernel
theorem dX7_init_96 : decode cX7_init 96 = .ok (.if_icmp .ge 27, 3) := by decide +kernel
theorem dX7_init_99 : decode cX7_init 99 = .ok (.aload_n 0, 1) := by decide +kernel
theorem dX7_init_100 : decode cX7_init 100 = .ok (.getfield 30, 3) := by decide +kernel
theorem dX7_init_103 : decode cX7_init 103 = .ok (.iload_n 1, 1) := by decide +kernel
theorem dX7_init_104 : decode cX7_init 104 = .ok (.aload_n 0, 1) := by decide +kernel
theorem dX7_init_105 : decode cX7_init 105 = .ok (.getfield 30, 3) := by decide +kernel
theorem dX7_init_108 : decode cX7_init 108 = .ok (.iload_n 1, 1) := by decide +kernel
theorem dX7_init_109 : decode cX7_init 109 = .ok (.iconst 1, 1) := by decide +kernel
theorem dX7_init_110 : decode cX7_init 110 = .ok (.ishr, 1) := by decide +kernel
theorem dX7_init_111 : decode cX7_init 111 = .ok (.iaload, 1) := by decide +kernel
theorem dX7_init_112 : decode cX7_init 112 = .ok (.iload_n 1, 1) := by decide +kernel
theorem dX7_init_113 : decode cX7_init 113 = .ok (.iconst 1, 1) := by decide +kernel
theorem dX7_init_114 : decode cX7_init 114 = .ok (.iand, 1) := by decide +kernel
theorem dX7_init_115 : decode cX7_init 115 = .ok (.iadd, 1) := by decide +kernel
theorem dX7_init_116 : decode cX7_init 116 = .ok (.iastore, 1) := by decide +kernel
theorem dX7_init_117 : decode cX7_init 117 = .ok (.iinc 1 1, 3) := by decide +kernel
theorem dX7_init_120 : decode cX7_init 120 = .ok (.goto (-28), 3) := by decide +kernel
theorem dX7_init_123 : decode cX7_init 123 = .ok (.return_, 1) := by decide +kernel
theorem dX7_aimAt_0 : decode cX7_aimAt 0 = .ok (.aload_n 0, 1) := by decide +kernel
theorem dX7_aimAt_1 : decode cX7_aimAt 1 = .ok (.getfield 39, 3) := by decide +kernel
theorem dX7_aimAt_4 : decode cX7_aimAt 4 = .ok (.aload_n 1, 1) := by decide +kernel
theorem dX7_aimAt_5 : decode cX7_aimAt 5 = .ok (.getfield 49, 3) := by decide +kernel
theorem dX7_aimAt_8 : decode cX7_aimAt 8 = .ok (.if_icmp .ne 14, 3) := by decide +kernel
theorem dX7_aimAt_11 : decode cX7_aimAt 11 = .ok (.aload_n 0, 1) := by decide +kernel
theorem dX7_aimAt_12 : decode cX7_aimAt 12 = .ok (.getfield 43, 3) := by decide +kernel
theorem dX7_aimAt_15 : decode cX7_aimAt 15 = .ok (.aload_n 1, 1) := by decide +kernel
theorem dX7_aimAt_16 : decode cX7_aimAt 16 = .ok (.getfield 52, 3) := by decide +kernel
theorem dX7_aimAt_19 : decode cX7_aimAt 19 = .ok (.if_icmp .eq 23, 3) := by decide +kernel
theorem dX7_aimAt_22 : decode cX7_aimAt 22 = .ok (.aload_n 0, 1) := by decide +kernel
theorem dX7_aimAt_23 : decode cX7_aimAt 23 = .ok (.aload_n 1, 1) := by decide +kernel
theorem dX7_aimAt_24 : decode cX7_aimAt 24 = .ok (.getfield 49, 3) := by decide +kernel
theorem dX7_aimAt_27 : decode cX7_aimAt 27 = .ok (.putfield 39, 3) := by decide +kernel
theorem dX7_aimAt_30 : decode cX7_aimAt 30 = .ok (.aload_n 0, 1) := by decide +kernel
theorem dX7_aimAt_31 : decode cX7_aimAt 31 = .ok (.aload_n 1, 1) := by decide +kernel
theorem dX7_aimAt_32 : decode cX7_aimAt 32 = .ok (.getfield 52, 3) := by decide +kernel
theorem dX7_aimAt_35 : decode cX7_aimAt 35 = .ok (.putfield 43, 3) := by decide +kernel
theorem dX7_aimAt_38 : decode cX7_aimAt 38 = .ok (.aload_n 0, 1) := by decide +kernel
theorem dX7_aimAt_39 : decode cX7_aimAt 39 = .ok (.invokevirtual 53, 3) := by decide +kernel
theorem dX7_aimAt_42 : decode cX7_aimAt 42 = .ok (.aload_n 1, 1) := by decide +kernel
theorem dX7_aimAt_43 : decode cX7_aimAt 43 = .ok (.invokevirtual 56, 3) := by decide +kernel
theorem dX7_aimAt_46 : decode cX7_aimAt 46 = .ok (.istore_n 3, 1) := by decide +kernel
theorem dX7_aimAt_47 : decode cX7_aimAt 47 = .ok (.iconst 0, 1) := by decide +kernel
theorem dX7_aimAt_48 : decode cX7_aimAt 48 = .ok (.istore 4, 2) := by decide +kernel
theorem dX7_aimAt_50 : decode cX7_aimAt 50 = .ok (.iconst 0, 1) := by decide +kernel
theorem dX7_aimAt_51 : decode cX7_aimAt 51 = .ok (.istore 5, 2) := by decide +kernel
theorem dX7_aimAt_53 : decode cX7_aimAt 53 = .ok (.iload 5, 2) := by decide +kernel
theorem dX7_aimAt_55 : decode cX7_aimAt 55 = .ok (.aload_n 0, 1) := by decide +kernel
theorem dX7_aimAt_56 : decode cX7_aimAt 56 = .ok (.getfield 39, 3) := by decide +kernel
theorem dX7_aimAt_59 : decode cX7_aimAt 59 = .ok (.if_icmp .ge 47, 3) := by decide +kernel
theorem dX7_aimAt_62 : decode cX7_aimAt 62 = .ok (.aload_n 2, 1) := by decide +kernel
theorem dX7_aimAt_63 : decode cX7_aimAt 63 = .ok (.iload 5, 2) := by decide +kernel
theorem dX7_aimAt_65 : decode cX7_aimAt 65 = .ok (.iaload, 1) := by decide +kernel
theorem dX7_aimAt_66 : decode cX7_aimAt 66 = .ok (.iload_n 3, 1) := by decide +kernel
theorem dX7_aimAt_67 : decode cX7_aimAt 67 = .ok (.if_icmp .ne 19, 3) := by decide +kernel
theorem dX7_aimAt_70 : decode cX7_aimAt 70 = .ok (.aload_n 0, 1) := by decide +kernel
theorem dX7_aimAt_71 : decode cX7_aimAt 71 = .ok (.getfield 33, 3) := by decide +kernel
theorem dX7_aimAt_74 : decode cX7_aimAt 74 = .ok (.iload_n 3, 1) := by decide +kernel
theorem dX7_aimAt_75 : decode cX7_aimAt 75 = .ok (.iload_n 3, 1) := by decide +kernel
theorem dX7_aimAt_76 : decode cX7_aimAt 76 = .ok (.iastore, 1) := by decide +kernel
theorem dX7_aimAt_77 : decode cX7_aimAt 77 = .ok (.aload_n 0, 1) := by decide +kernel
theorem dX7_aimAt_78 : decode cX7_aimAt 78 = .ok (.iload 5, 2) := by decide +kernel
theorem dX7_aimAt_80 : decode cX7_aimAt 80 = .ok (.putfield 46, 3) := by decide +kernel
theorem dX7_aimAt_83 : decode cX7_aimAt 83 = .ok (.goto 17, 3) := by decide +kernel
theorem dX7_aimAt_86 : decode cX7_aimAt 86 = .ok (.aload_n 0, 1) := by decide +kernel
theorem dX7_aimAt_87 : decode cX7_aimAt 87 = .ok (.getfield 33, 3) := by decide +kernel
theorem dX7_aimAt_90 : decode cX7_aimAt 90 = .ok (.aload_n 2, 1) := by decide +kernel
theorem dX7_aimAt_91 : decode cX7_aimAt 91 = .ok (.iload 5, 2) := by decide +kernel
theorem dX7_aimAt_93 : decode cX7_aimAt 93 = .ok (.iaload, 1) := by decide +kernel
theorem dX7_aimAt_94 : decode cX7_aimAt 94 = .ok (.iload 4, 2) := by decide +kernel
theorem dX7_aimAt_96 : decode cX7_aimAt 96 = .ok (.iastore, 1) := by decide +kernel
theorem dX7_aimAt_97 : decode cX7_aimAt 97 = .ok (.iinc 4 1, 3) := by decide +kernel
theorem dX7_aimAt_100 : decode cX7_aimAt 100 = .ok (.iinc 5 1, 3) := by decide +kernel
theorem dX7_aimAt_103 : decode cX7_aimAt 103 = .ok (.goto (-50), 3) := by decide +kernel
theorem dX7_aimAt_106 : decode cX7_aimAt 106 = .ok (.aload_n 0, 1) := by decide +kernel
theorem dX7_aimAt_107 : decode cX7_aimAt 107 = .ok (.getfield 16, 3) := by decide +kernel
theorem dX7_aimAt_110 : decode cX7_aimAt 110 = .ok (.aload_n 0, 1) := by decide +kernel
theorem dX7_aimAt_111 : decode cX7_aimAt 111 = .ok (.getfield 46, 3) := by decide +kernel
theorem dX7_aimAt_114 : decode cX7_aimAt 114 = .ok (.baload, 1) := by decide +kernel
theorem dX7_aimAt_115 : decode cX7_aimAt 115 = .ok (.ifCond .ne 22, 3) := by decide +kernel
theorem dX7_aimAt_118 : decode cX7_aimAt 118 = .ok (.aload_n 0, 1) := by decide +kernel
theorem dX7_aimAt_119 : decode cX7_aimAt 119 = .ok (.getfield 16, 3) := by decide +kernel
theorem dX7_aimAt_122 : decode cX7_aimAt 122 = .ok (.aload_n 0, 1) := by decide +kernel
theorem dX7_aimAt_123 : decode cX7_aimAt 123 = .ok (.getfield 46, 3) := by decide +kernel
theorem dX7_aimAt_126 : decode cX7_aimAt 126 = .ok (.iconst 1, 1) := by decide +kernel
theorem dX7_aimAt_127 : decode cX7_aimAt 127 = .ok (.bastore, 1) := by decide +kernel
theorem dX7_aimAt_128 : decode cX7_aimAt 128 = .ok (.aload_n 0, 1) := by decide +kernel
theorem dX7_aimAt_129 : decode cX7_aimAt 129 = .ok (.aload_n 0, 1) := by decide +kernel
theorem dX7_aimAt_130 : decode cX7_aimAt 130 = .ok (.aload_n 2, 1) := by decide +kernel
theorem dX7_aimAt_131 : decode cX7_aimAt 131 = .ok (.invokevirtual 60, 3) := by decide +kernel
theorem dX7_aimAt_134 : decode cX7_aimAt 134 = .ok (.invokevirtual 64, 3) := by decide +kernel
theorem dX7_aimAt_137 : decode cX7_aimAt 137 = .ok (.return_, 1) := by decide +kernel
theorem dX7_forgetSearches_0 : decode cX7_forgetSearches 0 = .ok (.iconst 0, 1) := by decide +kernel
theorem dX7_forgetSearches_1 : decode cX7_forgetSearches 1 = .ok (.istore_n 1, 1) := by decide +kernel
theorem dX7_forgetSearches_2 : decode cX7_forgetSearches 2 = .ok (.iload_n 1, 1) := by decide +kernel
theorem dX7_forgetSearches_3 : decode cX7_forgetSearches 3 = .ok (.bipush 7, 2) := by decide +kernel
theorem dX7_forgetSearches_5 : decode cX7_forgetSearches 5 = .ok (.if_icmp .ge 16, 3) := by decide +kernel
theorem dX7_forgetSearches_8 : decode cX7_forgetSearches 8 = .ok (.aload_n 0, 1) := by decide +kernel
theorem dX7_forgetSearches_9 : decode cX7_forgetSearches 9 = .ok (.getfield 16, 3) := by decide +kernel
theorem dX7_forgetSearches_12 : decode cX7_forgetSearches 12 = .ok (.iload_n 1, 1) := by decide +kernel
theorem dX7_forgetSearches_13 : decode cX7_forgetSearches 13 = .ok (.iconst 0, 1) := by decide +kernel
theorem dX7_forgetSearches_14 : decode cX7_forgetSearches 14 = .ok (.bastore, 1) := by decide +kernel
theorem dX7_forgetSearches_15 : decode cX7_forgetSearches 15 = .ok (.iinc 1 1, 3) := by decide +kernel
theorem dX7_forgetSearches_18 : decode cX7_forgetSearches 18 = .ok (.goto (-16), 3) := by decide +kernel
theorem dX7_forgetSearches_21 : decode cX7_forgetSearches 21 = .ok (.return_, 1) := by decide +kernel
theorem dX7_rowsReached_0 : decode cX7_rowsReached 0 = .ok (.aload_n 0, 1) := by decide +kernel
theorem dX7_rowsReached_1 : decode cX7_rowsReached 1 = .ok (.getfield 20, 3) := by decide +kernel
theorem dX7_rowsReached_4 : decode cX7_rowsReached 4 = .ok (.aload_n 0, 1) := by decide +kernel
theorem dX7_rowsReached_5 : decode cX7_rowsReached 5 = .ok (.getfield 46, 3) := by decide +kernel
theorem dX7_rowsReached_8 : decode cX7_rowsReached 8 = .ok (.iaload, 1) := by decide +kernel
theorem dX7_rowsReached_9 : decode cX7_rowsReached 9 = .ok (.ireturn, 1) := by decide +kernel
theorem dX7_mostLeaps_0 : decode cX7_mostLeaps 0 = .ok (.aload_n 0, 1) := by decide +kernel
theorem dX7_mostLeaps_1 : decode cX7_mostLeaps 1 = .ok (.getfield 24, 3) := by decide +kernel
theorem dX7_mostLeaps_4 : decode cX7_mostLeaps 4 = .ok (.aload_n 0, 1) := by decide +kernel
theorem dX7_mostLeaps_5 : decode cX7_mostLeaps 5 = .ok (.getfield 46, 3) := by decide +kernel
theorem dX7_mostLeaps_8 : decode cX7_mostLeaps 8 = .ok (.iaload, 1) := by decide +kernel
theorem dX7_mostLeaps_9 : decode cX7_mostLeaps 9 = .ok (.ireturn, 1) := by decide +kernel
theorem dX7_search_0 : decode cX7_search 0 = .ok (.aload_n 0, 1) := by decide +kernel
theorem dX7_search_1 : decode cX7_search 1 = .ok (.getfield 13, 3) := by decide +kernel
theorem dX7_search_4 : decode cX7_search 4 = .ok (.aload_n 0, 1) := by decide +kernel
theorem dX7_search_5 : decode cX7_search 5 = .ok (.getfield 46, 3) := by decide +kernel
theorem dX7_search_8 : decode cX7_search 8 = .ok (.aaload, 1) := by decide +kernel
theorem dX7_search_9 : decode cX7_search 9 = .ok (.iconst (-1), 1) := by decide +kernel
theorem dX7_search_10 : decode cX7_search 10 = .ok (.invokestatic 68, 3) := by decide +kernel
theorem dX7_search_13 : decode cX7_search 13 = .ok (.aload_n 0, 1) := by decide +kernel
theorem dX7_search_14 : decode cX7_search 14 = .ok (.getfield 20, 3) := by decide +kernel
theorem dX7_search_17 : decode cX7_search 17 = .ok (.aload_n 0, 1) := by decide +kernel
theorem dX7_search_18 : decode cX7_search 18 = .ok (.getfield 46, 3) := by decide +kernel
theorem dX7_search_21 : decode cX7_search 21 = .ok (.iconst 0, 1) := by decide +kernel
theorem dX7_search_22 : decode cX7_search 22 = .ok (.iastore, 1) := by decide +kernel
theorem dX7_search_23 : decode cX7_search 23 = .ok (.aload_n 0, 1) := by decide +kernel
theorem dX7_search_24 : decode cX7_search 24 = .ok (.getfield 24, 3) := by decide +kernel
theorem dX7_search_27 : decode cX7_search 27 = .ok (.aload_n 0, 1) := by decide +kernel
theorem dX7_search_28 : decode cX7_search 28 = .ok (.getfield 46, 3) := by decide +kernel
theorem dX7_search_31 : decode cX7_search 31 = .ok (.iconst 0, 1) := by decide +kernel
theorem dX7_search_32 : decode cX7_search 32 = .ok (.iastore, 1) := by decide +kernel
theorem dX7_search_33 : decode cX7_search 33 = .ok (.aload_n 0, 1) := by decide +kernel
theorem dX7_search_34 : decode cX7_search 34 = .ok (.iload_n 1, 1) := by decide +kernel
theorem dX7_search_35 : decode cX7_search 35 = .ok (.iconst 0, 1) := by decide +kernel
theorem dX7_search_36 : decode cX7_search 36 = .ok (.invokevirtual 74, 3) := by decide +kernel
theorem dX7_search_39 : decode cX7_search 39 = .ok (.iconst 0, 1) := by decide +kernel
theorem dX7_search_40 : decode cX7_search 40 = .ok (.istore_n 2, 1) := by decide +kernel
theorem dX7_search_41 : decode cX7_search 41 = .ok (.iload_n 2, 1) := by decide +kernel
theorem dX7_search_42 : decode cX7_search 42 = .ok (.aload_n 0, 1) := by decide +kernel
theorem dX7_search_43 : decode cX7_search 43 = .ok (.getfield 20, 3) := by decide +kernel
theorem dX7_search_46 : decode cX7_search 46 = .ok (.aload_n 0, 1) := by decide +kernel
theorem dX7_search_47 : decode cX7_search 47 = .ok (.getfield 46, 3) := by decide +kernel
theorem dX7_search_50 : decode cX7_search 50 = .ok (.iaload, 1) := by decide +kernel
theorem dX7_search_51 : decode cX7_search 51 = .ok (.if_icmp .ge 26, 3) := by decide +kernel
theorem dX7_search_54 : decode cX7_search 54 = .ok (.iload_n 2, 1) := by decide +kernel
theorem dX7_search_55 : decode cX7_search 55 = .ok (.sipush 5040, 3) := by decide +kernel
theorem dX7_search_58 : decode cX7_search 58 = .ok (.if_icmp .ge 19, 3) := by decide +kernel
theorem dX7_search_61 : decode cX7_search 61 = .ok (.aload_n 0, 1) := by decide +kernel
theorem dX7_search_62 : decode cX7_search 62 = .ok (.aload_n 0, 1) := by decide +kernel
theorem dX7_search_63 : decode cX7_search 63 = .ok (.getfield 27, 3) := by decide +kernel
theorem dX7_search_66 : decode cX7_search 66 = .ok (.iload_n 2, 1) := by decide +kernel
theorem dX7_search_67 : decode cX7_search 67 = .ok (.iaload, 1) := by decide +kernel
theorem dX7_search_68 : decode cX7_search 68 = .ok (.invokevirtual 78, 3) := by decide +kernel
theorem dX7_search_71 : decode cX7_search 71 = .ok (.iinc 2 1, 3) := by decide +kernel
theorem dX7_search_74 : decode cX7_search 74 = .ok (.goto (-33), 3) := by decide +kernel
theorem dX7_search_77 : decode cX7_search 77 = .ok (.return_, 1) := by decide +kernel
theorem dX7_note_0 : decode cX7_note 0 = .ok (.aload_n 0, 1) := by decide +kernel
theorem dX7_note_1 : decode cX7_note 1 = .ok (.iload_n 1, 1) := by decide +kernel
theorem dX7_note_2 : decode cX7_note 2 = .ok (.invokevirtual 81, 3) := by decide +kernel
theorem dX7_note_5 : decode cX7_note 5 = .ok (.istore_n 3, 1) := by decide +kernel
theorem dX7_note_6 : decode cX7_note 6 = .ok (.aload_n 0, 1) := by decide +kernel
theorem dX7_note_7 : decode cX7_note 7 = .ok (.getfield 20, 3) := by decide +kernel
theorem dX7_note_10 : decode cX7_note 10 = .ok (.aload_n 0, 1) := by decide +kernel
theorem dX7_note_11 : decode cX7_note 11 = .ok (.getfield 46, 3) := by decide +kernel
theorem dX7_note_14 : decode cX7_note 14 = .ok (.iaload, 1) := by decide +kernel
theorem dX7_note_15 : decode cX7_note 15 = .ok (.istore 4, 2) := by decide +kernel
theorem dX7_note_17 : decode cX7_note 17 = .ok (.iload_n 3, 1) := by decide +kernel
theorem dX7_note_18 : decode cX7_note 18 = .ok (.ifCond .lt 77, 3) := by decide +kernel
theorem dX7_note_21 : decode cX7_note 21 = .ok (.iload_n 3, 1) := by decide +kernel
theorem dX7_note_22 : decode cX7_note 22 = .ok (.sipush 5040, 3) := by decide +kernel
theorem dX7_note_25 : decode cX7_note 25 = .ok (.if_icmp .ge 70, 3) := by decide +kernel
theorem dX7_note_28 : decode cX7_note 28 = .ok (.iload 4, 2) := by decide +kernel
theorem dX7_note_30 : decode cX7_note 30 = .ok (.sipush 5040, 3) := by decide +kernel
theorem dX7_note_33 : decode cX7_note 33 = .ok (.if_icmp .ge 62, 3) := by decide +kernel
theorem dX7_note_36 : decode cX7_note 36 = .ok (.aload_n 0, 1) := by decide +kernel
theorem dX7_note_37 : decode cX7_note 37 = .ok (.getfield 13, 3) := by decide +kernel
theorem dX7_note_40 : decode cX7_note 40 = .ok (.aload_n 0, 1) := by decide +kernel
theorem dX7_note_41 : decode cX7_note 41 = .ok (.getfield 46, 3) := by decide +kernel
theorem dX7_note_44 : decode cX7_note 44 = .ok (.aaload, 1) := by decide +kernel
theorem dX7_note_45 : decode cX7_note 45 = .ok (.iload_n 3, 1) := by decide +kernel
theorem dX7_note_46 : decode cX7_note 46 = .ok (.baload, 1) := by decide +kernel
theorem dX7_note_47 : decode cX7_note 47 = .ok (.iconst (-1), 1) := by decide +kernel
theorem dX7_note_48 : decode cX7_note 48 = .ok (.if_icmp .ne 47, 3) := by decide +kernel
theorem dX7_note_51 : decode cX7_note 51 = .ok (.aload_n 0, 1) := by decide +kernel
theorem dX7_note_52 : decode cX7_note 52 = .ok (.getfield 13, 3) := by decide +kernel
theorem dX7_note_55 : decode cX7_note 55 = .ok (.aload_n 0, 1) := by decide +kernel
theorem dX7_note_56 : decode cX7_note 56 = .ok (.getfield 46, 3) := by decide +kernel
theorem dX7_note_59 : decode cX7_note 59 = .ok (.aaload, 1) := by decide +kernel
theorem dX7_note_60 : decode cX7_note 60 = .ok (.iload_n 3, 1) := by decide +kernel
theorem dX7_note_61 : decode cX7_note 61 = .ok (.iload_n 2, 1) := by decide +kernel
theorem dX7_note_62 : decode cX7_note 62 = .ok (.i2b, 1) := by decide +kernel
theorem dX7_note_63 : decode cX7_note 63 = .ok (.bastore, 1) := by decide +kernel
theorem dX7_note_64 : decode cX7_note 64 = .ok (.aload_n 0, 1) := by decide +kernel
theorem dX7_note_65 : decode cX7_note 65 = .ok (.getfield 27, 3) := by decide +kernel
theorem dX7_note_68 : decode cX7_note 68 = .ok (.iload 4, 2) := by decide +kernel
theorem dX7_note_70 : decode cX7_note 70 = .ok (.iload_n 1, 1) := by decide +kernel
theorem dX7_note_71 : decode cX7_note 71 = .ok (.iastore, 1) := by decide +kernel
theorem dX7_note_72 : decode cX7_note 72 = .ok (.aload_n 0, 1) := by decide +kernel
theorem dX7_note_73 : decode cX7_note 73 = .ok (.getfield 20, 3) := by decide +kernel
theorem dX7_note_76 : decode cX7_note 76 = .ok (.aload_n 0, 1) := by decide +kernel
theorem dX7_note_77 : decode cX7_note 77 = .ok (.getfield 46, 3) := by decide +kernel
theorem dX7_note_80 : decode cX7_note 80 = .ok (.iload 4, 2) := by decide +kernel
theorem dX7_note_82 : decode cX7_note 82 = .ok (.iconst 1, 1) := by decide +kernel
theorem dX7_note_83 : decode cX7_note 83 = .ok (.iadd, 1) := by decide +kernel
theorem dX7_note_84 : decode cX7_note 84 = .ok (.iastore, 1) := by decide +kernel
theorem dX7_note_85 : decode cX7_note 85 = .ok (.aload_n 0, 1) := by decide +kernel
theorem dX7_note_86 : decode cX7_note 86 = .ok (.getfield 24, 3) := by decide +kernel
theorem dX7_note_89 : decode cX7_note 89 = .ok (.aload_n 0, 1) := by decide +kernel
theorem dX7_note_90 : decode cX7_note 90 = .ok (.getfield 46, 3) := by decide +kernel
theorem dX7_note_93 : decode cX7_note 93 = .ok (.iload_n 2, 1) := by decide +kernel
theorem dX7_note_94 : decode cX7_note 94 = .ok (.iastore, 1) := by decide +kernel
theorem dX7_note_95 : decode cX7_note 95 = .ok (.return_, 1) := by decide +kernel
theorem dX7_spreadFrom_0 : decode cX7_spreadFrom 0 = .ok (.aload_n 0, 1) := by decide +kernel
theorem dX7_spreadFrom_1 : decode cX7_spreadFrom 1 = .ok (.getfield 39, 3) := by decide +kernel
theorem dX7_spreadFrom_4 : decode cX7_spreadFrom 4 = .ok (.iconst 1, 1) := by decide +kernel
theorem dX7_spreadFrom_5 : decode cX7_spreadFrom 5 = .ok (.isub, 1) := by decide +kernel
theorem dX7_spreadFrom_6 : decode cX7_spreadFrom 6 = .ok (.istore_n 2, 1) := by decide +kernel
theorem dX7_spreadFrom_7 : decode cX7_spreadFrom 7 = .ok (.iconst 0, 1) := by decide +kernel
theorem dX7_spreadFrom_8 : decode cX7_spreadFrom 8 = .ok (.istore_n 3, 1) := by decide +kernel
theorem dX7_spreadFrom_9 : decode cX7_spreadFrom 9 = .ok (.iload_n 3, 1) := by decide +kernel
theorem dX7_spreadFrom_10 : decode cX7_spreadFrom 10 = .ok (.iload_n 2, 1) := by decide +kernel
theorem dX7_spreadFrom_11 : decode cX7_spreadFrom 11 = .ok (.if_icmp .ge 18, 3) := by decide +kernel
theorem dX7_spreadFrom_14 : decode cX7_spreadFrom 14 = .ok (.iload_n 1, 1) := by decide +kernel
theorem dX7_spreadFrom_15 : decode cX7_spreadFrom 15 = .ok (.iload_n 3, 1) := by decide +kernel
theorem dX7_spreadFrom_16 : decode cX7_spreadFrom 16 = .ok (.invokestatic 85, 3) := by decide +kernel
theorem dX7_spreadFrom_19 : decode cX7_spreadFrom 19 = .ok (.iload_n 2, 1) := by decide +kernel
theorem dX7_spreadFrom_20 : decode cX7_spreadFrom 20 = .ok (.if_icmp .eq 9, 3) := by decide +kernel
theorem dX7_spreadFrom_23 : decode cX7_spreadFrom 23 = .ok (.iinc 3 1, 3) := by decide +kernel
theorem dX7_spreadFrom_26 : decode cX7_spreadFrom 26 = .ok (.goto (-17), 3) := by decide +kernel
theorem dX7_spreadFrom_29 : decode cX7_spreadFrom 29 = .ok (.aload_n 0, 1) := by decide +kernel
theorem dX7_spreadFrom_30 : decode cX7_spreadFrom 30 = .ok (.iload_n 1, 1) := by decide +kernel
theorem dX7_spreadFrom_31 : decode cX7_spreadFrom 31 = .ok (.invokevirtual 89, 3) := by decide +kernel
theorem dX7_spreadFrom_34 : decode cX7_spreadFrom 34 = .ok (.iconst 1, 1) := by decide +kernel
theorem dX7_spreadFrom_35 : decode cX7_spreadFrom 35 = .ok (.iadd, 1) := by decide +kernel
theorem dX7_spreadFrom_36 : decode cX7_spreadFrom 36 = .ok (.istore 4, 2) := by decide +kernel
theorem dX7_spreadFrom_38 : decode cX7_spreadFrom 38 = .ok (.iconst 0, 1) := by decide +kernel
theorem dX7_spreadFrom_39 : decode cX7_spreadFrom 39 = .ok (.istore 5, 2) := by decide +kernel
theorem dX7_spreadFrom_41 : decode cX7_spreadFrom 41 = .ok (.iload 5, 2) := by decide +kernel
theorem dX7_spreadFrom_43 : decode cX7_spreadFrom 43 = .ok (.aload_n 0, 1) := by decide +kernel
theorem dX7_spreadFrom_44 : decode cX7_spreadFrom 44 = .ok (.getfield 39, 3) := by decide +kernel
theorem dX7_spreadFrom_47 : decode cX7_spreadFrom 47 = .ok (.if_icmp .ge 62, 3) := by decide +kernel
theorem dX7_spreadFrom_50 : decode cX7_spreadFrom 50 = .ok (.aload_n 0, 1) := by decide +kernel
theorem dX7_spreadFrom_51 : decode cX7_spreadFrom 51 = .ok (.getfield 43, 3) := by decide +kernel
theorem dX7_spreadFrom_54 : decode cX7_spreadFrom 54 = .ok (.iload_n 3, 1) := by decide +kernel
theorem dX7_spreadFrom_55 : decode cX7_spreadFrom 55 = .ok (.iload 5, 2) := by decide +kernel
theorem dX7_spreadFrom_57 : decode cX7_spreadFrom 57 = .ok (.isub, 1) := by decide +kernel
theorem dX7_spreadFrom_58 : decode cX7_spreadFrom 58 = .ok (.invokestatic 92, 3) := by decide +kernel
theorem dX7_spreadFrom_61 : decode cX7_spreadFrom 61 = .ok (.ishr, 1) := by decide +kernel
theorem dX7_spreadFrom_62 : decode cX7_spreadFrom 62 = .ok (.iconst 1, 1) := by decide +kernel
theorem dX7_spreadFrom_63 : decode cX7_spreadFrom 63 = .ok (.iand, 1) := by decide +kernel
theorem dX7_spreadFrom_64 : decode cX7_spreadFrom 64 = .ok (.ifCond .eq 39, 3) := by decide +kernel
theorem dX7_spreadFrom_67 : decode cX7_spreadFrom 67 = .ok (.iload_n 1, 1) := by decide +kernel
theorem dX7_spreadFrom_68 : decode cX7_spreadFrom 68 = .ok (.iload 5, 2) := by decide +kernel
theorem dX7_spreadFrom_70 : decode cX7_spreadFrom 70 = .ok (.invokestatic 85, 3) := by decide +kernel
theorem dX7_spreadFrom_73 : decode cX7_spreadFrom 73 = .ok (.iload_n 2, 1) := by decide +kernel
theorem dX7_spreadFrom_74 : decode cX7_spreadFrom 74 = .ok (.ixor, 1) := by decide +kernel
theorem dX7_spreadFrom_75 : decode cX7_spreadFrom 75 = .ok (.istore 6, 2) := by decide +kernel
theorem dX7_spreadFrom_77 : decode cX7_spreadFrom 77 = .ok (.iload 6, 2) := by decide +kernel
theorem dX7_spreadFrom_79 : decode cX7_spreadFrom 79 = .ok (.iconst 3, 1) := by decide +kernel
theorem dX7_spreadFrom_80 : decode cX7_spreadFrom 80 = .ok (.iload_n 3, 1) := by decide +kernel
theorem dX7_spreadFrom_81 : decode cX7_spreadFrom 81 = .ok (.imul, 1) := by decide +kernel
theorem dX7_spreadFrom_82 : decode cX7_spreadFrom 82 = .ok (.ishl, 1) := by decide +kernel
theorem dX7_spreadFrom_83 : decode cX7_spreadFrom 83 = .ok (.iload 6, 2) := by decide +kernel
theorem dX7_spreadFrom_85 : decode cX7_spreadFrom 85 = .ok (.iconst 3, 1) := by decide +kernel
theorem dX7_spreadFrom_86 : decode cX7_spreadFrom 86 = .ok (.iload 5, 2) := by decide +kernel
theorem dX7_spreadFrom_88 : decode cX7_spreadFrom 88 = .ok (.imul, 1) := by decide +kernel
theorem dX7_spreadFrom_89 : decode cX7_spreadFrom 89 = .ok (.ishl, 1) := by decide +kernel
theorem dX7_spreadFrom_90 : decode cX7_spreadFrom 90 = .ok (.ior, 1) := by decide +kernel
theorem dX7_spreadFrom_91 : decode cX7_spreadFrom 91 = .ok (.istore 7, 2) := by decide +kernel
theorem dX7_spreadFrom_93 : decode cX7_spreadFrom 93 = .ok (.aload_n 0, 1) := by decide +kernel
theorem dX7_spreadFrom_94 : decode cX7_spreadFrom 94 = .ok (.iload_n 1, 1) := by decide +kernel
theorem dX7_spreadFrom_95 : decode cX7_spreadFrom 95 = .ok (.iload 7, 2) := by decide +kernel
theorem dX7_spreadFrom_97 : decode cX7_spreadFrom 97 = .ok (.ixor, 1) := by decide +kernel
theorem dX7_spreadFrom_98 : decode cX7_spreadFrom 98 = .ok (.iload 4, 2) := by decide +kernel
theorem dX7_spreadFrom_100 : decode cX7_spreadFrom 100 = .ok (.invokevirtual 74, 3) := by decide +kernel
theorem dX7_spreadFrom_103 : decode cX7_spreadFrom 103 = .ok (.iinc 5 1, 3) := by decide +kernel
theorem dX7_spreadFrom_106 : decode cX7_spreadFrom 106 = .ok (.goto (-65), 3) := by decide +kernel
theorem dX7_spreadFrom_109 : decode cX7_spreadFrom 109 = .ok (.return_, 1) := by decide +kernel
theorem dX7_headIn_0 : decode cX7_headIn 0 = .ok (.iload_n 0, 1) := by decide +kernel
theorem dX7_headIn_1 : decode cX7_headIn 1 = .ok (.iconst 3, 1) := by decide +kernel
theorem dX7_headIn_2 : decode cX7_headIn 2 = .ok (.iload_n 1, 1) := by decide +kernel
theorem dX7_headIn_3 : decode cX7_headIn 3 = .ok (.imul, 1) := by decide +kernel
theorem dX7_headIn_4 : decode cX7_headIn 4 = .ok (.ishr, 1) := by decide +kernel
theorem dX7_headIn_5 : decode cX7_headIn 5 = .ok (.bipush 7, 2) := by decide +kernel
theorem dX7_headIn_7 : decode cX7_headIn 7 = .ok (.iand, 1) := by decide +kernel
theorem dX7_headIn_8 : decode cX7_headIn 8 = .ok (.ireturn, 1) := by decide +kernel
theorem dX7_packed_0 : decode cX7_packed 0 = .ok (.iconst 0, 1) := by decide +kernel
theorem dX7_packed_1 : decode cX7_packed 1 = .ok (.istore_n 2, 1) := by decide +kernel
theorem dX7_packed_2 : decode cX7_packed 2 = .ok (.iconst 0, 1) := by decide +kernel
theorem dX7_packed_3 : decode cX7_packed 3 = .ok (.istore_n 3, 1) := by decide +kernel
theorem dX7_packed_4 : decode cX7_packed 4 = .ok (.iload_n 3, 1) := by decide +kernel
theorem dX7_packed_5 : decode cX7_packed 5 = .ok (.aload_n 0, 1) := by decide +kernel
theorem dX7_packed_6 : decode cX7_packed 6 = .ok (.getfield 39, 3) := by decide +kernel
theorem dX7_packed_9 : decode cX7_packed 9 = .ok (.if_icmp .ge 24, 3) := by decide +kernel
theorem dX7_packed_12 : decode cX7_packed 12 = .ok (.iload_n 2, 1) := by decide +kernel
theorem dX7_packed_13 : decode cX7_packed 13 = .ok (.aload_n 0, 1) := by decide +kernel
theorem dX7_packed_14 : decode cX7_packed 14 = .ok (.getfield 33, 3) := by decide +kernel
theorem dX7_packed_17 : decode cX7_packed 17 = .ok (.aload_n 1, 1) := by decide +kernel
theorem dX7_packed_18 : decode cX7_packed 18 = .ok (.iload_n 3, 1) := by decide +kernel
theorem dX7_packed_19 : decode cX7_packed 19 = .ok (.iaload, 1) := by decide +kernel
theorem dX7_packed_20 : decode cX7_packed 20 = .ok (.iaload, 1) := by decide +kernel
theorem dX7_packed_21 : decode cX7_packed 21 = .ok (.iconst 3, 1) := by decide +kernel
theorem dX7_packed_22 : decode cX7_packed 22 = .ok (.iload_n 3, 1) := by decide +kernel
theorem dX7_packed_23 : decode cX7_packed 23 = .ok (.imul, 1) := by decide +kernel
theorem dX7_packed_24 : decode cX7_packed 24 = .ok (.ishl, 1) := by decide +kernel
theorem dX7_packed_25 : decode cX7_packed 25 = .ok (.ior, 1) := by decide +kernel
theorem dX7_packed_26 : decode cX7_packed 26 = .ok (.istore_n 2, 1) := by decide +kernel
theorem dX7_packed_27 : decode cX7_packed 27 = .ok (.iinc 3 1, 3) := by decide +kernel
theorem dX7_packed_30 : decode cX7_packed 30 = .ok (.goto (-26), 3) := by decide +kernel
theorem dX7_packed_33 : decode cX7_packed 33 = .ok (.iload_n 2, 1) := by decide +kernel
theorem dX7_packed_34 : decode cX7_packed 34 = .ok (.ireturn, 1) := by decide +kernel
theorem dX7_rankOf_0 : decode cX7_rankOf 0 = .ok (.iconst 0, 1) := by decide +kernel
theorem dX7_rankOf_1 : decode cX7_rankOf 1 = .ok (.istore_n 2, 1) := by decide +kernel
theorem dX7_rankOf_2 : decode cX7_rankOf 2 = .ok (.iconst 1, 1) := by decide +kernel
theorem dX7_rankOf_3 : decode cX7_rankOf 3 = .ok (.aload_n 0, 1) := by decide +kernel
theorem dX7_rankOf_4 : decode cX7_rankOf 4 = .ok (.getfield 39, 3) := by decide +kernel
theorem dX7_rankOf_7 : decode cX7_rankOf 7 = .ok (.ishl, 1) := by decide +kernel
theorem dX7_rankOf_8 : decode cX7_rankOf 8 = .ok (.iconst 1, 1) := by decide +kernel
theorem dX7_rankOf_9 : decode cX7_rankOf 9 = .ok (.isub, 1) := by decide +kernel
theorem dX7_rankOf_10 : decode cX7_rankOf 10 = .ok (.istore_n 3, 1) := by decide +kernel
theorem dX7_rankOf_11 : decode cX7_rankOf 11 = .ok (.iload_n 1, 1) := by decide +kernel
theorem dX7_rankOf_12 : decode cX7_rankOf 12 = .ok (.istore 4, 2) := by decide +kernel
theorem dX7_rankOf_14 : decode cX7_rankOf 14 = .ok (.aload_n 0, 1) := by decide +kernel
theorem dX7_rankOf_15 : decode cX7_rankOf 15 = .ok (.getfield 39, 3) := by decide +kernel
theorem dX7_rankOf_18 : decode cX7_rankOf 18 = .ok (.istore 5, 2) := by decide +kernel
theorem dX7_rankOf_20 : decode cX7_rankOf 20 = .ok (.iload 5, 2) := by decide +kernel
theorem dX7_rankOf_22 : decode cX7_rankOf 22 = .ok (.ifCond .le 48, 3) := by decide +kernel
theorem dX7_rankOf_25 : decode cX7_rankOf 25 = .ok (.iconst 1, 1) := by decide +kernel
theorem dX7_rankOf_26 : decode cX7_rankOf 26 = .ok (.iload 4, 2) := by decide +kernel
theorem dX7_rankOf_28 : decode cX7_rankOf 28 = .ok (.bipush 7, 2) := by decide +kernel
theorem dX7_rankOf_30 : decode cX7_rankOf 30 = .ok (.iand, 1) := by decide +kernel
theorem dX7_rankOf_31 : decode cX7_rankOf 31 = .ok (.ishl, 1) := by decide +kernel
theorem dX7_rankOf_32 : decode cX7_rankOf 32 = .ok (.istore 6, 2) := by decide +kernel
theorem dX7_rankOf_34 : decode cX7_rankOf 34 = .ok (.iload_n 2, 1) := by decide +kernel
theorem dX7_rankOf_35 : decode cX7_rankOf 35 = .ok (.iload 5, 2) := by decide +kernel
theorem dX7_rankOf_37 : decode cX7_rankOf 37 = .ok (.imul, 1) := by decide +kernel
theorem dX7_rankOf_38 : decode cX7_rankOf 38 = .ok (.aload_n 0, 1) := by decide +kernel
theorem dX7_rankOf_39 : decode cX7_rankOf 39 = .ok (.getfield 30, 3) := by decide +kernel
theorem dX7_rankOf_42 : decode cX7_rankOf 42 = .ok (.iload_n 3, 1) := by decide +kernel
theorem dX7_rankOf_43 : decode cX7_rankOf 43 = .ok (.iload 6, 2) := by decide +kernel
theorem dX7_rankOf_45 : decode cX7_rankOf 45 = .ok (.iconst 1, 1) := by decide +kernel
theorem dX7_rankOf_46 : decode cX7_rankOf 46 = .ok (.isub, 1) := by decide +kernel
theorem dX7_rankOf_47 : decode cX7_rankOf 47 = .ok (.iand, 1) := by decide +kernel
theorem dX7_rankOf_48 : decode cX7_rankOf 48 = .ok (.iaload, 1) := by decide +kernel
theorem dX7_rankOf_49 : decode cX7_rankOf 49 = .ok (.iadd, 1) := by decide +kernel
theorem dX7_rankOf_50 : decode cX7_rankOf 50 = .ok (.istore_n 2, 1) := by decide +kernel
theorem dX7_rankOf_51 : decode cX7_rankOf 51 = .ok (.iload_n 3, 1) := by decide +kernel
theorem dX7_rankOf_52 : decode cX7_rankOf 52 = .ok (.iload 6, 2) := by decide +kernel
theorem dX7_rankOf_54 : decode cX7_rankOf 54 = .ok (.iconst (-1), 1) := by decide +kernel
theorem dX7_rankOf_55 : decode cX7_rankOf 55 = .ok (.ixor, 1) := by decide +kernel
theorem dX7_rankOf_56 : decode cX7_rankOf 56 = .ok (.iand, 1) := by decide +kernel
theorem dX7_rankOf_57 : decode cX7_rankOf 57 = .ok (.istore_n 3, 1) := by decide +kernel
theorem dX7_rankOf_58 : decode cX7_rankOf 58 = .ok (.iload 4, 2) := by decide +kernel
theorem dX7_rankOf_60 : decode cX7_rankOf 60 = .ok (.iconst 3, 1) := by decide +kernel
theorem dX7_rankOf_61 : decode cX7_rankOf 61 = .ok (.ishr, 1) := by decide +kernel
theorem dX7_rankOf_62 : decode cX7_rankOf 62 = .ok (.istore 4, 2) := by decide +kernel
theorem dX7_rankOf_64 : decode cX7_rankOf 64 = .ok (.iinc 5 (-1), 3) := by decide +kernel
theorem dX7_rankOf_67 : decode cX7_rankOf 67 = .ok (.goto (-47), 3) := by decide +kernel
theorem dX7_rankOf_70 : decode cX7_rankOf 70 = .ok (.iload_n 2, 1) := by decide +kernel
theorem dX7_rankOf_71 : decode cX7_rankOf 71 = .ok (.ireturn, 1) := by decide +kernel
theorem dX7_leapsFrom_0 : decode cX7_leapsFrom 0 = .ok (.aload_n 0, 1) := by decide +kernel
theorem dX7_leapsFrom_1 : decode cX7_leapsFrom 1 = .ok (.aload_n 0, 1) := by decide +kernel
theorem dX7_leapsFrom_2 : decode cX7_leapsFrom 2 = .ok (.aload_n 1, 1) := by decide +kernel
theorem dX7_leapsFrom_3 : decode cX7_leapsFrom 3 = .ok (.invokevirtual 60, 3) := by decide +kernel
theorem dX7_leapsFrom_6 : decode cX7_leapsFrom 6 = .ok (.invokevirtual 89, 3) := by decide +kernel
theorem dX7_leapsFrom_9 : decode cX7_leapsFrom 9 = .ok (.ireturn, 1) := by decide +kernel
theorem dX7_leapsToPack_0 : decode cX7_leapsToPack 0 = .ok (.aload_n 0, 1) := by decide +kernel
theorem dX7_leapsToPack_1 : decode cX7_leapsToPack 1 = .ok (.iload_n 1, 1) := by decide +kernel
theorem dX7_leapsToPack_2 : decode cX7_leapsToPack 2 = .ok (.invokevirtual 81, 3) := by decide +kernel
theorem dX7_leapsToPack_5 : decode cX7_leapsToPack 5 = .ok (.istore_n 2, 1) := by decide +kernel
theorem dX7_leapsToPack_6 : decode cX7_leapsToPack 6 = .ok (.iload_n 2, 1) := by decide +kernel
theorem dX7_leapsToPack_7 : decode cX7_leapsToPack 7 = .ok (.ifCond .lt 24, 3) := by decide +kernel
theorem dX7_leapsToPack_10 : decode cX7_leapsToPack 10 = .ok (.iload_n 2, 1) := by decide +kernel
theorem dX7_leapsToPack_11 : decode cX7_leapsToPack 11 = .ok (.sipush 5040, 3) := by decide +kernel
theorem dX7_leapsToPack_14 : decode cX7_leapsToPack 14 = .ok (.if_icmp .ge 17, 3) := by decide +kernel
theorem dX7_leapsToPack_17 : decode cX7_leapsToPack 17 = .ok (.aload_n 0, 1) := by decide +kernel
theorem dX7_leapsToPack_18 : decode cX7_leapsToPack 18 = .ok (.getfield 13, 3) := by decide +kernel
theorem dX7_leapsToPack_21 : decode cX7_leapsToPack 21 = .ok (.aload_n 0, 1) := by decide +kernel
theorem dX7_leapsToPack_22 : decode cX7_leapsToPack 22 = .ok (.getfield 46, 3) := by decide +kernel
theorem dX7_leapsToPack_25 : decode cX7_leapsToPack 25 = .ok (.aaload, 1) := by decide +kernel
theorem dX7_leapsToPack_26 : decode cX7_leapsToPack 26 = .ok (.iload_n 2, 1) := by decide +kernel
theorem dX7_leapsToPack_27 : decode cX7_leapsToPack 27 = .ok (.baload, 1) := by decide +kernel
theorem dX7_leapsToPack_28 : decode cX7_leapsToPack 28 = .ok (.goto 4, 3) := by decide +kernel
theorem dX7_leapsToPack_31 : decode cX7_leapsToPack 31 = .ok (.iconst (-1), 1) := by decide +kernel
theorem dX7_leapsToPack_32 : decode cX7_leapsToPack 32 = .ok (.ireturn, 1) := by decide +kernel
theorem dX7_placeOfLeap_0 : decode cX7_placeOfLeap 0 = .ok (.aload_n 1, 1) := by decide +kernel
theorem dX7_placeOfLeap_1 : decode cX7_placeOfLeap 1 = .ok (.iconst 0, 1) := by decide +kernel
theorem dX7_placeOfLeap_2 : decode cX7_placeOfLeap 2 = .ok (.aload_n 0, 1) := by decide +kernel
theorem dX7_placeOfLeap_3 : decode cX7_placeOfLeap 3 = .ok (.getfield 36, 3) := by decide +kernel
theorem dX7_placeOfLeap_6 : decode cX7_placeOfLeap 6 = .ok (.iconst 0, 1) := by decide +kernel
theorem dX7_placeOfLeap_7 : decode cX7_placeOfLeap 7 = .ok (.bipush 7, 2) := by decide +kernel
theorem dX7_placeOfLeap_9 : decode cX7_placeOfLeap 9 = .ok (.invokestatic 97, 3) := by decide +kernel
theorem dX7_placeOfLeap_12 : decode cX7_placeOfLeap 12 = .ok (.aload_n 0, 1) := by decide +kernel
theorem dX7_placeOfLeap_13 : decode cX7_placeOfLeap 13 = .ok (.aload_n 0, 1) := by decide +kernel
theorem dX7_placeOfLeap_14 : decode cX7_placeOfLeap 14 = .ok (.getfield 36, 3) := by decide +kernel
theorem dX7_placeOfLeap_17 : decode cX7_placeOfLeap 17 = .ok (.invokevirtual 103, 3) := by decide +kernel
theorem dX7_placeOfLeap_20 : decode cX7_placeOfLeap 20 = .ok (.istore_n 3, 1) := by decide +kernel
theorem dX7_placeOfLeap_21 : decode cX7_placeOfLeap 21 = .ok (.iload_n 2, 1) := by decide +kernel
theorem dX7_placeOfLeap_22 : decode cX7_placeOfLeap 22 = .ok (.ifCond .lt 8, 3) := by decide +kernel
theorem dX7_placeOfLeap_25 : decode cX7_placeOfLeap 25 = .ok (.iload_n 2, 1) := by decide +kernel
theorem dX7_placeOfLeap_26 : decode cX7_placeOfLeap 26 = .ok (.iload_n 3, 1) := by decide +kernel
theorem dX7_placeOfLeap_27 : decode cX7_placeOfLeap 27 = .ok (.if_icmp .lt 5, 3) := by decide +kernel
theorem dX7_placeOfLeap_30 : decode cX7_placeOfLeap 30 = .ok (.iconst (-1), 1) := by decide +kernel
theorem dX7_placeOfLeap_31 : decode cX7_placeOfLeap 31 = .ok (.ireturn, 1) := by decide +kernel
theorem dX7_placeOfLeap_32 : decode cX7_placeOfLeap 32 = .ok (.aload_n 0, 1) := by decide +kernel
theorem dX7_placeOfLeap_33 : decode cX7_placeOfLeap 33 = .ok (.getfield 36, 3) := by decide +kernel
theorem dX7_placeOfLeap_36 : decode cX7_placeOfLeap 36 = .ok (.aload_n 0, 1) := by decide +kernel
theorem dX7_placeOfLeap_37 : decode cX7_placeOfLeap 37 = .ok (.getfield 39, 3) := by decide +kernel
theorem dX7_placeOfLeap_40 : decode cX7_placeOfLeap 40 = .ok (.aload_n 0, 1) := by decide +kernel
theorem dX7_placeOfLeap_41 : decode cX7_placeOfLeap 41 = .ok (.getfield 39, 3) := by decide +kernel
theorem dX7_placeOfLeap_44 : decode cX7_placeOfLeap 44 = .ok (.iconst 1, 1) := by decide +kernel
theorem dX7_placeOfLeap_45 : decode cX7_placeOfLeap 45 = .ok (.isub, 1) := by decide +kernel
theorem dX7_placeOfLeap_46 : decode cX7_placeOfLeap 46 = .ok (.invokestatic 106, 3) := by decide +kernel
theorem dX7_placeOfLeap_49 : decode cX7_placeOfLeap 49 = .ok (.istore 4, 2) := by decide +kernel
theorem dX7_placeOfLeap_51 : decode cX7_placeOfLeap 51 = .ok (.iconst 0, 1) := by decide +kernel
theorem dX7_placeOfLeap_52 : decode cX7_placeOfLeap 52 = .ok (.istore 5, 2) := by decide +kernel
theorem dX7_placeOfLeap_54 : decode cX7_placeOfLeap 54 = .ok (.iload 5, 2) := by decide +kernel
theorem dX7_placeOfLeap_56 : decode cX7_placeOfLeap 56 = .ok (.iload_n 2, 1) := by decide +kernel
theorem dX7_placeOfLeap_57 : decode cX7_placeOfLeap 57 = .ok (.if_icmp .gt 26, 3) := by decide +kernel
theorem dX7_placeOfLeap_60 : decode cX7_placeOfLeap 60 = .ok (.iload 4, 2) := by decide +kernel
theorem dX7_placeOfLeap_62 : decode cX7_placeOfLeap 62 = .ok (.ifCond .lt 21, 3) := by decide +kernel
theorem dX7_placeOfLeap_65 : decode cX7_placeOfLeap 65 = .ok (.iinc 3 (-1), 3) := by decide +kernel
theorem dX7_placeOfLeap_68 : decode cX7_placeOfLeap 68 = .ok (.aload_n 0, 1) := by decide +kernel
theorem dX7_placeOfLeap_69 : decode cX7_placeOfLeap 69 = .ok (.iload 4, 2) := by decide +kernel
theorem dX7_placeOfLeap_71 : decode cX7_placeOfLeap 71 = .ok (.iload_n 3, 1) := by decide +kernel
theorem dX7_placeOfLeap_72 : decode cX7_placeOfLeap 72 = .ok (.invokevirtual 112, 3) := by decide +kernel
theorem dX7_placeOfLeap_75 : decode cX7_placeOfLeap 75 = .ok (.istore 4, 2) := by decide +kernel
theorem dX7_placeOfLeap_77 : decode cX7_placeOfLeap 77 = .ok (.iinc 5 1, 3) := by decide +kernel
theorem dX7_placeOfLeap_80 : decode cX7_placeOfLeap 80 = .ok (.goto (-26), 3) := by decide +kernel
theorem dX7_placeOfLeap_83 : decode cX7_placeOfLeap 83 = .ok (.iload 4, 2) := by decide +kernel
theorem dX7_placeOfLeap_85 : decode cX7_placeOfLeap 85 = .ok (.ireturn, 1) := by decide +kernel
theorem dX7_leapNearer_0 : decode cX7_leapNearer 0 = .ok (.iconst 0, 1) := by decide +kernel
theorem dX7_leapNearer_1 : decode cX7_leapNearer 1 = .ok (.istore_n 3, 1) := by decide +kernel
theorem dX7_leapNearer_2 : decode cX7_leapNearer 2 = .ok (.iload_n 3, 1) := by decide +kernel
theorem dX7_leapNearer_3 : decode cX7_leapNearer 3 = .ok (.aload_n 0, 1) := by decide +kernel
theorem dX7_leapNearer_4 : decode cX7_leapNearer 4 = .ok (.getfield 39, 3) := by decide +kernel
theorem dX7_leapNearer_7 : decode cX7_leapNearer 7 = .ok (.if_icmp .ge 57, 3) := by decide +kernel
theorem dX7_leapNearer_10 : decode cX7_leapNearer 10 = .ok (.aload_n 0, 1) := by decide +kernel
theorem dX7_leapNearer_11 : decode cX7_leapNearer 11 = .ok (.getfield 43, 3) := by decide +kernel
theorem dX7_leapNearer_14 : decode cX7_leapNearer 14 = .ok (.iload_n 1, 1) := by decide +kernel
theorem dX7_leapNearer_15 : decode cX7_leapNearer 15 = .ok (.iload_n 3, 1) := by decide +kernel
theorem dX7_leapNearer_16 : decode cX7_leapNearer 16 = .ok (.isub, 1) := by decide +kernel
theorem dX7_leapNearer_17 : decode cX7_leapNearer 17 = .ok (.invokestatic 92, 3) := by decide +kernel
theorem dX7_leapNearer_20 : decode cX7_leapNearer 20 = .ok (.ishr, 1) := by decide +kernel
theorem dX7_leapNearer_21 : decode cX7_leapNearer 21 = .ok (.iconst 1, 1) := by decide +kernel
theorem dX7_leapNearer_22 : decode cX7_leapNearer 22 = .ok (.iand, 1) := by decide +kernel
theorem dX7_leapNearer_23 : decode cX7_leapNearer 23 = .ok (.ifCond .eq 35, 3) := by decide +kernel
theorem dX7_leapNearer_26 : decode cX7_leapNearer 26 = .ok (.aload_n 0, 1) := by decide +kernel
theorem dX7_leapNearer_27 : decode cX7_leapNearer 27 = .ok (.getfield 36, 3) := by decide +kernel
theorem dX7_leapNearer_30 : decode cX7_leapNearer 30 = .ok (.iload_n 1, 1) := by decide +kernel
theorem dX7_leapNearer_31 : decode cX7_leapNearer 31 = .ok (.iload_n 3, 1) := by decide +kernel
theorem dX7_leapNearer_32 : decode cX7_leapNearer 32 = .ok (.invokestatic 115, 3) := by decide +kernel
theorem dX7_leapNearer_35 : decode cX7_leapNearer 35 = .ok (.aload_n 0, 1) := by decide +kernel
theorem dX7_leapNearer_36 : decode cX7_leapNearer 36 = .ok (.aload_n 0, 1) := by decide +kernel
theorem dX7_leapNearer_37 : decode cX7_leapNearer 37 = .ok (.getfield 36, 3) := by decide +kernel
theorem dX7_leapNearer_40 : decode cX7_leapNearer 40 = .ok (.invokevirtual 103, 3) := by decide +kernel
theorem dX7_leapNearer_43 : decode cX7_leapNearer 43 = .ok (.iload_n 2, 1) := by decide +kernel
theorem dX7_leapNearer_44 : decode cX7_leapNearer 44 = .ok (.if_icmp .ne 5, 3) := by decide +kernel
theorem dX7_leapNearer_47 : decode cX7_leapNearer 47 = .ok (.iload_n 3, 1) := by decide +kernel
theorem dX7_leapNearer_48 : decode cX7_leapNearer 48 = .ok (.ireturn, 1) := by decide +kernel
theorem dX7_leapNearer_49 : decode cX7_leapNearer 49 = .ok (.aload_n 0, 1) := by decide +kernel
theorem dX7_leapNearer_50 : decode cX7_leapNearer 50 = .ok (.getfield 36, 3) := by decide +kernel
theorem dX7_leapNearer_53 : decode cX7_leapNearer 53 = .ok (.iload_n 1, 1) := by decide +kernel
theorem dX7_leapNearer_54 : decode cX7_leapNearer 54 = .ok (.iload_n 3, 1) := by decide +kernel
theorem dX7_leapNearer_55 : decode cX7_leapNearer 55 = .ok (.invokestatic 115, 3) := by decide +kernel
theorem dX7_leapNearer_58 : decode cX7_leapNearer 58 = .ok (.iinc 3 1, 3) := by decide +kernel
theorem dX7_leapNearer_61 : decode cX7_leapNearer 61 = .ok (.goto (-59), 3) := by decide +kernel
theorem dX7_leapNearer_64 : decode cX7_leapNearer 64 = .ok (.iconst (-1), 1) := by decide +kernel
theorem dX7_leapNearer_65 : decode cX7_leapNearer 65 = .ok (.ireturn, 1) := by decide +kernel
theorem dX8_init_0 : decode cX8_init 0 = .ok (.aload_n 0, 1) := by decide +kernel
theorem dX8_init_1 : decode cX8_init 1 = .ok (.invokespecial 1, 3) := by decide +kernel
theorem dX8_init_4 : decode cX8_init 4 = .ok (.aload_n 0, 1) := by decide +kernel
theorem dX8_init_5 : decode cX8_init 5 = .ok (.iconst 4, 1) := by decide +kernel
theorem dX8_init_6 : decode cX8_init 6 = .ok (.bipush 60, 2) := by decide +kernel
theorem dX8_init_8 : decode cX8_init 8 = .ok (.multianewarray 9 2, 4) := by decide +kernel
theorem dX8_init_12 : decode cX8_init 12 = .ok (.putfield 11, 3) := by decide +kernel
theorem dX8_init_15 : decode cX8_init 15 = .ok (.aload_n 0, 1) := by decide +kernel
theorem dX8_init_16 : decode cX8_init 16 = .ok (.iconst 4, 1) := by decide +kernel
theorem dX8_init_17 : decode cX8_init 17 = .ok (.newarray .int, 2) := by decide +kernel
theorem dX8_init_19 : decode cX8_init 19 = .ok (.putfield 14, 3) := by decide +kernel
theorem dX8_init_22 : decode cX8_init 22 = .ok (.aload_n 0, 1) := by decide +kernel
theorem dX8_init_23 : decode cX8_init 23 = .ok (.iconst 4, 1) := by decide +kernel
theorem dX8_init_24 : decode cX8_init 24 = .ok (.newarray .int, 2) := by decide +kernel
theorem dX8_init_26 : decode cX8_init 26 = .ok (.putfield 18, 3) := by decide +kernel
theorem dX8_init_29 : decode cX8_init 29 = .ok (.aload_n 0, 1) := by decide +kernel
theorem dX8_init_30 : decode cX8_init 30 = .ok (.iconst 4, 1) := by decide +kernel
theorem dX8_init_31 : decode cX8_init 31 = .ok (.newarray .boolean, 2) := by decide +kernel
theorem dX8_init_33 : decode cX8_init 33 = .ok (.putfield 21, 3) := by decide +kernel
theorem dX8_init_36 : decode cX8_init 36 = .ok (.return_, 1) := by decide +kernel
theorem dX8_isSlot_0 : decode cX8_isSlot 0 = .ok (.iload_n 0, 1) := by decide +kernel
theorem dX8_isSlot_1 : decode cX8_isSlot 1 = .ok (.ifCond .lt 12, 3) := by decide +kernel
theorem dX8_isSlot_4 : decode cX8_isSlot 4 = .ok (.iload_n 0, 1) := by decide +kernel
theorem dX8_isSlot_5 : decode cX8_isSlot 5 = .ok (.iconst 4, 1) := by decide +kernel
theorem dX8_isSlot_6 : decode cX8_isSlot 6 = .ok (.if_icmp .ge 7, 3) := by decide +kernel
theorem dX8_isSlot_9 : decode cX8_isSlot 9 = .ok (.iconst 1, 1) := by decide +kernel
theorem dX8_isSlot_10 : decode cX8_isSlot 10 = .ok (.goto 4, 3) := by decide +kernel
theorem dX8_isSlot_13 : decode cX8_isSlot 13 = .ok (.iconst 0, 1) := by decide +kernel
theorem dX8_isSlot_14 : decode cX8_isSlot 14 = .ok (.ireturn, 1) := by decide +kernel
theorem dX8_isWidth_0 : decode cX8_isWidth 0 = .ok (.iload_n 0, 1) := by decide +kernel
theorem dX8_isWidth_1 : decode cX8_isWidth 1 = .ok (.ifCond .lt 12, 3) := by decide +kernel
theorem dX8_isWidth_4 : decode cX8_isWidth 4 = .ok (.iload_n 0, 1) := by decide +kernel
theorem dX8_isWidth_5 : decode cX8_isWidth 5 = .ok (.iconst 4, 1) := by decide +kernel
theorem dX8_isWidth_6 : decode cX8_isWidth 6 = .ok (.if_icmp .ge 7, 3) := by decide +kernel
theorem dX8_isWidth_9 : decode cX8_isWidth 9 = .ok (.iconst 1, 1) := by decide +kernel
theorem dX8_isWidth_10 : decode cX8_isWidth 10 = .ok (.goto 4, 3) := by decide +kernel
theorem dX8_isWidth_13 : decode cX8_isWidth 13 = .ok (.iconst 0, 1) := by decide +kernel
theorem dX8_isWidth_14 : decode cX8_isWidth 14 = .ok (.ireturn, 1) := by decide +kernel
theorem dX8_isFilled_0 : decode cX8_isFilled 0 = .ok (.aload_n 0, 1) := by decide +kernel
theorem dX8_isFilled_1 : decode cX8_isFilled 1 = .ok (.getfield 21, 3) := by decide +kernel
theorem dX8_isFilled_4 : decode cX8_isFilled 4 = .ok (.iload_n 1, 1) := by decide +kernel
theorem dX8_isFilled_5 : decode cX8_isFilled 5 = .ok (.baload, 1) := by decide +kernel
theorem dX8_isFilled_6 : decode cX8_isFilled 6 = .ok (.ireturn, 1) := by decide +kernel
theorem dX8_filled_0 : decode cX8_filled 0 = .ok (.iconst 0, 1) := by decide +kernel
theorem dX8_filled_1 : decode cX8_filled 1 = .ok (.istore_n 1, 1) := by decide +kernel
theorem dX8_filled_2 : decode cX8_filled 2 = .ok (.iconst 0, 1) := by decide +kernel
theorem dX8_filled_3 : decode cX8_filled 3 = .ok (.istore_n 2, 1) := by decide +kernel
theorem dX8_filled_4 : decode cX8_filled 4 = .ok (.iload_n 2, 1) := by decide +kernel
theorem dX8_filled_5 : decode cX8_filled 5 = .ok (.iconst 4, 1) := by decide +kernel
theorem dX8_filled_6 : decode cX8_filled 6 = .ok (.if_icmp .ge 21, 3) := by decide +kernel
theorem dX8_filled_9 : decode cX8_filled 9 = .ok (.aload_n 0, 1) := by decide +kernel
theorem dX8_filled_10 : decode cX8_filled 10 = .ok (.getfield 21, 3) := by decide +kernel
theorem dX8_filled_13 : decode cX8_filled 13 = .ok (.iload_n 2, 1) := by decide +kernel
theorem dX8_filled_14 : decode cX8_filled 14 = .ok (.baload, 1) := by decide +kernel
theorem dX8_filled_15 : decode cX8_filled 15 = .ok (.ifCond .eq 6, 3) := by decide +kernel
theorem dX8_filled_18 : decode cX8_filled 18 = .ok (.iinc 1 1, 3) := by decide +kernel
theorem dX8_filled_21 : decode cX8_filled 21 = .ok (.iinc 2 1, 3) := by decide +kernel
theorem dX8_filled_24 : decode cX8_filled 24 = .ok (.goto (-20), 3) := by decide +kernel
theorem dX8_filled_27 : decode cX8_filled 27 = .ok (.iload_n 1, 1) := by decide +kernel
theorem dX8_filled_28 : decode cX8_filled 28 = .ok (.ireturn, 1) := by decide +kernel
theorem dX8_make_0 : decode cX8_make 0 = .ok (.aload_n 0, 1) := by decide +kernel
theorem dX8_make_1 : decode cX8_make 1 = .ok (.getfield 21, 3) := by decide +kernel
theorem dX8_make_4 : decode cX8_make 4 = .ok (.iload_n 1, 1) := by decide +kernel
theorem dX8_make_5 : decode cX8_make 5 = .ok (.iconst 1, 1) := by decide +kernel
theorem dX8_make_6 : decode cX8_make 6 = .ok (.bastore, 1) := by decide +kernel
theorem dX8_make_7 : decode cX8_make 7 = .ok (.aload_n 0, 1) := by decide +kernel
theorem dX8_make_8 : decode cX8_make 8 = .ok (.getfield 18, 3) := by decide +kernel
theorem dX8_make_11 : decode cX8_make 11 = .ok (.iload_n 1, 1) := by decide +kernel
theorem dX8_make_12 : decode cX8_make 12 = .ok (.iload_n 2, 1) := by decide +kernel
theorem dX8_make_13 : decode cX8_make 13 = .ok (.iastore, 1) := by decide +kernel
theorem dX8_make_14 : decode cX8_make 14 = .ok (.aload_n 0, 1) := by decide +kernel
theorem dX8_make_15 : decode cX8_make 15 = .ok (.getfield 14, 3) := by decide +kernel
theorem dX8_make_18 : decode cX8_make 18 = .ok (.iload_n 1, 1) := by decide +kernel
theorem dX8_make_19 : decode cX8_make 19 = .ok (.iload_n 3, 1) := by decide +kernel
theorem dX8_make_20 : decode cX8_make 20 = .ok (.iastore, 1) := by decide +kernel
theorem dX8_make_21 : decode cX8_make 21 = .ok (.aload_n 0, 1) := by decide +kernel
theorem dX8_make_22 : decode cX8_make 22 = .ok (.getfield 11, 3) := by decide +kernel
theorem dX8_make_25 : decode cX8_make 25 = .ok (.iload_n 1, 1) := by decide +kernel
theorem dX8_make_26 : decode cX8_make 26 = .ok (.aaload, 1) := by decide +kernel
theorem dX8_make_27 : decode cX8_make 27 = .ok (.lconst 0, 1) := by decide +kernel
theorem dX8_make_28 : decode cX8_make 28 = .ok (.invokestatic 25, 3) := by decide +kernel
theorem dX8_make_31 : decode cX8_make 31 = .ok (.return_, 1) := by decide +kernel
theorem dX8_cut_0 : decode cX8_cut 0 = .ok (.iload_n 2, 1) := by decide +kernel
theorem dX8_cut_1 : decode cX8_cut 1 = .ok (.tableswitch 41 0 2 #[27, 32, 37], 27) := by decide +kernel
theorem dX8_cut_28 : decode cX8_cut 28 = .ok (.lload_n 0, 1) := by decide +kernel
theorem dX8_cut_29 : decode cX8_cut 29 = .ok (.l2i, 1) := by decide +kernel
theorem dX8_cut_30 : decode cX8_cut 30 = .ok (.i2b, 1) := by decide +kernel
theorem dX8_cut_31 : decode cX8_cut 31 = .ok (.i2l, 1) := by decide +kernel
theorem dX8_cut_32 : decode cX8_cut 32 = .ok (.lreturn, 1) := by decide +kernel
theorem dX8_cut_33 : decode cX8_cut 33 = .ok (.lload_n 0, 1) := by decide +kernel
theorem dX8_cut_34 : decode cX8_cut 34 = .ok (.l2i, 1) := by decide +kernel
theorem dX8_cut_35 : decode cX8_cut 35 = .ok (.i2s, 1) := by decide +kernel
theorem dX8_cut_36 : decode cX8_cut 36 = .ok (.i2l, 1) := by decide +kernel
theorem dX8_cut_37 : decode cX8_cut 37 = .ok (.lreturn, 1) := by decide +kernel
theorem dX8_cut_38 : decode cX8_cut 38 = .ok (.lload_n 0, 1) := by decide +kernel
theorem dX8_cut_39 : decode cX8_cut 39 = .ok (.l2i, 1) := by decide +kernel
theorem dX8_cut_40 : decode cX8_cut 40 = .ok (.i2l, 1) := by decide +kernel
theorem dX8_cut_41 : decode cX8_cut 41 = .ok (.lreturn, 1) := by decide +kernel
theorem dX8_cut_42 : decode cX8_cut 42 = .ok (.lload_n 0, 1) := by decide +kernel
theorem dX8_cut_43 : decode cX8_cut 43 = .ok (.lreturn, 1) := by decide +kernel
theorem dX8_covers_0 : decode cX8_covers 0 = .ok (.iload_n 2, 1) := by decide +kernel
theorem dX8_covers_1 : decode cX8_covers 1 = .ok (.ifCond .lt 33, 3) := by decide +kernel
theorem dX8_covers_4 : decode cX8_covers 4 = .ok (.iload_n 3, 1) := by decide +kernel
theorem dX8_covers_5 : decode cX8_covers 5 = .ok (.ifCond .lt 29, 3) := by decide +kernel
theorem dX8_covers_8 : decode cX8_covers 8 = .ok (.iload_n 3, 1) := by decide +kernel
theorem dX8_covers_9 : decode cX8_covers 9 = .ok (.aload_n 0, 1) := by decide +kernel
theorem dX8_covers_10 : decode cX8_covers 10 = .ok (.getfield 14, 3) := by decide +kernel
theorem dX8_covers_13 : decode cX8_covers 13 = .ok (.iload_n 1, 1) := by decide +kernel
theorem dX8_covers_14 : decode cX8_covers 14 = .ok (.iaload, 1) := by decide +kernel
theorem dX8_covers_15 : decode cX8_covers 15 = .ok (.if_icmp .gt 19, 3) := by decide +kernel
theorem dX8_covers_18 : decode cX8_covers 18 = .ok (.iload_n 2, 1) := by decide +kernel
theorem dX8_covers_19 : decode cX8_covers 19 = .ok (.aload_n 0, 1) := by decide +kernel
theorem dX8_covers_20 : decode cX8_covers 20 = .ok (.getfield 14, 3) := by decide +kernel
theorem dX8_covers_23 : decode cX8_covers 23 = .ok (.iload_n 1, 1) := by decide +kernel
theorem dX8_covers_24 : decode cX8_covers 24 = .ok (.iaload, 1) := by decide +kernel
theorem dX8_covers_25 : decode cX8_covers 25 = .ok (.iload_n 3, 1) := by decide +kernel
theorem dX8_covers_26 : decode cX8_covers 26 = .ok (.isub, 1) := by decide +kernel
theorem dX8_covers_27 : decode cX8_covers 27 = .ok (.if_icmp .gt 7, 3) := by decide +kernel
theorem dX8_covers_30 : decode cX8_covers 30 = .ok (.iconst 1, 1) := by decide +kernel
theorem dX8_covers_31 : decode cX8_covers 31 = .ok (.goto 4, 3) := by decide +kernel
theorem dX8_covers_34 : decode cX8_covers 34 = .ok (.iconst 0, 1) := by decide +kernel
theorem dX8_covers_35 : decode cX8_covers 35 = .ok (.ireturn, 1) := by decide +kernel
theorem dX8_readHeads_0 : decode cX8_readHeads 0 = .ok (.aload_n 0, 1) := by decide +kernel
theorem dX8_readHeads_1 : decode cX8_readHeads 1 = .ok (.getfield 14, 3) := by decide +kernel
theorem dX8_readHeads_4 : decode cX8_readHeads 4 = .ok (.iload_n 1, 1) := by decide +kernel
theorem dX8_readHeads_5 : decode cX8_readHeads 5 = .ok (.iaload, 1) := by decide +kernel
theorem dX8_readHeads_6 : decode cX8_readHeads 6 = .ok (.iload_n 2, 1) := by decide +kernel
theorem dX8_readHeads_7 : decode cX8_readHeads 7 = .ok (.if_icmp .eq 5, 3) := by decide +kernel
theorem dX8_readHeads_10 : decode cX8_readHeads 10 = .ok (.iconst 0, 1) := by decide +kernel
theorem dX8_readHeads_11 : decode cX8_readHeads 11 = .ok (.ireturn, 1) := by decide +kernel
theorem dX8_readHeads_12 : decode cX8_readHeads 12 = .ok (.iconst 0, 1) := by decide +kernel
theorem dX8_readHeads_13 : decode cX8_readHeads 13 = .ok (.istore 4, 2) := by decide +kernel
theorem dX8_readHeads_15 : decode cX8_readHeads 15 = .ok (.iconst 0, 1) := by decide +kernel
theorem dX8_readHeads_16 : decode cX8_readHeads 16 = .ok (.istore 5, 2) := by decide +kernel
theorem dX8_readHeads_18 : decode cX8_readHeads 18 = .ok (.iload 5, 2) := by decide +kernel
theorem dX8_readHeads_20 : decode cX8_readHeads 20 = .ok (.iload_n 2, 1) := by decide +kernel
theorem dX8_readHeads_21 : decode cX8_readHeads 21 = .ok (.if_icmp .ge 54, 3) := by decide +kernel
theorem dX8_readHeads_24 : decode cX8_readHeads 24 = .ok (.aload_n 0, 1) := by decide +kernel
theorem dX8_readHeads_25 : decode cX8_readHeads 25 = .ok (.getfield 11, 3) := by decide +kernel
theorem dX8_readHeads_28 : decode cX8_readHeads 28 = .ok (.iload_n 1, 1) := by decide +kernel
theorem dX8_readHeads_29 : decode cX8_readHeads 29 = .ok (.aaload, 1) := by decide +kernel
theorem dX8_readHeads_30 : decode cX8_readHeads 30 = .ok (.iload 5, 2) := by decide +kernel
theorem dX8_readHeads_32 : decode cX8_readHeads 32 = .ok (.laload, 1) := by decide +kernel
theorem dX8_readHeads_33 : decode cX8_readHeads 33 = .ok (.lstore 6, 2) := by decide +kernel
theorem dX8_readHeads_35 : decode cX8_readHeads 35 = .ok (.lload 6, 2) := by decide +kernel
theorem dX8_readHeads_37 : decode cX8_readHeads 37 = .ok (.lconst 0, 1) := by decide +kernel
theorem dX8_readHeads_38 : decode cX8_readHeads 38 = .ok (.lcmp, 1) := by decide +kernel
theorem dX8_readHeads_39 : decode cX8_readHeads 39 = .ok (.ifCond .lt 11, 3) := by decide +kernel
theorem dX8_readHeads_42 : decode cX8_readHeads 42 = .ok (.lload 6, 2) := by decide +kernel
theorem dX8_readHeads_44 : decode cX8_readHeads 44 = .ok (.iload_n 2, 1) := by decide +kernel
theorem dX8_readHeads_45 : decode cX8_readHeads 45 = .ok (.i2l, 1) := by decide +kernel
theorem dX8_readHeads_46 : decode cX8_readHeads 46 = .ok (.lcmp, 1) := by decide +kernel
theorem dX8_readHeads_47 : decode cX8_readHeads 47 = .ok (.ifCond .lt 5, 3) := by decide +kernel
theorem dX8_readHeads_50 : decode cX8_readHeads 50 = .ok (.iconst 0, 1) := by decide +kernel
theorem dX8_readHeads_51 : decode cX8_readHeads 51 = .ok (.ireturn, 1) := by decide +kernel
theorem dX8_readHeads_52 : decode cX8_readHeads 52 = .ok (.aload_n 3, 1) := by decide +kernel
theorem dX8_readHeads_53 : decode cX8_readHeads 53 = .ok (.iload 5, 2) := by decide +kernel
theorem dX8_readHeads_55 : decode cX8_readHeads 55 = .ok (.lload 6, 2) := by decide +kernel
theorem dX8_readHeads_57 : decode cX8_readHeads 57 = .ok (.l2i, 1) := by decide +kernel
theorem dX8_readHeads_58 : decode cX8_readHeads 58 = .ok (.iastore, 1) := by decide +kernel
theorem dX8_readHeads_59 : decode cX8_readHeads 59 = .ok (.iload 4, 2) := by decide +kernel
theorem dX8_readHeads_61 : decode cX8_readHeads 61 = .ok (.iconst 1, 1) := by decide +kernel
theorem dX8_readHeads_62 : decode cX8_readHeads 62 = .ok (.lload 6, 2) := by decide +kernel
theorem dX8_readHeads_64 : decode cX8_readHeads 64 = .ok (.l2i, 1) := by decide +kernel
theorem dX8_readHeads_65 : decode cX8_readHeads 65 = .ok (.ishl, 1) := by decide +kernel
theorem dX8_readHeads_66 : decode cX8_readHeads 66 = .ok (.ior, 1) := by decide +kernel
theorem dX8_readHeads_67 : decode cX8_readHeads 67 = .ok (.istore 4, 2) := by decide +kernel
theorem dX8_readHeads_69 : decode cX8_readHeads 69 = .ok (.iinc 5 1, 3) := by decide +kernel
theorem dX8_readHeads_72 : decode cX8_readHeads 72 = .ok (.goto (-54), 3) := by decide +kernel
theorem dX8_readHeads_75 : decode cX8_readHeads 75 = .ok (.iload 4, 2) := by decide +kernel
theorem dX8_readHeads_77 : decode cX8_readHeads 77 = .ok (.iconst 1, 1) := by decide +kernel
theorem dX8_readHeads_78 : decode cX8_readHeads 78 = .ok (.iload_n 2, 1) := by decide +kernel
theorem dX8_readHeads_79 : decode cX8_readHeads 79 = .ok (.ishl, 1) := by decide +kernel
theorem dX8_readHeads_80 : decode cX8_readHeads 80 = .ok (.iconst 1, 1) := by decide +kernel
theorem dX8_readHeads_81 : decode cX8_readHeads 81 = .ok (.isub, 1) := by decide +kernel
theorem dX8_readHeads_82 : decode cX8_readHeads 82 = .ok (.if_icmp .ne 7, 3) := by decide +kernel
theorem dX8_readHeads_85 : decode cX8_readHeads 85 = .ok (.iconst 1, 1) := by decide +kernel
theorem dX8_readHeads_86 : decode cX8_readHeads 86 = .ok (.goto 4, 3) := by decide +kernel
theorem dX8_readHeads_89 : decode cX8_readHeads 89 = .ok (.iconst 0, 1) := by decide +kernel
theorem dX8_readHeads_90 : decode cX8_readHeads 90 = .ok (.ireturn, 1) := by decide +kernel
theorem dX9_init_0 : decode cX9_init 0 = .ok (.aload_n 0, 1) := by decide +kernel
theorem dX9_init_1 : decode cX9_init 1 = .ok (.invokespecial 3, 3) := by decide +kernel
theorem dX9_init_4 : decode cX9_init 4 = .ok (.aload_n 0, 1) := by decide +kernel
theorem dX9_init_5 : decode cX9_init 5 = .ok (.sipush 128, 3) := by decide +kernel
theorem dX9_init_8 : decode cX9_init 8 = .ok (.newarray .int, 2) := by decide +kernel
theorem dX9_init_10 : decode cX9_init 10 = .ok (.putfield 9, 3) := by decide +kernel
theorem dX9_init_13 : decode cX9_init 13 = .ok (.aload_n 0, 1) := by decide +kernel
theorem dX9_init_14 : decode cX9_init 14 = .ok (.sipush 128, 3) := by decide +kernel
theorem dX9_init_17 : decode cX9_init 17 = .ok (.newarray .int, 2) := by decide +kernel
theorem dX9_init_19 : decode cX9_init 19 = .ok (.putfield 15, 3) := by decide +kernel
theorem dX9_init_22 : decode cX9_init 22 = .ok (.aload_n 0, 1) := by decide +kernel
theorem dX9_init_23 : decode cX9_init 23 = .ok (.aconst_null, 1) := by decide +kernel
theorem dX9_init_24 : decode cX9_init 24 = .ok (.putfield 18, 3) := by decide +kernel
theorem dX9_init_27 : decode cX9_init 27 = .ok (.return_, 1) := by decide +kernel
theorem dX9_prepare_0 : decode cX9_prepare 0 = .ok (.aload_n 0, 1) := by decide +kernel
theorem dX9_prepare_1 : decode cX9_prepare 1 = .ok (.aload_n 1, 1) := by decide +kernel
theorem dX9_prepare_2 : decode cX9_prepare 2 = .ok (.putfield 18, 3) := by decide +kernel
theorem dX9_prepare_5 : decode cX9_prepare 5 = .ok (.iconst 1, 1) := by decide +kernel
theorem dX9_prepare_6 : decode cX9_prepare 6 = .ok (.aload_n 1, 1) := by decide +kernel
theorem dX9_prepare_7 : decode cX9_prepare 7 = .ok (.getfield 22, 3) := by decide +kernel
theorem dX9_prepare_10 : decode cX9_prepare 10 = .ok (.ishl, 1) := by decide +kernel
theorem dX9_prepare_11 : decode cX9_prepare 11 = .ok (.iconst 1, 1) := by decide +kernel
theorem dX9_prepare_12 : decode cX9_prepare 12 = .ok (.isub, 1) := by decide +kernel
theorem dX9_prepare_13 : decode cX9_prepare 13 = .ok (.istore_n 2, 1) := by decide +kernel
theorem dX9_prepare_14 : decode cX9_prepare 14 = .ok (.aload_n 0, 1) := by decide +kernel
theorem dX9_prepare_15 : decode cX9_prepare 15 = .ok (.getfield 9, 3) := by decide +kernel
theorem dX9_prepare_18 : decode cX9_prepare 18 = .ok (.iload_n 2, 1) := by decide +kernel
theorem dX9_prepare_19 : decode cX9_prepare 19 = .ok (.iconst 0, 1) := by decide +kernel
theorem dX9_prepare_20 : decode cX9_prepare 20 = .ok (.iastore, 1) := by decide +kernel
theorem dX9_prepare_21 : decode cX9_prepare 21 = .ok (.aload_n 0, 1) := by decide +kernel
theorem dX9_prepare_22 : decode cX9_prepare 22 = .ok (.getfield 15, 3) := by decide +kernel
theorem dX9_prepare_25 : decode cX9_prepare 25 = .ok (.iload_n 2, 1) := by decide +kernel
theorem dX9_prepare_26 : decode cX9_prepare 26 = .ok (.iconst 1, 1) := by decide +kernel
theorem dX9_prepare_27 : decode cX9_prepare 27 = .ok (.iastore, 1) := by decide +kernel
theorem dX9_prepare_28 : decode cX9_prepare 28 = .ok (.iload_n 2, 1) := by decide +kernel
theorem dX9_prepare_29 : decode cX9_prepare 29 = .ok (.iconst 1, 1) := by decide +kernel
theorem dX9_prepare_30 : decode cX9_prepare 30 = .ok (.isub, 1) := by decide +kernel
theorem dX9_prepare_31 : decode cX9_prepare 31 = .ok (.istore_n 3, 1) := by decide +kernel
theorem dX9_prepare_32 : decode cX9_prepare 32 = .ok (.iload_n 3, 1) := by decide +kernel
theorem dX9_prepare_33 : decode cX9_prepare 33 = .ok (.ifCond .lt 15, 3) := by decide +kernel
theorem dX9_prepare_36 : decode cX9_prepare 36 = .ok (.aload_n 0, 1) := by decide +kernel
theorem dX9_prepare_37 : decode cX9_prepare 37 = .ok (.aload_n 1, 1) := by decide +kernel
theorem dX9_prepare_38 : decode cX9_prepare 38 = .ok (.iload_n 3, 1) := by decide +kernel
theorem dX9_prepare_39 : decode cX9_prepare 39 = .ok (.invokevirtual 28, 3) := by decide +kernel
theorem dX9_prepare_42 : decode cX9_prepare 42 = .ok (.iinc 3 (-1), 3) := by decide +kernel
theorem dX9_prepare_45 : decode cX9_prepare 45 = .ok (.goto (-13), 3) := by decide +kernel
theorem dX9_prepare_48 : decode cX9_prepare 48 = .ok (.return_, 1) := by decide +kernel
theorem dX9_weigh_0 : decode cX9_weigh 0 = .ok (.iload_n 2, 1) := by decide +kernel
theorem dX9_weigh_1 : decode cX9_weigh 1 = .ok (.invokestatic 32, 3) := by decide +kernel
theorem dX9_weigh_4 : decode cX9_weigh 4 = .ok (.istore_n 3, 1) := by decide +kernel
theorem dX9_weigh_5 : decode cX9_weigh 5 = .ok (.iconst (-1), 1) := by decide +kernel
theorem dX9_weigh_6 : decode cX9_weigh 6 = .ok (.istore 4, 2) := by decide +kernel
theorem dX9_weigh_8 : decode cX9_weigh 8 = .ok (.iconst 0, 1) := by decide +kernel
theorem dX9_weigh_9 : decode cX9_weigh 9 = .ok (.istore 5, 2) := by decide +kernel
theorem dX9_weigh_11 : decode cX9_weigh 11 = .ok (.iconst 0, 1) := by decide +kernel
theorem dX9_weigh_12 : decode cX9_weigh 12 = .ok (.istore 6, 2) := by decide +kernel
theorem dX9_weigh_14 : decode cX9_weigh 14 = .ok (.iload 6, 2) := by decide +kernel
theorem dX9_weigh_16 : decode cX9_weigh 16 = .ok (.aload_n 1, 1) := by decide +kernel
theorem dX9_weigh_17 : decode cX9_weigh 17 = .ok (.getfield 22, 3) := by decide +kernel
theorem dX9_weigh_20 : decode cX9_weigh 20 = .ok (.if_icmp .ge 80, 3) := by decide +kernel
theorem dX9_weigh_23 : decode cX9_weigh 23 = .ok (.iload_n 2, 1) := by decide +kernel
theorem dX9_weigh_24 : decode cX9_weigh 24 = .ok (.iload 6, 2) := by decide +kernel
theorem dX9_weigh_26 : decode cX9_weigh 26 = .ok (.ishr, 1) := by decide +kernel
theorem dX9_weigh_27 : decode cX9_weigh 27 = .ok (.iconst 1, 1) := by decide +kernel
theorem dX9_weigh_28 : decode cX9_weigh 28 = .ok (.iand, 1) := by decide +kernel
theorem dX9_weigh_29 : decode cX9_weigh 29 = .ok (.ifCond .ne 65, 3) := by decide +kernel
theorem dX9_weigh_32 : decode cX9_weigh 32 = .ok (.iload_n 2, 1) := by decide +kernel
theorem dX9_weigh_33 : decode cX9_weigh 33 = .ok (.iconst 1, 1) := by decide +kernel
theorem dX9_weigh_34 : decode cX9_weigh 34 = .ok (.iload 6, 2) := by decide +kernel
theorem dX9_weigh_36 : decode cX9_weigh 36 = .ok (.ishl, 1) := by decide +kernel
theorem dX9_weigh_37 : decode cX9_weigh 37 = .ok (.ior, 1) := by decide +kernel
theorem dX9_weigh_38 : decode cX9_weigh 38 = .ok (.istore 7, 2) := by decide +kernel
theorem dX9_weigh_40 : decode cX9_weigh 40 = .ok (.aload_n 1, 1) := by decide +kernel
theorem dX9_weigh_41 : decode cX9_weigh 41 = .ok (.iload 6, 2) := by decide +kernel
theorem dX9_weigh_43 : decode cX9_weigh 43 = .ok (.iload_n 3, 1) := by decide +kernel
theorem dX9_weigh_44 : decode cX9_weigh 44 = .ok (.invokevirtual 38, 3) := by decide +kernel
theorem dX9_weigh_47 : decode cX9_weigh 47 = .ok (.aload_n 0, 1) := by decide +kernel
theorem dX9_weigh_48 : decode cX9_weigh 48 = .ok (.getfield 9, 3) := by decide +kernel
theorem dX9_weigh_51 : decode cX9_weigh 51 = .ok (.iload 7, 2) := by decide +kernel
theorem dX9_weigh_53 : decode cX9_weigh 53 = .ok (.iaload, 1) := by decide +kernel
theorem dX9_weigh_54 : decode cX9_weigh 54 = .ok (.iadd, 1) := by decide +kernel
theorem dX9_weigh_55 : decode cX9_weigh 55 = .ok (.istore 8, 2) := by decide +kernel
theorem dX9_weigh_57 : decode cX9_weigh 57 = .ok (.iload 8, 2) := by decide +kernel
theorem dX9_weigh_59 : decode cX9_weigh 59 = .ok (.iload 4, 2) := by decide +kernel
theorem dX9_weigh_61 : decode cX9_weigh 61 = .ok (.if_icmp .le 10, 3) := by decide +kernel
theorem dX9_weigh_64 : decode cX9_weigh 64 = .ok (.iload 8, 2) := by decide +kernel
theorem dX9_weigh_66 : decode cX9_weigh 66 = .ok (.istore 4, 2) := by decide +kernel
theorem dX9_weigh_68 : decode cX9_weigh 68 = .ok (.iconst 0, 1) := by decide +kernel
theorem dX9_weigh_69 : decode cX9_weigh 69 = .ok (.istore 5, 2) := by decide +kernel
theorem dX9_weigh_71 : decode cX9_weigh 71 = .ok (.iload 5, 2) := by decide +kernel
theorem dX9_weigh_73 : decode cX9_weigh 73 = .ok (.iload 8, 2) := by decide +kernel
theorem dX9_weigh_75 : decode cX9_weigh 75 = .ok (.iload 4, 2) := by decide +kernel
theorem dX9_weigh_77 : decode cX9_weigh 77 = .ok (.if_icmp .ne 13, 3) := by decide +kernel
theorem dX9_weigh_80 : decode cX9_weigh 80 = .ok (.aload_n 0, 1) := by decide +kernel
theorem dX9_weigh_81 : decode cX9_weigh 81 = .ok (.getfield 15, 3) := by decide +kernel
theorem dX9_weigh_84 : decode cX9_weigh 84 = .ok (.iload 7, 2) := by decide +kernel
theorem dX9_weigh_86 : decode cX9_weigh 86 = .ok (.iaload, 1) := by decide +kernel
theorem dX9_weigh_87 : decode cX9_weigh 87 = .ok (.goto 4, 3) := by decide +kernel
theorem dX9_weigh_90 : decode cX9_weigh 90 = .ok (.iconst 0, 1) := by decide +kernel
theorem dX9_weigh_91 : decode cX9_weigh 91 = .ok (.iadd, 1) := by decide +kernel
theorem dX9_weigh_92 : decode cX9_weigh 92 = .ok (.istore 5, 2) := by decide +kernel
theorem dX9_weigh_94 : decode cX9_weigh 94 = .ok (.iinc 6 1, 3) := by decide +kernel
theorem dX9_weigh_97 : decode cX9_weigh 97 = .ok (.goto (-83), 3) := by decide +kernel
theorem dX9_weigh_100 : decode cX9_weigh 100 = .ok (.aload_n 0, 1) := by decide +kernel
theorem dX9_weigh_101 : decode cX9_weigh 101 = .ok (.getfield 9, 3) := by decide +kernel
theorem dX9_weigh_104 : decode cX9_weigh 104 = .ok (.iload_n 2, 1) := by decide +kernel
theorem dX9_weigh_105 : decode cX9_weigh 105 = .ok (.iload 4, 2) := by decide +kernel
theorem dX9_weigh_107 : decode cX9_weigh 107 = .ok (.iastore, 1) := by decide +kernel
theorem dX9_weigh_108 : decode cX9_weigh 108 = .ok (.aload_n 0, 1) := by decide +kernel
theorem dX9_weigh_109 : decode cX9_weigh 109 = .ok (.getfield 15, 3) := by decide +kernel
theorem dX9_weigh_112 : decode cX9_weigh 112 = .ok (.iload_n 2, 1) := by decide +kernel
theorem dX9_weigh_113 : decode cX9_weigh 113 = .ok (.iload 5, 2) := by decide +kernel
theorem dX9_weigh_115 : decode cX9_weigh 115 = .ok (.iastore, 1) := by decide +kernel
theorem dX9_weigh_116 : decode cX9_weigh 116 = .ok (.return_, 1) := by decide +kernel
theorem dX9_leastRowHead_0 : decode cX9_leastRowHead 0 = .ok (.iconst 0, 1) := by decide +kernel
theorem dX9_leastRowHead_1 : decode cX9_leastRowHead 1 = .ok (.istore_n 2, 1) := by decide +kernel
theorem dX9_leastRowHead_2 : decode cX9_leastRowHead 2 = .ok (.iconst (-1), 1) := by decide +kernel
theorem dX9_leastRowHead_3 : decode cX9_leastRowHead 3 = .ok (.istore_n 3, 1) := by decide +kernel
theorem dX9_leastRowHead_4 : decode cX9_leastRowHead 4 = .ok (.iconst 0, 1) := by decide +kernel
theorem dX9_leastRowHead_5 : decode cX9_leastRowHead 5 = .ok (.istore 4, 2) := by decide +kernel
theorem dX9_leastRowHead_7 : decode cX9_leastRowHead 7 = .ok (.iload 4, 2) := by decide +kernel
theorem dX9_leastRowHead_9 : decode cX9_leastRowHead 9 = .ok (.iload_n 1, 1) := by decide +kernel
theorem dX9_leastRowHead_10 : decode cX9_leastRowHead 10 = .ok (.if_icmp .gt 30, 3) := by decide +kernel
theorem dX9_leastRowHead_13 : decode cX9_leastRowHead 13 = .ok (.aload_n 0, 1) := by decide +kernel
theorem dX9_leastRowHead_14 : decode cX9_leastRowHead 14 = .ok (.iload_n 2, 1) := by decide +kernel
theorem dX9_leastRowHead_15 : decode cX9_leastRowHead 15 = .ok (.iload 4, 2) := by decide +kernel
theorem dX9_leastRowHead_17 : decode cX9_leastRowHead 17 = .ok (.invokevirtual 42, 3) := by decide +kernel
theorem dX9_leastRowHead_20 : decode cX9_leastRowHead 20 = .ok (.istore_n 3, 1) := by decide +kernel
theorem dX9_leastRowHead_21 : decode cX9_leastRowHead 21 = .ok (.iload_n 3, 1) := by decide +kernel
theorem dX9_leastRowHead_22 : decode cX9_leastRowHead 22 = .ok (.iconst (-1), 1) := by decide +kernel
theorem dX9_leastRowHead_23 : decode cX9_leastRowHead 23 = .ok (.if_icmp .ne 5, 3) := by decide +kernel
theorem dX9_leastRowHead_26 : decode cX9_leastRowHead 26 = .ok (.iconst (-1), 1) := by decide +kernel
theorem dX9_leastRowHead_27 : decode cX9_leastRowHead 27 = .ok (.ireturn, 1) := by decide +kernel
theorem dX9_leastRowHead_28 : decode cX9_leastRowHead 28 = .ok (.iload_n 2, 1) := by decide +kernel
theorem dX9_leastRowHead_29 : decode cX9_leastRowHead 29 = .ok (.iconst 1, 1) := by decide +kernel
theorem dX9_leastRowHead_30 : decode cX9_leastRowHead 30 = .ok (.iload_n 3, 1) := by decide +kernel
theorem dX9_leastRowHead_31 : decode cX9_leastRowHead 31 = .ok (.ishl, 1) := by decide +kernel
theorem dX9_leastRowHead_32 : decode cX9_leastRowHead 32 = .ok (.ior, 1) := by decide +kernel
theorem dX9_leastRowHead_33 : decode cX9_leastRowHead 33 = .ok (.istore_n 2, 1) := by decide +kernel
theorem dX9_leastRowHead_34 : decode cX9_leastRowHead 34 = .ok (.iinc 4 1, 3) := by decide +kernel
theorem dX9_leastRowHead_37 : decode cX9_leastRowHead 37 = .ok (.goto (-30), 3) := by decide +kernel
theorem dX9_leastRowHead_40 : decode cX9_leastRowHead 40 = .ok (.iload_n 3, 1) := by decide +kernel
theorem dX9_leastRowHead_41 : decode cX9_leastRowHead 41 = .ok (.ireturn, 1) := by decide +kernel
theorem dX9_leastNext_0 : decode cX9_leastNext 0 = .ok (.aload_n 0, 1) := by decide +kernel
theorem dX9_leastNext_1 : decode cX9_leastNext 1 = .ok (.getfield 18, 3) := by decide +kernel
theorem dX9_leastNext_4 : decode cX9_leastNext 4 = .ok (.ifnonnull 5, 3) := by decide +kernel
theorem dX9_leastNext_7 : decode cX9_leastNext 7 = .ok (.iconst (-1), 1) := by decide +kernel
theorem dX9_leastNext_8 : decode cX9_leastNext 8 = .ok (.ireturn, 1) := by decide +kernel
theorem dX9_leastNext_9 : decode cX9_leastNext 9 = .ok (.iconst 0, 1) := by decide +kernel
theorem dX9_leastNext_10 : decode cX9_leastNext 10 = .ok (.istore_n 3, 1) := by decide +kernel
theorem dX9_leastNext_11 : decode cX9_leastNext 11 = .ok (.iload_n 3, 1) := by decide +kernel
theorem dX9_leastNext_12 : decode cX9_leastNext 12 = .ok (.aload_n 0, 1) := by decide +kernel
theorem dX9_leastNext_13 : decode cX9_leastNext 13 = .ok (.getfield 18, 3) := by decide +kernel
theorem dX9_leastNext_16 : decode cX9_leastNext 16 = .ok (.getfield 22, 3) := by decide +kernel
theorem dX9_leastNext_19 : decode cX9_leastNext 19 = .ok (.if_icmp .ge 60, 3) := by decide +kernel
theorem dX9_leastNext_22 : decode cX9_leastNext 22 = .ok (.iload_n 1, 1) := by decide +kernel
theorem dX9_leastNext_23 : decode cX9_leastNext 23 = .ok (.iload_n 3, 1) := by decide +kernel
theorem dX9_leastNext_24 : decode cX9_leastNext 24 = .ok (.ishr, 1) := by decide +kernel
theorem dX9_leastNext_25 : decode cX9_leastNext 25 = .ok (.iconst 1, 1) := by decide +kernel
theorem dX9_leastNext_26 : decode cX9_leastNext 26 = .ok (.iand, 1) := by decide +kernel
theorem dX9_leastNext_27 : decode cX9_leastNext 27 = .ok (.ifCond .ne 7, 3) := by decide +kernel
theorem dX9_leastNext_30 : decode cX9_leastNext 30 = .ok (.iconst 1, 1) := by decide +kernel
theorem dX9_leastNext_31 : decode cX9_leastNext 31 = .ok (.goto 4, 3) := by decide +kernel
theorem dX9_leastNext_34 : decode cX9_leastNext 34 = .ok (.iconst 0, 1) := by decide +kernel
theorem dX9_leastNext_35 : decode cX9_leastNext 35 = .ok (.istore 4, 2) := by decide +kernel
theorem dX9_leastNext_37 : decode cX9_leastNext 37 = .ok (.iload 4, 2) := by decide +kernel
theorem dX9_leastNext_39 : decode cX9_leastNext 39 = .ok (.ifCond .eq 34, 3) := by decide +kernel
theorem dX9_leastNext_42 : decode cX9_leastNext 42 = .ok (.aload_n 0, 1) := by decide +kernel
theorem dX9_leastNext_43 : decode cX9_leastNext 43 = .ok (.getfield 18, 3) := by decide +kernel
theorem dX9_leastNext_46 : decode cX9_leastNext 46 = .ok (.iload_n 3, 1) := by decide +kernel
theorem dX9_leastNext_47 : decode cX9_leastNext 47 = .ok (.iload_n 2, 1) := by decide +kernel
theorem dX9_leastNext_48 : decode cX9_leastNext 48 = .ok (.invokevirtual 38, 3) := by decide +kernel
theorem dX9_leastNext_51 : decode cX9_leastNext 51 = .ok (.aload_n 0, 1) := by decide +kernel
theorem dX9_leastNext_52 : decode cX9_leastNext 52 = .ok (.getfield 9, 3) := by decide +kernel
theorem dX9_leastNext_55 : decode cX9_leastNext 55 = .ok (.iload_n 1, 1) := by decide +kernel
theorem dX9_leastNext_56 : decode cX9_leastNext 56 = .ok (.iconst 1, 1) := by decide +kernel
theorem dX9_leastNext_57 : decode cX9_leastNext 57 = .ok (.iload_n 3, 1) := by decide +kernel
theorem dX9_leastNext_58 : decode cX9_leastNext 58 = .ok (.ishl, 1) := by decide +kernel
theorem dX9_leastNext_59 : decode cX9_leastNext 59 = .ok (.ior, 1) := by decide +kernel
theorem dX9_leastNext_60 : decode cX9_leastNext 60 = .ok (.iaload, 1) := by decide +kernel
theorem dX9_leastNext_61 : decode cX9_leastNext 61 = .ok (.iadd, 1) := by decide +kernel
theorem dX9_leastNext_62 : decode cX9_leastNext 62 = .ok (.aload_n 0, 1) := by decide +kernel
theorem dX9_leastNext_63 : decode cX9_leastNext 63 = .ok (.getfield 9, 3) := by decide +kernel
theorem dX9_leastNext_66 : decode cX9_leastNext 66 = .ok (.iload_n 1, 1) := by decide +kernel
theorem dX9_leastNext_67 : decode cX9_leastNext 67 = .ok (.iaload, 1) := by decide +kernel
theorem dX9_leastNext_68 : decode cX9_leastNext 68 = .ok (.if_icmp .ne 5, 3) := by decide +kernel
theorem dX9_leastNext_71 : decode cX9_leastNext 71 = .ok (.iload_n 3, 1) := by decide +kernel
theorem dX9_leastNext_72 : decode cX9_leastNext 72 = .ok (.ireturn, 1) := by decide +kernel
theorem dX9_leastNext_73 : decode cX9_leastNext 73 = .ok (.iinc 3 1, 3) := by decide +kernel
theorem dX9_leastNext_76 : decode cX9_leastNext 76 = .ok (.goto (-65), 3) := by decide +kernel
theorem dX9_leastNext_79 : decode cX9_leastNext 79 = .ok (.iconst (-1), 1) := by decide +kernel
theorem dX9_leastNext_80 : decode cX9_leastNext 80 = .ok (.ireturn, 1) := by decide +kernel
theorem dX10_init_0 : decode cX10_init 0 = .ok (.aload_n 0, 1) := by decide +kernel
theorem dX10_init_1 : decode cX10_init 1 = .ok (.invokespecial 3, 3) := by decide +kernel
theorem dX10_init_4 : decode cX10_init 4 = .ok (.aload_n 0, 1) := by decide +kernel
theorem dX10_init_5 : decode cX10_init 5 = .ok (.sipush 800, 3) := by decide +kernel
theorem dX10_init_8 : decode cX10_init 8 = .ok (.newarray .byte, 2) := by decide +kernel
theorem dX10_init_10 : decode cX10_init 10 = .ok (.putfield 11, 3) := by decide +kernel
theorem dX10_init_13 : decode cX10_init 13 = .ok (.aload_n 0, 1) := by decide +kernel
theorem dX10_init_14 : decode cX10_init 14 = .ok (.iconst 0, 1) := by decide +kernel
theorem dX10_init_15 : decode cX10_init 15 = .ok (.putfield 15, 3) := by decide +kernel
theorem dX10_init_18 : decode cX10_init 18 = .ok (.aload_n 0, 1) := by decide +kernel
theorem dX10_init_19 : decode cX10_init 19 = .ok (.iconst 0, 1) := by decide +kernel
theorem dX10_init_20 : decode cX10_init 20 = .ok (.putfield 19, 3) := by decide +kernel
theorem dX10_init_23 : decode cX10_init 23 = .ok (.aload_n 0, 1) := by decide +kernel
theorem dX10_init_24 : decode cX10_init 24 = .ok (.iconst (-1), 1) := by decide +kernel
theorem dX10_init_25 : decode cX10_init 25 = .ok (.putfield 22, 3) := by decide +kernel
theorem dX10_init_28 : decode cX10_init 28 = .ok (.aload_n 0, 1) := by decide +kernel
theorem dX10_init_29 : decode cX10_init 29 = .ok (.iconst 0, 1) := by decide +kernel
theorem dX10_init_30 : decode cX10_init 30 = .ok (.putfield 25, 3) := by decide +kernel
theorem dX10_init_33 : decode cX10_init 33 = .ok (.aload_n 0, 1) := by decide +kernel
theorem dX10_init_34 : decode cX10_init 34 = .ok (.iconst 0, 1) := by decide +kernel
theorem dX10_init_35 : decode cX10_init 35 = .ok (.putfield 28, 3) := by decide +kernel
theorem dX10_init_38 : decode cX10_init 38 = .ok (.aload_n 0, 1) := by decide +kernel
theorem dX10_init_39 : decode cX10_init 39 = .ok (.iconst 0, 1) := by decide +kernel
theorem dX10_init_40 : decode cX10_init 40 = .ok (.putfield 31, 3) := by decide +kernel
theorem dX10_init_43 : decode cX10_init 43 = .ok (.aload_n 0, 1) := by decide +kernel
theorem dX10_init_44 : decode cX10_init 44 = .ok (.iconst 0, 1) := by decide +kernel
theorem dX10_init_45 : decode cX10_init 45 = .ok (.putfield 34, 3) := by decide +kernel
theorem dX10_init_48 : decode cX10_init 48 = .ok (.aload_n 0, 1) := by decide +kernel
theorem dX10_init_49 : decode cX10_init 49 = .ok (.iconst 0, 1) := by decide +kernel
theorem dX10_init_50 : decode cX10_init 50 = .ok (.putfield 37, 3) := by decide +kernel
theorem dX10_init_53 : decode cX10_init 53 = .ok (.aload_n 0, 1) := by decide +kernel
theorem dX10_init_54 : decode cX10_init 54 = .ok (.iconst 0, 1) := by decide +kernel
theorem dX10_init_55 : decode cX10_init 55 = .ok (.putfield 40, 3) := by decide +kernel
theorem dX10_init_58 : decode cX10_init 58 = .ok (.return_, 1) := by decide +kernel
theorem dX10_hasRoom_0 : decode cX10_hasRoom 0 = .ok (.aload_n 0, 1) := by decide +kernel
theorem dX10_hasRoom_1 : decode cX10_hasRoom 1 = .ok (.getfield 15, 3) := by decide +kernel
theorem dX10_hasRoom_4 : decode cX10_hasRoom 4 = .ok (.ifCond .lt 20, 3) := by decide +kernel
theorem dX10_hasRoom_7 : decode cX10_hasRoom 7 = .ok (.aload_n 0, 1) := by decide +kernel
theorem dX10_hasRoom_8 : decode cX10_hasRoom 8 = .ok (.getfield 15, 3) := by decide +kernel
theorem dX10_hasRoom_11 : decode cX10_hasRoom 11 = .ok (.bipush 20, 2) := by decide +kernel
theorem dX10_hasRoom_13 : decode cX10_hasRoom 13 = .ok (.iadd, 1) := by decide +kernel
theorem dX10_hasRoom_14 : decode cX10_hasRoom 14 = .ok (.sipush 800, 3) := by decide +kernel
theorem dX10_hasRoom_17 : decode cX10_hasRoom 17 = .ok (.if_icmp .gt 7, 3) := by decide +kernel
theorem dX10_hasRoom_20 : decode cX10_hasRoom 20 = .ok (.iconst 1, 1) := by decide +kernel
theorem dX10_hasRoom_21 : decode cX10_hasRoom 21 = .ok (.goto 4, 3) := by decide +kernel
theorem dX10_hasRoom_24 : decode cX10_hasRoom 24 = .ok (.iconst 0, 1) := by decide +kernel
theorem dX10_hasRoom_25 : decode cX10_hasRoom 25 = .ok (.ireturn, 1) := by decide +kernel
theorem dX10_put_0 : decode cX10_put 0 = .ok (.bipush 24, 2) := by decide +kernel
theorem dX10_put_2 : decode cX10_put 2 = .ok (.istore_n 2, 1) := by decide +kernel
theorem dX10_put_3 : decode cX10_put 3 = .ok (.iload_n 2, 1) := by decide +kernel
theorem dX10_put_4 : decode cX10_put 4 = .ok (.ifCond .lt 42, 3) := by decide +kernel
theorem dX10_put_7 : decode cX10_put 7 = .ok (.aload_n 0, 1) := by decide +kernel
theorem dX10_put_8 : decode cX10_put 8 = .ok (.getfield 15, 3) := by decide +kernel
theorem dX10_put_11 : decode cX10_put 11 = .ok (.sipush 800, 3) := by decide +kernel
theorem dX10_put_14 : decode cX10_put 14 = .ok (.if_icmp .ge 32, 3) := by decide +kernel
theorem dX10_put_17 : decode cX10_put 17 = .ok (.aload_n 0, 1) := by decide +kernel
theorem dX10_put_18 : decode cX10_put 18 = .ok (.getfield 11, 3) := by decide +kernel
theorem dX10_put_21 : decode cX10_put 21 = .ok (.aload_n 0, 1) := by decide +kernel
theorem dX10_put_22 : decode cX10_put 22 = .ok (.getfield 15, 3) := by decide +kernel
theorem dX10_put_25 : decode cX10_put 25 = .ok (.iload_n 1, 1) := by decide +kernel
theorem dX10_put_26 : decode cX10_put 26 = .ok (.iload_n 2, 1) := by decide +kernel
theorem dX10_put_27 : decode cX10_put 27 = .ok (.ishr, 1) := by decide +kernel
theorem dX10_put_28 : decode cX10_put 28 = .ok (.i2b, 1) := by decide +kernel
theorem dX10_put_29 : decode cX10_put 29 = .ok (.bastore, 1) := by decide +kernel
theorem dX10_put_30 : decode cX10_put 30 = .ok (.aload_n 0, 1) := by decide +kernel
theorem dX10_put_31 : decode cX10_put 31 = .ok (.dup, 1) := by decide +kernel
theorem dX10_put_32 : decode cX10_put 32 = .ok (.getfield 15, 3) := by decide +kernel
theorem dX10_put_35 : decode cX10_put 35 = .ok (.iconst 1, 1) := by decide +kernel
theorem dX10_put_36 : decode cX10_put 36 = .ok (.iadd, 1) := by decide +kernel
theorem dX10_put_37 : decode cX10_put 37 = .ok (.putfield 15, 3) := by decide +kernel
theorem dX10_put_40 : decode cX10_put 40 = .ok (.iinc 2 (-8), 3) := by decide +kernel
theorem dX10_put_43 : decode cX10_put 43 = .ok (.goto (-40), 3) := by decide +kernel
theorem dX10_put_46 : decode cX10_put 46 = .ok (.return_, 1) := by decide +kernel
theorem dX10_readInto_0 : decode cX10_readInto 0 = .ok (.aload_n 0, 1) := by decide +kernel
theorem dX10_readInto_1 : decode cX10_readInto 1 = .ok (.iconst 0, 1) := by decide +kernel
theorem dX10_readInto_2 : decode cX10_readInto 2 = .ok (.putfield 19, 3) := by decide +kernel
theorem dX10_readInto_5 : decode cX10_readInto 5 = .ok (.aload_n 0, 1) := by decide +kernel
theorem dX10_readInto_6 : decode cX10_readInto 6 = .ok (.iconst (-1), 1) := by decide +kernel
theorem dX10_readInto_7 : decode cX10_readInto 7 = .ok (.putfield 22, 3) := by decide +kernel
theorem dX10_readInto_10 : decode cX10_readInto 10 = .ok (.aload_n 0, 1) := by decide +kernel
theorem dX10_readInto_11 : decode cX10_readInto 11 = .ok (.iconst 0, 1) := by decide +kernel
theorem dX10_readInto_12 : decode cX10_readInto 12 = .ok (.putfield 25, 3) := by decide +kernel
theorem dX10_readInto_15 : decode cX10_readInto 15 = .ok (.aload_n 1, 1) := by decide +kernel
theorem dX10_readInto_16 : decode cX10_readInto 16 = .ok (.invokevirtual 43, 3) := by decide +kernel
theorem dX10_readInto_19 : decode cX10_readInto 19 = .ok (.aload_n 0, 1) := by decide +kernel
theorem dX10_readInto_20 : decode cX10_readInto 20 = .ok (.invokevirtual 48, 3) := by decide +kernel
theorem dX10_readInto_23 : decode cX10_readInto 23 = .ok (.iconst 0, 1) := by decide +kernel
theorem dX10_readInto_24 : decode cX10_readInto 24 = .ok (.istore_n 2, 1) := by decide +kernel
theorem dX10_readInto_25 : decode cX10_readInto 25 = .ok (.iload_n 2, 1) := by decide +kernel
theorem dX10_readInto_26 : decode cX10_readInto 26 = .ok (.sipush 800, 3) := by decide +kernel
theorem dX10_readInto_29 : decode cX10_readInto 29 = .ok (.if_icmp .gt 28, 3) := by decide +kernel
theorem dX10_readInto_32 : decode cX10_readInto 32 = .ok (.aload_n 0, 1) := by decide +kernel
theorem dX10_readInto_33 : decode cX10_readInto 33 = .ok (.getfield 28, 3) := by decide +kernel
theorem dX10_readInto_36 : decode cX10_readInto 36 = .ok (.ifCond .eq 21, 3) := by decide +kernel
theorem dX10_readInto_39 : decode cX10_readInto 39 = .ok (.aload_n 0, 1) := by decide +kernel
theorem dX10_readInto_40 : decode cX10_readInto 40 = .ok (.getfield 19, 3) := by decide +kernel
theorem dX10_readInto_43 : decode cX10_readInto 43 = .ok (.ifCond .ne 14, 3) := by decide +kernel
theorem dX10_readInto_46 : decode cX10_readInto 46 = .ok (.aload_n 0, 1) := by decide +kernel
theorem dX10_readInto_47 : decode cX10_readInto 47 = .ok (.aload_n 1, 1) := by decide +kernel
theorem dX10_readInto_48 : decode cX10_readInto 48 = .ok (.invokevirtual 51, 3) := by decide +kernel
theorem dX10_readInto_51 : decode cX10_readInto 51 = .ok (.iinc 2 1, 3) := by decide +kernel
theorem dX10_readInto_54 : decode cX10_readInto 54 = .ok (.goto (-29), 3) := by decide +kernel
theorem dX10_readInto_57 : decode cX10_readInto 57 = .ok (.aload_n 1, 1) := by decide +kernel
theorem dX10_readInto_58 : decode cX10_readInto 58 = .ok (.getfield 55, 3) := by decide +kernel
theorem dX10_readInto_61 : decode cX10_readInto 61 = .ok (.ifCond .ne 8, 3) := by decide +kernel
theorem dX10_readInto_64 : decode cX10_readInto 64 = .ok (.aload_n 1, 1) := by decide +kernel
theorem dX10_readInto_65 : decode cX10_readInto 65 = .ok (.iconst 2, 1) := by decide +kernel
theorem dX10_readInto_66 : decode cX10_readInto 66 = .ok (.putfield 55, 3) := by decide +kernel
theorem dX10_readInto_69 : decode cX10_readInto 69 = .ok (.return_, 1) := by decide +kernel
theorem dX10_readLine_0 : decode cX10_readLine 0 = .ok (.aload_n 1, 1) := by decide +kernel
theorem dX10_readLine_1 : decode cX10_readLine 1 = .ok (.getfield 58, 3) := by decide +kernel
theorem dX10_readLine_4 : decode cX10_readLine 4 = .ok (.ifCond .ne 12, 3) := by decide +kernel
theorem dX10_readLine_7 : decode cX10_readLine 7 = .ok (.aload_n 0, 1) := by decide +kernel
theorem dX10_readLine_8 : decode cX10_readLine 8 = .ok (.aload_n 1, 1) := by decide +kernel
theorem dX10_readLine_9 : decode cX10_readLine 9 = .ok (.invokevirtual 61, 3) := by decide +kernel
theorem dX10_readLine_12 : decode cX10_readLine 12 = .ok (.istore_n 2, 1) := by decide +kernel
theorem dX10_readLine_13 : decode cX10_readLine 13 = .ok (.goto 99, 3) := by decide +kernel
theorem dX10_readLine_16 : decode cX10_readLine 16 = .ok (.aload_n 0, 1) := by decide +kernel
theorem dX10_readLine_17 : decode cX10_readLine 17 = .ok (.ldc 65, 2) := by decide +kernel
theorem dX10_readLine_19 : decode cX10_readLine 19 = .ok (.invokevirtual 67, 3) := by decide +kernel
theorem dX10_readLine_22 : decode cX10_readLine 22 = .ok (.ifCond .eq 12, 3) := by decide +kernel
theorem dX10_readLine_25 : decode cX10_readLine 25 = .ok (.aload_n 0, 1) := by decide +kernel
theorem dX10_readLine_26 : decode cX10_readLine 26 = .ok (.aload_n 1, 1) := by decide +kernel
theorem dX10_readLine_27 : decode cX10_readLine 27 = .ok (.invokevirtual 71, 3) := by decide +kernel
theorem dX10_readLine_30 : decode cX10_readLine 30 = .ok (.istore_n 2, 1) := by decide +kernel
theorem dX10_readLine_31 : decode cX10_readLine 31 = .ok (.goto 81, 3) := by decide +kernel
theorem dX10_readLine_34 : decode cX10_readLine 34 = .ok (.aload_n 0, 1) := by decide +kernel
theorem dX10_readLine_35 : decode cX10_readLine 35 = .ok (.ldc 74, 2) := by decide +kernel
theorem dX10_readLine_37 : decode cX10_readLine 37 = .ok (.invokevirtual 67, 3) := by decide +kernel
theorem dX10_readLine_40 : decode cX10_readLine 40 = .ok (.ifCond .eq 12, 3) := by decide +kernel
theorem dX10_readLine_43 : decode cX10_readLine 43 = .ok (.aload_n 0, 1) := by decide +kernel
theorem dX10_readLine_44 : decode cX10_readLine 44 = .ok (.aload_n 1, 1) := by decide +kernel
theorem dX10_readLine_45 : decode cX10_readLine 45 = .ok (.invokevirtual 76, 3) := by decide +kernel
theorem dX10_readLine_48 : decode cX10_readLine 48 = .ok (.istore_n 2, 1) := by decide +kernel
theorem dX10_readLine_49 : decode cX10_readLine 49 = .ok (.goto 63, 3) := by decide +kernel
theorem dX10_readLine_52 : decode cX10_readLine 52 = .ok (.aload_n 0, 1) := by decide +kernel
theorem dX10_readLine_53 : decode cX10_readLine 53 = .ok (.ldc 79, 2) := by decide +kernel
theorem dX10_readLine_55 : decode cX10_readLine 55 = .ok (.invokevirtual 67, 3) := by decide +kernel
theorem dX10_readLine_58 : decode cX10_readLine 58 = .ok (.ifCond .eq 12, 3) := by decide +kernel
theorem dX10_readLine_61 : decode cX10_readLine 61 = .ok (.aload_n 0, 1) := by decide +kernel
theorem dX10_readLine_62 : decode cX10_readLine 62 = .ok (.aload_n 1, 1) := by decide +kernel
theorem dX10_readLine_63 : decode cX10_readLine 63 = .ok (.invokevirtual 81, 3) := by decide +kernel
theorem dX10_readLine_66 : decode cX10_readLine 66 = .ok (.istore_n 2, 1) := by decide +kernel
theorem dX10_readLine_67 : decode cX10_readLine 67 = .ok (.goto 45, 3) := by decide +kernel
theorem dX10_readLine_70 : decode cX10_readLine 70 = .ok (.aload_n 0, 1) := by decide +kernel
theorem dX10_readLine_71 : decode cX10_readLine 71 = .ok (.ldc 84, 2) := by decide +kernel
theorem dX10_readLine_73 : decode cX10_readLine 73 = .ok (.invokevirtual 67, 3) := by decide +kernel
theorem dX10_readLine_76 : decode cX10_readLine 76 = .ok (.ifCond .eq 12, 3) := by decide +kernel
theorem dX10_readLine_79 : decode cX10_readLine 79 = .ok (.aload_n 0, 1) := by decide +kernel
theorem dX10_readLine_80 : decode cX10_readLine 80 = .ok (.aload_n 1, 1) := by decide +kernel
theorem dX10_readLine_81 : decode cX10_readLine 81 = .ok (.invokevirtual 86, 3) := by decide +kernel
theorem dX10_readLine_84 : decode cX10_readLine 84 = .ok (.istore_n 2, 1) := by decide +kernel
theorem dX10_readLine_85 : decode cX10_readLine 85 = .ok (.goto 27, 3) := by decide +kernel
theorem dX10_readLine_88 : decode cX10_readLine 88 = .ok (.aload_n 0, 1) := by decide +kernel
theorem dX10_readLine_89 : decode cX10_readLine 89 = .ok (.ldc 89, 2) := by decide +kernel
theorem dX10_readLine_91 : decode cX10_readLine 91 = .ok (.invokevirtual 67, 3) := by decide +kernel
theorem dX10_readLine_94 : decode cX10_readLine 94 = .ok (.ifCond .eq 12, 3) := by decide +kernel
theorem dX10_readLine_97 : decode cX10_readLine 97 = .ok (.aload_n 0, 1) := by decide +kernel
theorem dX10_readLine_98 : decode cX10_readLine 98 = .ok (.aload_n 1, 1) := by decide +kernel
theorem dX10_readLine_99 : decode cX10_readLine 99 = .ok (.invokevirtual 91, 3) := by decide +kernel
theorem dX10_readLine_102 : decode cX10_readLine 102 = .ok (.istore_n 2, 1) := by decide +kernel
theorem dX10_readLine_103 : decode cX10_readLine 103 = .ok (.goto 9, 3) := by decide +kernel
theorem dX10_readLine_106 : decode cX10_readLine 106 = .ok (.aload_n 0, 1) := by decide +kernel
theorem dX10_readLine_107 : decode cX10_readLine 107 = .ok (.iconst 1, 1) := by decide +kernel
theorem dX10_readLine_108 : decode cX10_readLine 108 = .ok (.invokevirtual 94, 3) := by decide +kernel
theorem dX10_readLine_111 : decode cX10_readLine 111 = .ok (.istore_n 2, 1) := by decide +kernel
theorem dX10_readLine_112 : decode cX10_readLine 112 = .ok (.iload_n 2, 1) := by decide +kernel
theorem dX10_readLine_113 : decode cX10_readLine 113 = .ok (.ifCond .eq 20, 3) := by decide +kernel
theorem dX10_readLine_116 : decode cX10_readLine 116 = .ok (.aload_n 0, 1) := by decide +kernel
theorem dX10_readLine_117 : decode cX10_readLine 117 = .ok (.invokevirtual 98, 3) := by decide +kernel
theorem dX10_readLine_120 : decode cX10_readLine 120 = .ok (.ifCond .eq 13, 3) := by decide +kernel
theorem dX10_readLine_123 : decode cX10_readLine 123 = .ok (.aload_n 1, 1) := by decide +kernel
theorem dX10_readLine_124 : decode cX10_readLine 124 = .ok (.dup, 1) := by decide +kernel
theorem dX10_readLine_125 : decode cX10_readLine 125 = .ok (.getfield 58, 3) := by decide +kernel
theorem dX10_readLine_128 : decode cX10_readLine 128 = .ok (.iconst 1, 1) := by decide +kernel
theorem dX10_readLine_129 : decode cX10_readLine 129 = .ok (.iadd, 1) := by decide +kernel
theorem dX10_readLine_130 : decode cX10_readLine 130 = .ok (.putfield 58, 3) := by decide +kernel
theorem dX10_readLine_133 : decode cX10_readLine 133 = .ok (.return_, 1) := by decide +kernel
theorem dX10_readPlaces_0 : decode cX10_readPlaces 0 = .ok (.aload_n 0, 1) := by decide +kernel
theorem dX10_readPlaces_1 : decode cX10_readPlaces 1 = .ok (.ldc 102, 2) := by decide +kernel
theorem dX10_readPlaces_3 : decode cX10_readPlaces 3 = .ok (.invokevirtual 104, 3) := by decide +kernel
theorem dX10_readPlaces_6 : decode cX10_readPlaces 6 = .ok (.ifCond .eq 23, 3) := by decide +kernel
theorem dX10_readPlaces_9 : decode cX10_readPlaces 9 = .ok (.aload_n 0, 1) := by decide +kernel
theorem dX10_readPlaces_10 : decode cX10_readPlaces 10 = .ok (.ldc 107, 2) := by decide +kernel
theorem dX10_readPlaces_12 : decode cX10_readPlaces 12 = .ok (.invokevirtual 104, 3) := by decide +kernel
theorem dX10_readPlaces_15 : decode cX10_readPlaces 15 = .ok (.ifCond .eq 14, 3) := by decide +kernel
theorem dX10_readPlaces_18 : decode cX10_readPlaces 18 = .ok (.aload_n 0, 1) := by decide +kernel
theorem dX10_readPlaces_19 : decode cX10_readPlaces 19 = .ok (.iconst 2, 1) := by decide +kernel
theorem dX10_readPlaces_20 : decode cX10_readPlaces 20 = .ok (.bipush 7, 2) := by decide +kernel
theorem dX10_readPlaces_22 : decode cX10_readPlaces 22 = .ok (.iconst 0, 1) := by decide +kernel
theorem dX10_readPlaces_23 : decode cX10_readPlaces 23 = .ok (.invokevirtual 109, 3) := by decide +kernel
theorem dX10_readPlaces_26 : decode cX10_readPlaces 26 = .ok (.ifCond .ne 5, 3) := by decide +kernel
theorem dX10_readPlaces_29 : decode cX10_readPlaces 29 = .ok (.iconst 0, 1) := by decide +kernel
theorem dX10_readPlaces_30 : decode cX10_readPlaces 30 = .ok (.ireturn, 1) := by decide +kernel
theorem dX10_readPlaces_31 : decode cX10_readPlaces 31 = .ok (.aload_n 1, 1) := by decide +kernel
theorem dX10_readPlaces_32 : decode cX10_readPlaces 32 = .ok (.aload_n 0, 1) := by decide +kernel
theorem dX10_readPlaces_33 : decode cX10_readPlaces 33 = .ok (.getfield 40, 3) := by decide +kernel
theorem dX10_readPlaces_36 : decode cX10_readPlaces 36 = .ok (.invokevirtual 113, 3) := by decide +kernel
theorem dX10_readPlaces_39 : decode cX10_readPlaces 39 = .ok (.iconst 1, 1) := by decide +kernel
theorem dX10_readPlaces_40 : decode cX10_readPlaces 40 = .ok (.ireturn, 1) := by decide +kernel
theorem dX10_readHang_0 : decode cX10_readHang 0 = .ok (.aload_n 0, 1) := by decide +kernel
theorem dX10_readHang_1 : decode cX10_readHang 1 = .ok (.invokevirtual 48, 3) := by decide +kernel
theorem dX10_readHang_4 : decode cX10_readHang 4 = .ok (.iconst 0, 1) := by decide +kernel
theorem dX10_readHang_5 : decode cX10_readHang 5 = .ok (.istore_n 2, 1) := by decide +kernel
theorem dX10_readHang_6 : decode cX10_readHang 6 = .ok (.iconst 0, 1) := by decide +kernel
theorem dX10_readHang_7 : decode cX10_readHang 7 = .ok (.istore_n 3, 1) := by decide +kernel
theorem dX10_readHang_8 : decode cX10_readHang 8 = .ok (.iload_n 3, 1) := by decide +kernel
theorem dX10_readHang_9 : decode cX10_readHang 9 = .ok (.aload_n 1, 1) := by decide +kernel
theorem dX10_readHang_10 : decode cX10_readHang 10 = .ok (.getfield 117, 3) := by decide +kernel
theorem dX10_readHang_13 : decode cX10_readHang 13 = .ok (.if_icmp .ge 55, 3) := by decide +kernel
theorem dX10_readHang_16 : decode cX10_readHang 16 = .ok (.aload_n 0, 1) := by decide +kernel
theorem dX10_readHang_17 : decode cX10_readHang 17 = .ok (.iconst 0, 1) := by decide +kernel
theorem dX10_readHang_18 : decode cX10_readHang 18 = .ok (.aload_n 1, 1) := by decide +kernel
theorem dX10_readHang_19 : decode cX10_readHang 19 = .ok (.getfield 117, 3) := by decide +kernel
theorem dX10_readHang_22 : decode cX10_readHang 22 = .ok (.iconst 1, 1) := by decide +kernel
theorem dX10_readHang_23 : decode cX10_readHang 23 = .ok (.isub, 1) := by decide +kernel
theorem dX10_readHang_24 : decode cX10_readHang 24 = .ok (.iload_n 2, 1) := by decide +kernel
theorem dX10_readHang_25 : decode cX10_readHang 25 = .ok (.invokevirtual 109, 3) := by decide +kernel
theorem dX10_readHang_28 : decode cX10_readHang 28 = .ok (.ifCond .ne 5, 3) := by decide +kernel
theorem dX10_readHang_31 : decode cX10_readHang 31 = .ok (.iconst 0, 1) := by decide +kernel
theorem dX10_readHang_32 : decode cX10_readHang 32 = .ok (.ireturn, 1) := by decide +kernel
theorem dX10_readHang_33 : decode cX10_readHang 33 = .ok (.iload_n 2, 1) := by decide +kernel
theorem dX10_readHang_34 : decode cX10_readHang 34 = .ok (.iconst 1, 1) := by decide +kernel
theorem dX10_readHang_35 : decode cX10_readHang 35 = .ok (.aload_n 0, 1) := by decide +kernel
theorem dX10_readHang_36 : decode cX10_readHang 36 = .ok (.getfield 40, 3) := by decide +kernel
theorem dX10_readHang_39 : decode cX10_readHang 39 = .ok (.ishl, 1) := by decide +kernel
theorem dX10_readHang_40 : decode cX10_readHang 40 = .ok (.ior, 1) := by decide +kernel
theorem dX10_readHang_41 : decode cX10_readHang 41 = .ok (.istore_n 2, 1) := by decide +kernel
theorem dX10_readHang_42 : decode cX10_readHang 42 = .ok (.aload_n 1, 1) := by decide +kernel
theorem dX10_readHang_43 : decode cX10_readHang 43 = .ok (.getfield 119, 3) := by decide +kernel
theorem dX10_readHang_46 : decode cX10_readHang 46 = .ok (.iload_n 3, 1) := by decide +kernel
theorem dX10_readHang_47 : decode cX10_readHang 47 = .ok (.aload_n 0, 1) := by decide +kernel
theorem dX10_readHang_48 : decode cX10_readHang 48 = .ok (.getfield 40, 3) := by decide +kernel
theorem dX10_readHang_51 : decode cX10_readHang 51 = .ok (.iastore, 1) := by decide +kernel
theorem dX10_readHang_52 : decode cX10_readHang 52 = .ok (.aload_n 1, 1) := by decide +kernel
theorem dX10_readHang_53 : decode cX10_readHang 53 = .ok (.getfield 123, 3) := by decide +kernel
theorem dX10_readHang_56 : decode cX10_readHang 56 = .ok (.iload_n 3, 1) := by decide +kernel
theorem dX10_readHang_57 : decode cX10_readHang 57 = .ok (.aload_n 0, 1) := by decide +kernel
theorem dX10_readHang_58 : decode cX10_readHang 58 = .ok (.getfield 40, 3) := by decide +kernel
theorem dX10_readHang_61 : decode cX10_readHang 61 = .ok (.iastore, 1) := by decide +kernel
theorem dX10_readHang_62 : decode cX10_readHang 62 = .ok (.iinc 3 1, 3) := by decide +kernel
theorem dX10_readHang_65 : decode cX10_readHang 65 = .ok (.goto (-57), 3) := by decide +kernel
theorem dX10_readHang_68 : decode cX10_readHang 68 = .ok (.iconst 1, 1) := by decide +kernel
theorem dX10_readHang_69 : decode cX10_readHang 69 = .ok (.ireturn, 1) := by decide +kernel
theorem dX10_readLaw_0 : decode cX10_readLaw 0 = .ok (.aload_n 1, 1) := by decide +kernel
theorem dX10_readLaw_1 : decode cX10_readLaw 1 = .ok (.getfield 126, 3) := by decide +kernel
theorem dX10_readLaw_4 : decode cX10_readLaw 4 = .ok (.istore_n 2, 1) := by decide +kernel
theorem dX10_readLaw_5 : decode cX10_readLaw 5 = .ok (.iload_n 2, 1) := by decide +kernel
theorem dX10_readLaw_6 : decode cX10_readLaw 6 = .ok (.bipush 6, 2) := by decide +kernel
theorem dX10_readLaw_8 : decode cX10_readLaw 8 = .ok (.if_icmp .lt 9, 3) := by decide +kernel
theorem dX10_readLaw_11 : decode cX10_readLaw 11 = .ok (.aload_n 0, 1) := by decide +kernel
theorem dX10_readLaw_12 : decode cX10_readLaw 12 = .ok (.iconst 3, 1) := by decide +kernel
theorem dX10_readLaw_13 : decode cX10_readLaw 13 = .ok (.invokevirtual 94, 3) := by decide +kernel
theorem dX10_readLaw_16 : decode cX10_readLaw 16 = .ok (.ireturn, 1) := by decide +kernel
theorem dX10_readLaw_17 : decode cX10_readLaw 17 = .ok (.aload_n 0, 1) := by decide +kernel
theorem dX10_readLaw_18 : decode cX10_readLaw 18 = .ok (.invokevirtual 48, 3) := by decide +kernel
theorem dX10_readLaw_21 : decode cX10_readLaw 21 = .ok (.aload_n 1, 1) := by decide +kernel
theorem dX10_readLaw_22 : decode cX10_readLaw 22 = .ok (.getfield 117, 3) := by decide +kernel
theorem dX10_readLaw_25 : decode cX10_readLaw 25 = .ok (.iconst 1, 1) := by decide +kernel
theorem dX10_readLaw_26 : decode cX10_readLaw 26 = .ok (.isub, 1) := by decide +kernel
theorem dX10_readLaw_27 : decode cX10_readLaw 27 = .ok (.istore_n 3, 1) := by decide +kernel
theorem dX10_readLaw_28 : decode cX10_readLaw 28 = .ok (.aload_n 0, 1) := by decide +kernel
theorem dX10_readLaw_29 : decode cX10_readLaw 29 = .ok (.iconst 0, 1) := by decide +kernel
theorem dX10_readLaw_30 : decode cX10_readLaw 30 = .ok (.iload_n 3, 1) := by decide +kernel
theorem dX10_readLaw_31 : decode cX10_readLaw 31 = .ok (.iconst 0, 1) := by decide +kernel
theorem dX10_readLaw_32 : decode cX10_readLaw 32 = .ok (.invokevirtual 109, 3) := by decide +kernel
theorem dX10_readLaw_35 : decode cX10_readLaw 35 = .ok (.ifCond .ne 5, 3) := by decide +kernel
theorem dX10_readLaw_38 : decode cX10_readLaw 38 = .ok (.iconst 0, 1) := by decide +kernel
theorem dX10_readLaw_39 : decode cX10_readLaw 39 = .ok (.ireturn, 1) := by decide +kernel
theorem dX10_readLaw_40 : decode cX10_readLaw 40 = .ok (.aload_n 1, 1) := by decide +kernel
theorem dX10_readLaw_41 : decode cX10_readLaw 41 = .ok (.getfield 129, 3) := by decide +kernel
theorem dX10_readLaw_44 : decode cX10_readLaw 44 = .ok (.iload_n 2, 1) := by decide +kernel
theorem dX10_readLaw_45 : decode cX10_readLaw 45 = .ok (.aload_n 0, 1) := by decide +kernel
theorem dX10_readLaw_46 : decode cX10_readLaw 46 = .ok (.getfield 40, 3) := by decide +kernel
theorem dX10_readLaw_49 : decode cX10_readLaw 49 = .ok (.iastore, 1) := by decide +kernel
theorem dX10_readLaw_50 : decode cX10_readLaw 50 = .ok (.aload_n 0, 1) := by decide +kernel
theorem dX10_readLaw_51 : decode cX10_readLaw 51 = .ok (.ldc 132, 2) := by decide +kernel
theorem dX10_readLaw_53 : decode cX10_readLaw 53 = .ok (.invokevirtual 104, 3) := by decide +kernel
theorem dX10_readLaw_56 : decode cX10_readLaw 56 = .ok (.ifCond .eq 18, 3) := by decide +kernel
theorem dX10_readLaw_59 : decode cX10_readLaw 59 = .ok (.aload_n 0, 1) := by decide +kernel
theorem dX10_readLaw_60 : decode cX10_readLaw 60 = .ok (.iconst 0, 1) := by decide +kernel
theorem dX10_readLaw_61 : decode cX10_readLaw 61 = .ok (.iload_n 3, 1) := by decide +kernel
theorem dX10_readLaw_62 : decode cX10_readLaw 62 = .ok (.iconst 1, 1) := by decide +kernel
theorem dX10_readLaw_63 : decode cX10_readLaw 63 = .ok (.aload_n 0, 1) := by decide +kernel
theorem dX10_readLaw_64 : decode cX10_readLaw 64 = .ok (.getfield 40, 3) := by decide +kernel
theorem dX10_readLaw_67 : decode cX10_readLaw 67 = .ok (.ishl, 1) := by decide +kernel
theorem dX10_readLaw_68 : decode cX10_readLaw 68 = .ok (.invokevirtual 109, 3) := by decide +kernel
theorem dX10_readLaw_71 : decode cX10_readLaw 71 = .ok (.ifCond .ne 5, 3) := by decide +kernel
theorem dX10_readLaw_74 : decode cX10_readLaw 74 = .ok (.iconst 0, 1) := by decide +kernel
theorem dX10_readLaw_75 : decode cX10_readLaw 75 = .ok (.ireturn, 1) := by decide +kernel
theorem dX10_readLaw_76 : decode cX10_readLaw 76 = .ok (.aload_n 1, 1) := by decide +kernel
theorem dX10_readLaw_77 : decode cX10_readLaw 77 = .ok (.getfield 134, 3) := by decide +kernel
theorem dX10_readLaw_80 : decode cX10_readLaw 80 = .ok (.iload_n 2, 1) := by decide +kernel
theorem dX10_readLaw_81 : decode cX10_readLaw 81 = .ok (.aload_n 0, 1) := by decide +kernel
theorem dX10_readLaw_82 : decode cX10_readLaw 82 = .ok (.getfield 40, 3) := by decide +kernel
theorem dX10_readLaw_85 : decode cX10_readLaw 85 = .ok (.iastore, 1) := by decide +kernel
theorem dX10_readLaw_86 : decode cX10_readLaw 86 = .ok (.aload_n 0, 1) := by decide +kernel
theorem dX10_readLaw_87 : decode cX10_readLaw 87 = .ok (.ldc 137, 2) := by decide +kernel
theorem dX10_readLaw_89 : decode cX10_readLaw 89 = .ok (.invokevirtual 104, 3) := by decide +kernel
theorem dX10_readLaw_92 : decode cX10_readLaw 92 = .ok (.ifCond .eq 14, 3) := by decide +kernel
theorem dX10_readLaw_95 : decode cX10_readLaw 95 = .ok (.aload_n 0, 1) := by decide +kernel
theorem dX10_readLaw_96 : decode cX10_readLaw 96 = .ok (.iconst 1, 1) := by decide +kernel
theorem dX10_readLaw_97 : decode cX10_readLaw 97 = .ok (.bipush 6, 2) := by decide +kernel
theorem dX10_readLaw_99 : decode cX10_readLaw 99 = .ok (.iconst 0, 1) := by decide +kernel
theorem dX10_readLaw_100 : decode cX10_readLaw 100 = .ok (.invokevirtual 109, 3) := by decide +kernel
theorem dX10_readLaw_103 : decode cX10_readLaw 103 = .ok (.ifCond .ne 5, 3) := by decide +kernel
theorem dX10_readLaw_106 : decode cX10_readLaw 106 = .ok (.iconst 0, 1) := by decide +kernel
theorem dX10_readLaw_107 : decode cX10_readLaw 107 = .ok (.ireturn, 1) := by decide +kernel
theorem dX10_readLaw_108 : decode cX10_readLaw 108 = .ok (.aload_n 1, 1) := by decide +kernel
theorem dX10_readLaw_109 : decode cX10_readLaw 109 = .ok (.getfield 139, 3) := by decide +kernel
theorem dX10_readLaw_112 : decode cX10_readLaw 112 = .ok (.iload_n 2, 1) := by decide +kernel
theorem dX10_readLaw_113 : decode cX10_readLaw 113 = .ok (.aload_n 0, 1) := by decide +kernel
theorem dX10_readLaw_114 : decode cX10_readLaw 114 = .ok (.getfield 40, 3) := by decide +kernel
theorem dX10_readLaw_117 : decode cX10_readLaw 117 = .ok (.iastore, 1) := by decide +kernel
theorem dX10_readLaw_118 : decode cX10_readLaw 118 = .ok (.aload_n 0, 1) := by decide +kernel
theorem dX10_readLaw_119 : decode cX10_readLaw 119 = .ok (.ldc 142, 2) := by decide +kernel
theorem dX10_readLaw_121 : decode cX10_readLaw 121 = .ok (.invokevirtual 104, 3) := by decide +kernel
theorem dX10_readLaw_124 : decode cX10_readLaw 124 = .ok (.ifCond .eq 18, 3) := by decide +kernel
theorem dX10_readLaw_127 : decode cX10_readLaw 127 = .ok (.aload_n 0, 1) := by decide +kernel
theorem dX10_readLaw_128 : decode cX10_readLaw 128 = .ok (.iconst 0, 1) := by decide +kernel
theorem dX10_readLaw_129 : decode cX10_readLaw 129 = .ok (.aload_n 0, 1) := by decide +kernel
theorem dX10_readLaw_130 : decode cX10_readLaw 130 = .ok (.getfield 40, 3) := by decide +kernel
theorem dX10_readLaw_133 : decode cX10_readLaw 133 = .ok (.iconst 1, 1) := by decide +kernel
theorem dX10_readLaw_134 : decode cX10_readLaw 134 = .ok (.isub, 1) := by decide +kernel
theorem dX10_readLaw_135 : decode cX10_readLaw 135 = .ok (.iconst 0, 1) := by decide +kernel
theorem dX10_readLaw_136 : decode cX10_readLaw 136 = .ok (.invokevirtual 109, 3) := by decide +kernel
theorem dX10_readLaw_139 : decode cX10_readLaw 139 = .ok (.ifCond .ne 5, 3) := by decide +kernel
theorem dX10_readLaw_142 : decode cX10_readLaw 142 = .ok (.iconst 0, 1) := by decide +kernel
theorem dX10_readLaw_143 : decode cX10_readLaw 143 = .ok (.ireturn, 1) := by decide +kernel
theorem dX10_readLaw_144 : decode cX10_readLaw 144 = .ok (.aload_n 1, 1) := by decide +kernel
theorem dX10_readLaw_145 : decode cX10_readLaw 145 = .ok (.getfield 144, 3) := by decide +kernel
theorem dX10_readLaw_148 : decode cX10_readLaw 148 = .ok (.iload_n 2, 1) := by decide +kernel
theorem dX10_readLaw_149 : decode cX10_readLaw 149 = .ok (.aload_n 0, 1) := by decide +kernel
theorem dX10_readLaw_150 : decode cX10_readLaw 150 = .ok (.getfield 40, 3) := by decide +kernel
theorem dX10_readLaw_153 : decode cX10_readLaw 153 = .ok (.iastore, 1) := by decide +kernel
theorem dX10_readLaw_154 : decode cX10_readLaw 154 = .ok (.aload_n 1, 1) := by decide +kernel
theorem dX10_readLaw_155 : decode cX10_readLaw 155 = .ok (.dup, 1) := by decide +kernel
theorem dX10_readLaw_156 : decode cX10_readLaw 156 = .ok (.getfield 126, 3) := by decide +kernel
theorem dX10_readLaw_159 : decode cX10_readLaw 159 = .ok (.iconst 1, 1) := by decide +kernel
theorem dX10_readLaw_160 : decode cX10_readLaw 160 = .ok (.iadd, 1) := by decide +kernel
theorem dX10_readLaw_161 : decode cX10_readLaw 161 = .ok (.putfield 126, 3) := by decide +kernel
theorem dX10_readLaw_164 : decode cX10_readLaw 164 = .ok (.iconst 1, 1) := by decide +kernel
theorem dX10_readLaw_165 : decode cX10_readLaw 165 = .ok (.ireturn, 1) := by decide +kernel
theorem dX10_readLeap_0 : decode cX10_readLeap 0 = .ok (.aload_n 0, 1) := by decide +kernel
theorem dX10_readLeap_1 : decode cX10_readLeap 1 = .ok (.invokevirtual 48, 3) := by decide +kernel
theorem dX10_readLeap_4 : decode cX10_readLeap 4 = .ok (.aload_n 0, 1) := by decide +kernel
theorem dX10_readLeap_5 : decode cX10_readLeap 5 = .ok (.iconst 1, 1) := by decide +kernel
theorem dX10_readLeap_6 : decode cX10_readLeap 6 = .ok (.bipush 6, 2) := by decide +kernel
theorem dX10_readLeap_8 : decode cX10_readLeap 8 = .ok (.iconst 0, 1) := by decide +kernel
theorem dX10_readLeap_9 : decode cX10_readLeap 9 = .ok (.invokevirtual 109, 3) := by decide +kernel
theorem dX10_readLeap_12 : decode cX10_readLeap 12 = .ok (.ifCond .ne 5, 3) := by decide +kernel
theorem dX10_readLeap_15 : decode cX10_readLeap 15 = .ok (.iconst 0, 1) := by decide +kernel
theorem dX10_readLeap_16 : decode cX10_readLeap 16 = .ok (.ireturn, 1) := by decide +kernel
theorem dX10_readLeap_17 : decode cX10_readLeap 17 = .ok (.aload_n 1, 1) := by decide +kernel
theorem dX10_readLeap_18 : decode cX10_readLeap 18 = .ok (.dup, 1) := by decide +kernel
theorem dX10_readLeap_19 : decode cX10_readLeap 19 = .ok (.getfield 55, 3) := by decide +kernel
theorem dX10_readLeap_22 : decode cX10_readLeap 22 = .ok (.iconst 1, 1) := by decide +kernel
theorem dX10_readLeap_23 : decode cX10_readLeap 23 = .ok (.aload_n 0, 1) := by decide +kernel
theorem dX10_readLeap_24 : decode cX10_readLeap 24 = .ok (.getfield 40, 3) := by decide +kernel
theorem dX10_readLeap_27 : decode cX10_readLeap 27 = .ok (.ishl, 1) := by decide +kernel
theorem dX10_readLeap_28 : decode cX10_readLeap 28 = .ok (.ior, 1) := by decide +kernel
theorem dX10_readLeap_29 : decode cX10_readLeap 29 = .ok (.putfield 55, 3) := by decide +kernel
theorem dX10_readLeap_32 : decode cX10_readLeap 32 = .ok (.iconst 1, 1) := by decide +kernel
theorem dX10_readLeap_33 : decode cX10_readLeap 33 = .ok (.ireturn, 1) := by decide +kernel
theorem dX10_readSuit_0 : decode cX10_readSuit 0 = .ok (.aload_n 0, 1) := by decide +kernel
theorem dX10_readSuit_1 : decode cX10_readSuit 1 = .ok (.invokevirtual 48, 3) := by decide +kernel
theorem dX10_readSuit_4 : decode cX10_readSuit 4 = .ok (.aload_n 1, 1) := by decide +kernel
theorem dX10_readSuit_5 : decode cX10_readSuit 5 = .ok (.getfield 117, 3) := by decide +kernel
theorem dX10_readSuit_8 : decode cX10_readSuit 8 = .ok (.iconst 1, 1) := by decide +kernel
theorem dX10_readSuit_9 : decode cX10_readSuit 9 = .ok (.isub, 1) := by decide +kernel
theorem dX10_readSuit_10 : decode cX10_readSuit 10 = .ok (.istore_n 2, 1) := by decide +kernel
theorem dX10_readSuit_11 : decode cX10_readSuit 11 = .ok (.aload_n 0, 1) := by decide +kernel
theorem dX10_readSuit_12 : decode cX10_readSuit 12 = .ok (.iconst 0, 1) := by decide +kernel
theorem dX10_readSuit_13 : decode cX10_readSuit 13 = .ok (.iload_n 2, 1) := by decide +kernel
theorem dX10_readSuit_14 : decode cX10_readSuit 14 = .ok (.iconst 0, 1) := by decide +kernel
theorem dX10_readSuit_15 : decode cX10_readSuit 15 = .ok (.invokevirtual 109, 3) := by decide +kernel
theorem dX10_readSuit_18 : decode cX10_readSuit 18 = .ok (.ifCond .ne 5, 3) := by decide +kernel
theorem dX10_readSuit_21 : decode cX10_readSuit 21 = .ok (.iconst 0, 1) := by decide +kernel
theorem dX10_readSuit_22 : decode cX10_readSuit 22 = .ok (.ireturn, 1) := by decide +kernel
theorem dX10_readSuit_23 : decode cX10_readSuit 23 = .ok (.aload_n 0, 1) := by decide +kernel
theorem dX10_readSuit_24 : decode cX10_readSuit 24 = .ok (.getfield 40, 3) := by decide +kernel
theorem dX10_readSuit_27 : decode cX10_readSuit 27 = .ok (.istore_n 3, 1) := by decide +kernel
theorem dX10_readSuit_28 : decode cX10_readSuit 28 = .ok (.aload_n 0, 1) := by decide +kernel
theorem dX10_readSuit_29 : decode cX10_readSuit 29 = .ok (.iconst 0, 1) := by decide +kernel
theorem dX10_readSuit_30 : decode cX10_readSuit 30 = .ok (.iload_n 2, 1) := by decide +kernel
theorem dX10_readSuit_31 : decode cX10_readSuit 31 = .ok (.iconst 0, 1) := by decide +kernel
theorem dX10_readSuit_32 : decode cX10_readSuit 32 = .ok (.invokevirtual 109, 3) := by decide +kernel
theorem dX10_readSuit_35 : decode cX10_readSuit 35 = .ok (.ifCond .ne 5, 3) := by decide +kernel
theorem dX10_readSuit_38 : decode cX10_readSuit 38 = .ok (.iconst 0, 1) := by decide +kernel
theorem dX10_readSuit_39 : decode cX10_readSuit 39 = .ok (.ireturn, 1) := by decide +kernel
theorem dX10_readSuit_40 : decode cX10_readSuit 40 = .ok (.aload_n 0, 1) := by decide +kernel
theorem dX10_readSuit_41 : decode cX10_readSuit 41 = .ok (.getfield 40, 3) := by decide +kernel
theorem dX10_readSuit_44 : decode cX10_readSuit 44 = .ok (.istore 4, 2) := by decide +kernel
theorem dX10_readSuit_46 : decode cX10_readSuit 46 = .ok (.aload_n 0, 1) := by decide +kernel
theorem dX10_readSuit_47 : decode cX10_readSuit 47 = .ok (.iconst 0, 1) := by decide +kernel
theorem dX10_readSuit_48 : decode cX10_readSuit 48 = .ok (.bipush 99, 2) := by decide +kernel
theorem dX10_readSuit_50 : decode cX10_readSuit 50 = .ok (.iconst 0, 1) := by decide +kernel
theorem dX10_readSuit_51 : decode cX10_readSuit 51 = .ok (.invokevirtual 109, 3) := by decide +kernel
theorem dX10_readSuit_54 : decode cX10_readSuit 54 = .ok (.ifCond .ne 5, 3) := by decide +kernel
theorem dX10_readSuit_57 : decode cX10_readSuit 57 = .ok (.iconst 0, 1) := by decide +kernel
theorem dX10_readSuit_58 : decode cX10_readSuit 58 = .ok (.ireturn, 1) := by decide +kernel
theorem dX10_readSuit_59 : decode cX10_readSuit 59 = .ok (.aload_n 1, 1) := by decide +kernel
theorem dX10_readSuit_60 : decode cX10_readSuit 60 = .ok (.iload_n 3, 1) := by decide +kernel
theorem dX10_readSuit_61 : decode cX10_readSuit 61 = .ok (.iload 4, 2) := by decide +kernel
theorem dX10_readSuit_63 : decode cX10_readSuit 63 = .ok (.aload_n 0, 1) := by decide +kernel
theorem dX10_readSuit_64 : decode cX10_readSuit 64 = .ok (.getfield 40, 3) := by decide +kernel
theorem dX10_readSuit_67 : decode cX10_readSuit 67 = .ok (.invokevirtual 147, 3) := by decide +kernel
theorem dX10_readSuit_70 : decode cX10_readSuit 70 = .ok (.iconst 1, 1) := by decide +kernel
theorem dX10_readSuit_71 : decode cX10_readSuit 71 = .ok (.ireturn, 1) := by decide +kernel
theorem dX10_readApart_0 : decode cX10_readApart 0 = .ok (.aload_n 0, 1) := by decide +kernel
theorem dX10_readApart_1 : decode cX10_readApart 1 = .ok (.invokevirtual 48, 3) := by decide +kernel
theorem dX10_readApart_4 : decode cX10_readApart 4 = .ok (.aload_n 1, 1) := by decide +kernel
theorem dX10_readApart_5 : decode cX10_readApart 5 = .ok (.getfield 117, 3) := by decide +kernel
theorem dX10_readApart_8 : decode cX10_readApart 8 = .ok (.iconst 1, 1) := by decide +kernel
theorem dX10_readApart_9 : decode cX10_readApart 9 = .ok (.isub, 1) := by decide +kernel
theorem dX10_readApart_10 : decode cX10_readApart 10 = .ok (.istore_n 2, 1) := by decide +kernel
theorem dX10_readApart_11 : decode cX10_readApart 11 = .ok (.aload_n 0, 1) := by decide +kernel
theorem dX10_readApart_12 : decode cX10_readApart 12 = .ok (.iconst 0, 1) := by decide +kernel
theorem dX10_readApart_13 : decode cX10_readApart 13 = .ok (.iload_n 2, 1) := by decide +kernel
theorem dX10_readApart_14 : decode cX10_readApart 14 = .ok (.iconst 0, 1) := by decide +kernel
theorem dX10_readApart_15 : decode cX10_readApart 15 = .ok (.invokevirtual 109, 3) := by decide +kernel
theorem dX10_readApart_18 : decode cX10_readApart 18 = .ok (.ifCond .ne 5, 3) := by decide +kernel
theorem dX10_readApart_21 : decode cX10_readApart 21 = .ok (.iconst 0, 1) := by decide +kernel
theorem dX10_readApart_22 : decode cX10_readApart 22 = .ok (.ireturn, 1) := by decide +kernel
theorem dX10_readApart_23 : decode cX10_readApart 23 = .ok (.aload_n 0, 1) := by decide +kernel
theorem dX10_readApart_24 : decode cX10_readApart 24 = .ok (.getfield 40, 3) := by decide +kernel
theorem dX10_readApart_27 : decode cX10_readApart 27 = .ok (.istore_n 3, 1) := by decide +kernel
theorem dX10_readApart_28 : decode cX10_readApart 28 = .ok (.aload_n 0, 1) := by decide +kernel
theorem dX10_readApart_29 : decode cX10_readApart 29 = .ok (.iconst 0, 1) := by decide +kernel
theorem dX10_readApart_30 : decode cX10_readApart 30 = .ok (.iload_n 2, 1) := by decide +kernel
theorem dX10_readApart_31 : decode cX10_readApart 31 = .ok (.iconst 1, 1) := by decide +kernel
theorem dX10_readApart_32 : decode cX10_readApart 32 = .ok (.iload_n 3, 1) := by decide +kernel
theorem dX10_readApart_33 : decode cX10_readApart 33 = .ok (.ishl, 1) := by decide +kernel
theorem dX10_readApart_34 : decode cX10_readApart 34 = .ok (.invokevirtual 109, 3) := by decide +kernel
theorem dX10_readApart_37 : decode cX10_readApart 37 = .ok (.ifCond .ne 5, 3) := by decide +kernel
theorem dX10_readApart_40 : decode cX10_readApart 40 = .ok (.iconst 0, 1) := by decide +kernel
theorem dX10_readApart_41 : decode cX10_readApart 41 = .ok (.ireturn, 1) := by decide +kernel
theorem dX10_readApart_42 : decode cX10_readApart 42 = .ok (.aload_n 1, 1) := by decide +kernel
theorem dX10_readApart_43 : decode cX10_readApart 43 = .ok (.iload_n 3, 1) := by decide +kernel
theorem dX10_readApart_44 : decode cX10_readApart 44 = .ok (.aload_n 0, 1) := by decide +kernel
theorem dX10_readApart_45 : decode cX10_readApart 45 = .ok (.getfield 40, 3) := by decide +kernel
theorem dX10_readApart_48 : decode cX10_readApart 48 = .ok (.invokevirtual 151, 3) := by decide +kernel
theorem dX10_readApart_51 : decode cX10_readApart 51 = .ok (.iconst 1, 1) := by decide +kernel
theorem dX10_readApart_52 : decode cX10_readApart 52 = .ok (.ireturn, 1) := by decide +kernel
theorem dX10_passWord_0 : decode cX10_passWord 0 = .ok (.aload_n 0, 1) := by decide +kernel
theorem dX10_passWord_1 : decode cX10_passWord 1 = .ok (.aload_n 1, 1) := by decide +kernel
theorem dX10_passWord_2 : decode cX10_passWord 2 = .ok (.invokevirtual 67, 3) := by decide +kernel
theorem dX10_passWord_5 : decode cX10_passWord 5 = .ok (.ifCond .ne 9, 3) := by decide +kernel
theorem dX10_passWord_8 : decode cX10_passWord 8 = .ok (.aload_n 0, 1) := by decide +kernel
theorem dX10_passWord_9 : decode cX10_passWord 9 = .ok (.iconst 1, 1) := by decide +kernel
theorem dX10_passWord_10 : decode cX10_passWord 10 = .ok (.invokevirtual 94, 3) := by decide +kernel
theorem dX10_passWord_13 : decode cX10_passWord 13 = .ok (.ireturn, 1) := by decide +kernel
theorem dX10_passWord_14 : decode cX10_passWord 14 = .ok (.aload_n 0, 1) := by decide +kernel
theorem dX10_passWord_15 : decode cX10_passWord 15 = .ok (.invokevirtual 48, 3) := by decide +kernel
theorem dX10_passWord_18 : decode cX10_passWord 18 = .ok (.iconst 1, 1) := by decide +kernel
theorem dX10_passWord_19 : decode cX10_passWord 19 = .ok (.ireturn, 1) := by decide +kernel
theorem dX10_passSign_0 : decode cX10_passSign 0 = .ok (.aload_n 0, 1) := by decide +kernel
theorem dX10_passSign_1 : decode cX10_passSign 1 = .ok (.getfield 28, 3) := by decide +kernel
theorem dX10_passSign_4 : decode cX10_passSign 4 = .ok (.iconst 3, 1) := by decide +kernel
theorem dX10_passSign_5 : decode cX10_passSign 5 = .ok (.if_icmp .eq 9, 3) := by decide +kernel
theorem dX10_passSign_8 : decode cX10_passSign 8 = .ok (.aload_n 0, 1) := by decide +kernel
theorem dX10_passSign_9 : decode cX10_passSign 9 = .ok (.iconst 1, 1) := by decide +kernel
theorem dX10_passSign_10 : decode cX10_passSign 10 = .ok (.invokevirtual 94, 3) := by decide +kernel
theorem dX10_passSign_13 : decode cX10_passSign 13 = .ok (.ireturn, 1) := by decide +kernel
theorem dX10_passSign_14 : decode cX10_passSign 14 = .ok (.aload_n 0, 1) := by decide +kernel
theorem dX10_passSign_15 : decode cX10_passSign 15 = .ok (.invokevirtual 48, 3) := by decide +kernel
theorem dX10_passSign_18 : decode cX10_passSign 18 = .ok (.iconst 1, 1) := by decide +kernel
theorem dX10_passSign_19 : decode cX10_passSign 19 = .ok (.ireturn, 1) := by decide +kernel
theorem dX10_passNumber_0 : decode cX10_passNumber 0 = .ok (.aload_n 0, 1) := by decide +kernel
theorem dX10_passNumber_1 : decode cX10_passNumber 1 = .ok (.getfield 28, 3) := by decide +kernel
theorem dX10_passNumber_4 : decode cX10_passNumber 4 = .ok (.iconst 2, 1) := by decide +kernel
theorem dX10_passNumber_5 : decode cX10_passNumber 5 = .ok (.if_icmp .eq 9, 3) := by decide +kernel
theorem dX10_passNumber_8 : decode cX10_passNumber 8 = .ok (.aload_n 0, 1) := by decide +kernel
theorem dX10_passNumber_9 : decode cX10_passNumber 9 = .ok (.iconst 1, 1) := by decide +kernel
theorem dX10_passNumber_10 : decode cX10_passNumber 10 = .ok (.invokevirtual 94, 3) := by decide +kernel
theorem dX10_passNumber_13 : decode cX10_passNumber 13 = .ok (.ireturn, 1) := by decide +kernel
theorem dX10_passNumber_14 : decode cX10_passNumber 14 = .ok (.aload_n 0, 1) := by decide +kernel
theorem dX10_passNumber_15 : decode cX10_passNumber 15 = .ok (.getfield 37, 3) := by decide +kernel
theorem dX10_passNumber_18 : decode cX10_passNumber 18 = .ok (.bipush 7, 2) := by decide +kernel
theorem dX10_passNumber_20 : decode cX10_passNumber 20 = .ok (.if_icmp .ge 18, 3) := by decide +kernel
theorem dX10_passNumber_23 : decode cX10_passNumber 23 = .ok (.iload_n 3, 1) := by decide +kernel
theorem dX10_passNumber_24 : decode cX10_passNumber 24 = .ok (.aload_n 0, 1) := by decide +kernel
theorem dX10_passNumber_25 : decode cX10_passNumber 25 = .ok (.getfield 37, 3) := by decide +kernel
theorem dX10_passNumber_28 : decode cX10_passNumber 28 = .ok (.ishr, 1) := by decide +kernel
theorem dX10_passNumber_29 : decode cX10_passNumber 29 = .ok (.iconst 1, 1) := by decide +kernel
theorem dX10_passNumber_30 : decode cX10_passNumber 30 = .ok (.iand, 1) := by decide +kernel
theorem dX10_passNumber_31 : decode cX10_passNumber 31 = .ok (.ifCond .eq 7, 3) := by decide +kernel
theorem dX10_passNumber_34 : decode cX10_passNumber 34 = .ok (.iconst 1, 1) := by decide +kernel
theorem dX10_passNumber_35 : decode cX10_passNumber 35 = .ok (.goto 4, 3) := by decide +kernel
theorem dX10_passNumber_38 : decode cX10_passNumber 38 = .ok (.iconst 0, 1) := by decide +kernel
theorem dX10_passNumber_39 : decode cX10_passNumber 39 = .ok (.istore 4, 2) := by decide +kernel
theorem dX10_passNumber_41 : decode cX10_passNumber 41 = .ok (.aload_n 0, 1) := by decide +kernel
theorem dX10_passNumber_42 : decode cX10_passNumber 42 = .ok (.getfield 37, 3) := by decide +kernel
theorem dX10_passNumber_45 : decode cX10_passNumber 45 = .ok (.iload_n 1, 1) := by decide +kernel
theorem dX10_passNumber_46 : decode cX10_passNumber 46 = .ok (.if_icmp .lt 16, 3) := by decide +kernel
theorem dX10_passNumber_49 : decode cX10_passNumber 49 = .ok (.aload_n 0, 1) := by decide +kernel
theorem dX10_passNumber_50 : decode cX10_passNumber 50 = .ok (.getfield 37, 3) := by decide +kernel
theorem dX10_passNumber_53 : decode cX10_passNumber 53 = .ok (.iload_n 2, 1) := by decide +kernel
theorem dX10_passNumber_54 : decode cX10_passNumber 54 = .ok (.if_icmp .gt 8, 3) := by decide +kernel
theorem dX10_passNumber_57 : decode cX10_passNumber 57 = .ok (.iload 4, 2) := by decide +kernel
theorem dX10_passNumber_59 : decode cX10_passNumber 59 = .ok (.ifCond .eq 9, 3) := by decide +kernel
theorem dX10_passNumber_62 : decode cX10_passNumber 62 = .ok (.aload_n 0, 1) := by decide +kernel
theorem dX10_passNumber_63 : decode cX10_passNumber 63 = .ok (.iconst 2, 1) := by decide +kernel
theorem dX10_passNumber_64 : decode cX10_passNumber 64 = .ok (.invokevirtual 94, 3) := by decide +kernel
theorem dX10_passNumber_67 : decode cX10_passNumber 67 = .ok (.ireturn, 1) := by decide +kernel
theorem dX10_passNumber_68 : decode cX10_passNumber 68 = .ok (.aload_n 0, 1) := by decide +kernel
theorem dX10_passNumber_69 : decode cX10_passNumber 69 = .ok (.aload_n 0, 1) := by decide +kernel
theorem dX10_passNumber_70 : decode cX10_passNumber 70 = .ok (.getfield 37, 3) := by decide +kernel
theorem dX10_passNumber_73 : decode cX10_passNumber 73 = .ok (.putfield 40, 3) := by decide +kernel
theorem dX10_passNumber_76 : decode cX10_passNumber 76 = .ok (.aload_n 0, 1) := by decide +kernel
theorem dX10_passNumber_77 : decode cX10_passNumber 77 = .ok (.invokevirtual 48, 3) := by decide +kernel
theorem dX10_passNumber_80 : decode cX10_passNumber 80 = .ok (.iconst 1, 1) := by decide +kernel
theorem dX10_passNumber_81 : decode cX10_passNumber 81 = .ok (.ireturn, 1) := by decide +kernel
theorem dX10_refuse_0 : decode cX10_refuse 0 = .ok (.aload_n 0, 1) := by decide +kernel
theorem dX10_refuse_1 : decode cX10_refuse 1 = .ok (.iload_n 1, 1) := by decide +kernel
theorem dX10_refuse_2 : decode cX10_refuse 2 = .ok (.putfield 19, 3) := by decide +kernel
theorem dX10_refuse_5 : decode cX10_refuse 5 = .ok (.aload_n 0, 1) := by decide +kernel
theorem dX10_refuse_6 : decode cX10_refuse 6 = .ok (.aload_n 0, 1) := by decide +kernel
theorem dX10_refuse_7 : decode cX10_refuse 7 = .ok (.getfield 31, 3) := by decide +kernel
theorem dX10_refuse_10 : decode cX10_refuse 10 = .ok (.putfield 22, 3) := by decide +kernel
theorem dX10_refuse_13 : decode cX10_refuse 13 = .ok (.iconst 0, 1) := by decide +kernel
theorem dX10_refuse_14 : decode cX10_refuse 14 = .ok (.ireturn, 1) := by decide +kernel
theorem dX10_isWord_0 : decode cX10_isWord 0 = .ok (.aload_n 0, 1) := by decide +kernel
theorem dX10_isWord_1 : decode cX10_isWord 1 = .ok (.getfield 28, 3) := by decide +kernel
theorem dX10_isWord_4 : decode cX10_isWord 4 = .ok (.iconst 1, 1) := by decide +kernel
theorem dX10_isWord_5 : decode cX10_isWord 5 = .ok (.if_icmp .ne 19, 3) := by decide +kernel
theorem dX10_isWord_8 : decode cX10_isWord 8 = .ok (.aload_n 0, 1) := by decide +kernel
theorem dX10_isWord_9 : decode cX10_isWord 9 = .ok (.getfield 34, 3) := by decide +kernel
theorem dX10_isWord_12 : decode cX10_isWord 12 = .ok (.aload_n 0, 1) := by decide +kernel
theorem dX10_isWord_13 : decode cX10_isWord 13 = .ok (.getfield 31, 3) := by decide +kernel
theorem dX10_isWord_16 : decode cX10_isWord 16 = .ok (.isub, 1) := by decide +kernel
theorem dX10_isWord_17 : decode cX10_isWord 17 = .ok (.aload_n 1, 1) := by decide +kernel
theorem dX10_isWord_18 : decode cX10_isWord 18 = .ok (.invokevirtual 155, 3) := by decide +kernel
theorem dX10_isWord_21 : decode cX10_isWord 21 = .ok (.if_icmp .eq 5, 3) := by decide +kernel
theorem dX10_isWord_24 : decode cX10_isWord 24 = .ok (.iconst 0, 1) := by decide +kernel
theorem dX10_isWord_25 : decode cX10_isWord 25 = .ok (.ireturn, 1) := by decide +kernel
theorem dX10_isWord_26 : decode cX10_isWord 26 = .ok (.iconst 0, 1) := by decide +kernel
theorem dX10_isWord_27 : decode cX10_isWord 27 = .ok (.istore_n 2, 1) := by decide +kernel
theorem dX10_isWord_28 : decode cX10_isWord 28 = .ok (.iload_n 2, 1) := by decide +kernel
theorem dX10_isWord_29 : decode cX10_isWord 29 = .ok (.aload_n 1, 1) := by decide +kernel
theorem dX10_isWord_30 : decode cX10_isWord 30 = .ok (.invokevirtual 155, 3) := by decide +kernel
theorem dX10_isWord_33 : decode cX10_isWord 33 = .ok (.if_icmp .ge 30, 3) := by decide +kernel
theorem dX10_isWord_36 : decode cX10_isWord 36 = .ok (.aload_n 0, 1) := by decide +kernel
theorem dX10_isWord_37 : decode cX10_isWord 37 = .ok (.getfield 11, 3) := by decide +kernel
theorem dX10_isWord_40 : decode cX10_isWord 40 = .ok (.aload_n 0, 1) := by decide +kernel
theorem dX10_isWord_41 : decode cX10_isWord 41 = .ok (.getfield 31, 3) := by decide +kernel
theorem dX10_isWord_44 : decode cX10_isWord 44 = .ok (.iload_n 2, 1) := by decide +kernel
theorem dX10_isWord_45 : decode cX10_isWord 45 = .ok (.iadd, 1) := by decide +kernel
theorem dX10_isWord_46 : decode cX10_isWord 46 = .ok (.baload, 1) := by decide +kernel
theorem dX10_isWord_47 : decode cX10_isWord 47 = .ok (.aload_n 1, 1) := by decide +kernel
theorem dX10_isWord_48 : decode cX10_isWord 48 = .ok (.iload_n 2, 1) := by decide +kernel
theorem dX10_isWord_49 : decode cX10_isWord 49 = .ok (.invokevirtual 161, 3) := by decide +kernel
theorem dX10_isWord_52 : decode cX10_isWord 52 = .ok (.if_icmp .eq 5, 3) := by decide +kernel
theorem dX10_isWord_55 : decode cX10_isWord 55 = .ok (.iconst 0, 1) := by decide +kernel
theorem dX10_isWord_56 : decode cX10_isWord 56 = .ok (.ireturn, 1) := by decide +kernel
theorem dX10_isWord_57 : decode cX10_isWord 57 = .ok (.iinc 2 1, 3) := by decide +kernel
theorem dX10_isWord_60 : decode cX10_isWord 60 = .ok (.goto (-32), 3) := by decide +kernel
theorem dX10_isWord_63 : decode cX10_isWord 63 = .ok (.iconst 1, 1) := by decide +kernel
theorem dX10_isWord_64 : decode cX10_isWord 64 = .ok (.ireturn, 1) := by decide +kernel
theorem dX10_readToken_0 : decode cX10_readToken 0 = .ok (.aload_n 0, 1) := by decide +kernel
theorem dX10_readToken_1 : decode cX10_readToken 1 = .ok (.getfield 25, 3) := by decide +kernel
theorem dX10_readToken_4 : decode cX10_readToken 4 = .ok (.aload_n 0, 1) := by decide +kernel
theorem dX10_readToken_5 : decode cX10_readToken 5 = .ok (.getfield 15, 3) := by decide +kernel
theorem dX10_readToken_8 : decode cX10_readToken 8 = .ok (.if_icmp .ge 31, 3) := by decide +kernel
theorem dX10_readToken_11 : decode cX10_readToken 11 = .ok (.aload_n 0, 1) := by decide +kernel
theorem dX10_readToken_12 : decode cX10_readToken 12 = .ok (.getfield 11, 3) := by decide +kernel
theorem dX10_readToken_15 : decode cX10_readToken 15 = .ok (.aload_n 0, 1) := by decide +kernel
theorem dX10_readToken_16 : decode cX10_readToken 16 = .ok (.getfield 25, 3) := by decide +kernel
theorem dX10_readToken_19 : decode cX10_readToken 19 = .ok (.baload, 1) := by decide +kernel
theorem dX10_readToken_20 : decode cX10_readToken 20 = .ok (.invokestatic 165, 3) := by decide +kernel
theorem dX10_readToken_23 : decode cX10_readToken 23 = .ok (.ifCond .eq 16, 3) := by decide +kernel
theorem dX10_readToken_26 : decode cX10_readToken 26 = .ok (.aload_n 0, 1) := by decide +kernel
theorem dX10_readToken_27 : decode cX10_readToken 27 = .ok (.dup, 1) := by decide +kernel
theorem dX10_readToken_28 : decode cX10_readToken 28 = .ok (.getfield 25, 3) := by decide +kernel
theorem dX10_readToken_31 : decode cX10_readToken 31 = .ok (.iconst 1, 1) := by decide +kernel
theorem dX10_readToken_32 : decode cX10_readToken 32 = .ok (.iadd, 1) := by decide +kernel
theorem dX10_readToken_33 : decode cX10_readToken 33 = .ok (.putfield 25, 3) := by decide +kernel
theorem dX10_readToken_36 : decode cX10_readToken 36 = .ok (.goto (-36), 3) := by decide +kernel
theorem dX10_readToken_39 : decode cX10_readToken 39 = .ok (.aload_n 0, 1) := by decide +kernel
theorem dX10_readToken_40 : decode cX10_readToken 40 = .ok (.aload_n 0, 1) := by decide +kernel
theorem dX10_readToken_41 : decode cX10_readToken 41 = .ok (.getfield 25, 3) := by decide +kernel
theorem dX10_readToken_44 : decode cX10_readToken 44 = .ok (.putfield 31, 3) := by decide +kernel
theorem dX10_readToken_47 : decode cX10_readToken 47 = .ok (.aload_n 0, 1) := by decide +kernel
theorem dX10_readToken_48 : decode cX10_readToken 48 = .ok (.iconst 0, 1) := by decide +kernel
theorem dX10_readToken_49 : decode cX10_readToken 49 = .ok (.putfield 37, 3) := by decide +kernel
theorem dX10_readToken_52 : decode cX10_readToken 52 = .ok (.aload_n 0, 1) := by decide +kernel
theorem dX10_readToken_53 : decode cX10_readToken 53 = .ok (.getfield 25, 3) := by decide +kernel
theorem dX10_readToken_56 : decode cX10_readToken 56 = .ok (.aload_n 0, 1) := by decide +kernel
theorem dX10_readToken_57 : decode cX10_readToken 57 = .ok (.getfield 15, 3) := by decide +kernel
theorem dX10_readToken_60 : decode cX10_readToken 60 = .ok (.if_icmp .lt 11, 3) := by decide +kernel
theorem dX10_readToken_63 : decode cX10_readToken 63 = .ok (.aload_n 0, 1) := by decide +kernel
theorem dX10_readToken_64 : decode cX10_readToken 64 = .ok (.iconst 0, 1) := by decide +kernel
theorem dX10_readToken_65 : decode cX10_readToken 65 = .ok (.putfield 28, 3) := by decide +kernel
theorem dX10_readToken_68 : decode cX10_readToken 68 = .ok (.goto 183, 3) := by decide +kernel
theorem dX10_readToken_71 : decode cX10_readToken 71 = .ok (.aload_n 0, 1) := by decide +kernel
theorem dX10_readToken_72 : decode cX10_readToken 72 = .ok (.getfield 11, 3) := by decide +kernel
theorem dX10_readToken_75 : decode cX10_readToken 75 = .ok (.aload_n 0, 1) := by decide +kernel
theorem dX10_readToken_76 : decode cX10_readToken 76 = .ok (.getfield 25, 3) := by decide +kernel
theorem dX10_readToken_79 : decode cX10_readToken 79 = .ok (.baload, 1) := by decide +kernel
theorem dX10_readToken_80 : decode cX10_readToken 80 = .ok (.invokestatic 168, 3) := by decide +kernel
theorem dX10_readToken_83 : decode cX10_readToken 83 = .ok (.ifCond .eq 47, 3) := by decide +kernel
theorem dX10_readToken_86 : decode cX10_readToken 86 = .ok (.aload_n 0, 1) := by decide +kernel
theorem dX10_readToken_87 : decode cX10_readToken 87 = .ok (.iconst 1, 1) := by decide +kernel
theorem dX10_readToken_88 : decode cX10_readToken 88 = .ok (.putfield 28, 3) := by decide +kernel
theorem dX10_readToken_91 : decode cX10_readToken 91 = .ok (.aload_n 0, 1) := by decide +kernel
theorem dX10_readToken_92 : decode cX10_readToken 92 = .ok (.getfield 25, 3) := by decide +kernel
theorem dX10_readToken_95 : decode cX10_readToken 95 = .ok (.aload_n 0, 1) := by decide +kernel
theorem dX10_readToken_96 : decode cX10_readToken 96 = .ok (.getfield 15, 3) := by decide +kernel
theorem dX10_readToken_99 : decode cX10_readToken 99 = .ok (.if_icmp .ge 152, 3) := by decide +kernel
theorem dX10_readToken_102 : decode cX10_readToken 102 = .ok (.aload_n 0, 1) := by decide +kernel
theorem dX10_readToken_103 : decode cX10_readToken 103 = .ok (.getfield 11, 3) := by decide +kernel
theorem dX10_readToken_106 : decode cX10_readToken 106 = .ok (.aload_n 0, 1) := by decide +kernel
theorem dX10_readToken_107 : decode cX10_readToken 107 = .ok (.getfield 25, 3) := by decide +kernel
theorem dX10_readToken_110 : decode cX10_readToken 110 = .ok (.baload, 1) := by decide +kernel
theorem dX10_readToken_111 : decode cX10_readToken 111 = .ok (.invokestatic 168, 3) := by decide +kernel
theorem dX10_readToken_114 : decode cX10_readToken 114 = .ok (.ifCond .eq 137, 3) := by decide +kernel
theorem dX10_readToken_117 : decode cX10_readToken 117 = .ok (.aload_n 0, 1) := by decide +kernel
theorem dX10_readToken_118 : decode cX10_readToken 118 = .ok (.dup, 1) := by decide +kernel
theorem dX10_readToken_119 : decode cX10_readToken 119 = .ok (.getfield 25, 3) := by decide +kernel
theorem dX10_readToken_122 : decode cX10_readToken 122 = .ok (.iconst 1, 1) := by decide +kernel
theorem dX10_readToken_123 : decode cX10_readToken 123 = .ok (.iadd, 1) := by decide +kernel
theorem dX10_readToken_124 : decode cX10_readToken 124 = .ok (.putfield 25, 3) := by decide +kernel
theorem dX10_readToken_127 : decode cX10_readToken 127 = .ok (.goto (-36), 3) := by decide +kernel
theorem dX10_readToken_130 : decode cX10_readToken 130 = .ok (.aload_n 0, 1) := by decide +kernel
theorem dX10_readToken_131 : decode cX10_readToken 131 = .ok (.getfield 11, 3) := by decide +kernel
theorem dX10_readToken_134 : decode cX10_readToken 134 = .ok (.aload_n 0, 1) := by decide +kernel
theorem dX10_readToken_135 : decode cX10_readToken 135 = .ok (.getfield 25, 3) := by decide +kernel
theorem dX10_readToken_138 : decode cX10_readToken 138 = .ok (.baload, 1) := by decide +kernel
theorem dX10_readToken_139 : decode cX10_readToken 139 = .ok (.invokestatic 171, 3) := by decide +kernel
theorem dX10_readToken_142 : decode cX10_readToken 142 = .ok (.ifCond .eq 76, 3) := by decide +kernel
theorem dX10_readToken_145 : decode cX10_readToken 145 = .ok (.aload_n 0, 1) := by decide +kernel
theorem dX10_readToken_146 : decode cX10_readToken 146 = .ok (.iconst 2, 1) := by decide +kernel
theorem dX10_readToken_147 : decode cX10_readToken 147 = .ok (.putfield 28, 3) := by decide +kernel
theorem dX10_readToken_150 : decode cX10_readToken 150 = .ok (.aload_n 0, 1) := by decide +kernel
theorem dX10_readToken_151 : decode cX10_readToken 151 = .ok (.getfield 25, 3) := by decide +kernel
theorem dX10_readToken_154 : decode cX10_readToken 154 = .ok (.aload_n 0, 1) := by decide +kernel
theorem dX10_readToken_155 : decode cX10_readToken 155 = .ok (.getfield 15, 3) := by decide +kernel
theorem dX10_readToken_158 : decode cX10_readToken 158 = .ok (.if_icmp .ge 93, 3) := by decide +kernel
theorem dX10_readToken_161 : decode cX10_readToken 161 = .ok (.aload_n 0, 1) := by decide +kernel
theorem dX10_readToken_162 : decode cX10_readToken 162 = .ok (.getfield 11, 3) := by decide +kernel
theorem dX10_readToken_165 : decode cX10_readToken 165 = .ok (.aload_n 0, 1) := by decide +kernel
theorem dX10_readToken_166 : decode cX10_readToken 166 = .ok (.getfield 25, 3) := by decide +kernel
theorem dX10_readToken_169 : decode cX10_readToken 169 = .ok (.baload, 1) := by decide +kernel
theorem dX10_readToken_170 : decode cX10_readToken 170 = .ok (.invokestatic 171, 3) := by decide +kernel
theorem dX10_readToken_173 : decode cX10_readToken 173 = .ok (.ifCond .eq 78, 3) := by decide +kernel
theorem dX10_readToken_176 : decode cX10_readToken 176 = .ok (.aload_n 0, 1) := by decide +kernel
theorem dX10_readToken_177 : decode cX10_readToken 177 = .ok (.ldc 174, 2) := by decide +kernel
theorem dX10_readToken_179 : decode cX10_readToken 179 = .ok (.bipush 10, 2) := by decide +kernel
theorem dX10_readToken_181 : decode cX10_readToken 181 = .ok (.aload_n 0, 1) := by decide +kernel
theorem dX10_readToken_182 : decode cX10_readToken 182 = .ok (.getfield 37, 3) := by decide +kernel
theorem dX10_readToken_185 : decode cX10_readToken 185 = .ok (.imul, 1) := by decide +kernel
theorem dX10_readToken_186 : decode cX10_readToken 186 = .ok (.aload_n 0, 1) := by decide +kernel
theorem dX10_readToken_187 : decode cX10_readToken 187 = .ok (.getfield 11, 3) := by decide +kernel
theorem dX10_readToken_190 : decode cX10_readToken 190 = .ok (.aload_n 0, 1) := by decide +kernel
theorem dX10_readToken_191 : decode cX10_readToken 191 = .ok (.getfield 25, 3) := by decide +kernel
theorem dX10_readToken_194 : decode cX10_readToken 194 = .ok (.baload, 1) := by decide +kernel
theorem dX10_readToken_195 : decode cX10_readToken 195 = .ok (.bipush 48, 2) := by decide +kernel
theorem dX10_readToken_197 : decode cX10_readToken 197 = .ok (.isub, 1) := by decide +kernel
theorem dX10_readToken_198 : decode cX10_readToken 198 = .ok (.iadd, 1) := by decide +kernel
theorem dX10_readToken_199 : decode cX10_readToken 199 = .ok (.invokestatic 175, 3) := by decide +kernel
theorem dX10_readToken_202 : decode cX10_readToken 202 = .ok (.putfield 37, 3) := by decide +kernel
theorem dX10_readToken_205 : decode cX10_readToken 205 = .ok (.aload_n 0, 1) := by decide +kernel
theorem dX10_readToken_206 : decode cX10_readToken 206 = .ok (.dup, 1) := by decide +kernel
theorem dX10_readToken_207 : decode cX10_readToken 207 = .ok (.getfield 25, 3) := by decide +kernel
theorem dX10_readToken_210 : decode cX10_readToken 210 = .ok (.iconst 1, 1) := by decide +kernel
theorem dX10_readToken_211 : decode cX10_readToken 211 = .ok (.iadd, 1) := by decide +kernel
theorem dX10_readToken_212 : decode cX10_readToken 212 = .ok (.putfield 25, 3) := by decide +kernel
theorem dX10_readToken_215 : decode cX10_readToken 215 = .ok (.goto (-65), 3) := by decide +kernel
theorem dX10_readToken_218 : decode cX10_readToken 218 = .ok (.aload_n 0, 1) := by decide +kernel
theorem dX10_readToken_219 : decode cX10_readToken 219 = .ok (.aload_n 0, 1) := by decide +kernel
theorem dX10_readToken_220 : decode cX10_readToken 220 = .ok (.getfield 11, 3) := by decide +kernel
theorem dX10_readToken_223 : decode cX10_readToken 223 = .ok (.aload_n 0, 1) := by decide +kernel
theorem dX10_readToken_224 : decode cX10_readToken 224 = .ok (.getfield 25, 3) := by decide +kernel
theorem dX10_readToken_227 : decode cX10_readToken 227 = .ok (.baload, 1) := by decide +kernel
theorem dX10_readToken_228 : decode cX10_readToken 228 = .ok (.bipush 59, 2) := by decide +kernel
theorem dX10_readToken_230 : decode cX10_readToken 230 = .ok (.if_icmp .ne 7, 3) := by decide +kernel
theorem dX10_readToken_233 : decode cX10_readToken 233 = .ok (.iconst 3, 1) := by decide +kernel
theorem dX10_readToken_234 : decode cX10_readToken 234 = .ok (.goto 4, 3) := by decide +kernel
theorem dX10_readToken_237 : decode cX10_readToken 237 = .ok (.iconst 4, 1) := by decide +kernel
theorem dX10_readToken_238 : decode cX10_readToken 238 = .ok (.putfield 28, 3) := by decide +kernel
theorem dX10_readToken_241 : decode cX10_readToken 241 = .ok (.aload_n 0, 1) := by decide +kernel
theorem dX10_readToken_242 : decode cX10_readToken 242 = .ok (.dup, 1) := by decide +kernel
theorem dX10_readToken_243 : decode cX10_readToken 243 = .ok (.getfield 25, 3) := by decide +kernel
theorem dX10_readToken_246 : decode cX10_readToken 246 = .ok (.iconst 1, 1) := by decide +kernel
theorem dX10_readToken_247 : decode cX10_readToken 247 = .ok (.iadd, 1) := by decide +kernel
theorem dX10_readToken_248 : decode cX10_readToken 248 = .ok (.putfield 25, 3) := by decide +kernel
theorem dX10_readToken_251 : decode cX10_readToken 251 = .ok (.aload_n 0, 1) := by decide +kernel
theorem dX10_readToken_252 : decode cX10_readToken 252 = .ok (.aload_n 0, 1) := by decide +kernel
theorem dX10_readToken_253 : decode cX10_readToken 253 = .ok (.getfield 25, 3) := by decide +kernel
theorem dX10_readToken_256 : decode cX10_readToken 256 = .ok (.putfield 34, 3) := by decide +kernel
theorem dX10_readToken_259 : decode cX10_readToken 259 = .ok (.return_, 1) := by decide +kernel
theorem dX10_isBlank_0 : decode cX10_isBlank 0 = .ok (.iload_n 0, 1) := by decide +kernel
theorem dX10_isBlank_1 : decode cX10_isBlank 1 = .ok (.bipush 32, 2) := by decide +kernel
theorem dX10_isBlank_3 : decode cX10_isBlank 3 = .ok (.if_icmp .eq 9, 3) := by decide +kernel
theorem dX10_isBlank_6 : decode cX10_isBlank 6 = .ok (.iload_n 0, 1) := by decide +kernel
theorem dX10_isBlank_7 : decode cX10_isBlank 7 = .ok (.bipush 10, 2) := by decide +kernel
theorem dX10_isBlank_9 : decode cX10_isBlank 9 = .ok (.if_icmp .ne 7, 3) := by decide +kernel
theorem dX10_isBlank_12 : decode cX10_isBlank 12 = .ok (.iconst 1, 1) := by decide +kernel
theorem dX10_isBlank_13 : decode cX10_isBlank 13 = .ok (.goto 4, 3) := by decide +kernel
theorem dX10_isBlank_16 : decode cX10_isBlank 16 = .ok (.iconst 0, 1) := by decide +kernel
theorem dX10_isBlank_17 : decode cX10_isBlank 17 = .ok (.ireturn, 1) := by decide +kernel
theorem dX10_isLetter_0 : decode cX10_isLetter 0 = .ok (.iload_n 0, 1) := by decide +kernel
theorem dX10_isLetter_1 : decode cX10_isLetter 1 = .ok (.bipush 97, 2) := by decide +kernel
theorem dX10_isLetter_3 : decode cX10_isLetter 3 = .ok (.if_icmp .lt 13, 3) := by decide +kernel

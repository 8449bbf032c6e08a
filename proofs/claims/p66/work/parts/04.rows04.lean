theorem dX12_right_6 : decode cX12_right 6 = .ok (.invokevirtual 278, 3) := by decide +kernel
theorem dX12_right_9 : decode cX12_right 9 = .ok (.ifCond .eq 10, 3) := by decide +kernel
theorem dX12_right_12 : decode cX12_right 12 = .ok (.iload_n 1, 1) := by decide +kernel
theorem dX12_right_13 : decode cX12_right 13 = .ok (.invokestatic 272, 3) := by decide +kernel
theorem dX12_right_16 : decode cX12_right 16 = .ok (.ifCond .ne 6, 3) := by decide +kernel
theorem dX12_right_19 : decode cX12_right 19 = .ok (.bipush (-2), 2) := by decide +kernel
theorem dX12_right_21 : decode cX12_right 21 = .ok (.ireturn, 1) := by decide +kernel
theorem dX12_right_22 : decode cX12_right 22 = .ok (.aload_n 0, 1) := by decide +kernel
theorem dX12_right_23 : decode cX12_right 23 = .ok (.invokevirtual 266, 3) := by decide +kernel
theorem dX12_right_26 : decode cX12_right 26 = .ok (.aload_n 0, 1) := by decide +kernel
theorem dX12_right_27 : decode cX12_right 27 = .ok (.iload_n 1, 1) := by decide +kernel
theorem dX12_right_28 : decode cX12_right 28 = .ok (.invokevirtual 275, 3) := by decide +kernel
theorem dX12_right_31 : decode cX12_right 31 = .ok (.aload_n 0, 1) := by decide +kernel
theorem dX12_right_32 : decode cX12_right 32 = .ok (.invokevirtual 281, 3) := by decide +kernel
theorem dX12_right_35 : decode cX12_right 35 = .ok (.invokestatic 284, 3) := by decide +kernel
theorem dX12_right_38 : decode cX12_right 38 = .ok (.ireturn, 1) := by decide +kernel
theorem dX12_rights_0 : decode cX12_rights 0 = .ok (.aload_n 0, 1) := by decide +kernel
theorem dX12_rights_1 : decode cX12_rights 1 = .ok (.iconst 0, 1) := by decide +kernel
theorem dX12_rights_2 : decode cX12_rights 2 = .ok (.putfield 89, 3) := by decide +kernel
theorem dX12_rights_5 : decode cX12_rights 5 = .ok (.aload_n 0, 1) := by decide +kernel
theorem dX12_rights_6 : decode cX12_rights 6 = .ok (.invokevirtual 278, 3) := by decide +kernel
theorem dX12_rights_9 : decode cX12_rights 9 = .ok (.ifCond .ne 6, 3) := by decide +kernel
theorem dX12_rights_12 : decode cX12_rights 12 = .ok (.bipush (-2), 2) := by decide +kernel
theorem dX12_rights_14 : decode cX12_rights 14 = .ok (.ireturn, 1) := by decide +kernel
theorem dX12_rights_15 : decode cX12_rights 15 = .ok (.aload_n 0, 1) := by decide +kernel
theorem dX12_rights_16 : decode cX12_rights 16 = .ok (.invokevirtual 266, 3) := by decide +kernel
theorem dX12_rights_19 : decode cX12_rights 19 = .ok (.aload_n 0, 1) := by decide +kernel
theorem dX12_rights_20 : decode cX12_rights 20 = .ok (.invokevirtual 281, 3) := by decide +kernel
theorem dX12_rights_23 : decode cX12_rights 23 = .ok (.ireturn, 1) := by decide +kernel
theorem dX12_whole_0 : decode cX12_whole 0 = .ok (.aload_n 0, 1) := by decide +kernel
theorem dX12_whole_1 : decode cX12_whole 1 = .ok (.iconst 0, 1) := by decide +kernel
theorem dX12_whole_2 : decode cX12_whole 2 = .ok (.putfield 89, 3) := by decide +kernel
theorem dX12_whole_5 : decode cX12_whole 5 = .ok (.aload_n 0, 1) := by decide +kernel
theorem dX12_whole_6 : decode cX12_whole 6 = .ok (.invokevirtual 278, 3) := by decide +kernel
theorem dX12_whole_9 : decode cX12_whole 9 = .ok (.ifCond .ne 6, 3) := by decide +kernel
theorem dX12_whole_12 : decode cX12_whole 12 = .ok (.bipush (-2), 2) := by decide +kernel
theorem dX12_whole_14 : decode cX12_whole 14 = .ok (.ireturn, 1) := by decide +kernel
theorem dX12_whole_15 : decode cX12_whole 15 = .ok (.aload_n 0, 1) := by decide +kernel
theorem dX12_whole_16 : decode cX12_whole 16 = .ok (.invokevirtual 266, 3) := by decide +kernel
theorem dX12_whole_19 : decode cX12_whole 19 = .ok (.iconst 0, 1) := by decide +kernel
theorem dX12_whole_20 : decode cX12_whole 20 = .ok (.istore_n 1, 1) := by decide +kernel
theorem dX12_whole_21 : decode cX12_whole 21 = .ok (.iload_n 1, 1) := by decide +kernel
theorem dX12_whole_22 : decode cX12_whole 22 = .ok (.sipush 5000, 3) := by decide +kernel
theorem dX12_whole_25 : decode cX12_whole 25 = .ok (.if_icmp .gt 40, 3) := by decide +kernel
theorem dX12_whole_28 : decode cX12_whole 28 = .ok (.aload_n 0, 1) := by decide +kernel
theorem dX12_whole_29 : decode cX12_whole 29 = .ok (.invokevirtual 281, 3) := by decide +kernel
theorem dX12_whole_32 : decode cX12_whole 32 = .ok (.invokestatic 284, 3) := by decide +kernel
theorem dX12_whole_35 : decode cX12_whole 35 = .ok (.aload_n 0, 1) := by decide +kernel
theorem dX12_whole_36 : decode cX12_whole 36 = .ok (.invokevirtual 241, 3) := by decide +kernel
theorem dX12_whole_39 : decode cX12_whole 39 = .ok (.if_icmp .ne 5, 3) := by decide +kernel
theorem dX12_whole_42 : decode cX12_whole 42 = .ok (.iload_n 1, 1) := by decide +kernel
theorem dX12_whole_43 : decode cX12_whole 43 = .ok (.ireturn, 1) := by decide +kernel
theorem dX12_whole_44 : decode cX12_whole 44 = .ok (.aload_n 0, 1) := by decide +kernel
theorem dX12_whole_45 : decode cX12_whole 45 = .ok (.aload_n 0, 1) := by decide +kernel
theorem dX12_whole_46 : decode cX12_whole 46 = .ok (.getfield 59, 3) := by decide +kernel
theorem dX12_whole_49 : decode cX12_whole 49 = .ok (.aload_n 0, 1) := by decide +kernel
theorem dX12_whole_50 : decode cX12_whole 50 = .ok (.getfield 255, 3) := by decide +kernel
theorem dX12_whole_53 : decode cX12_whole 53 = .ok (.iload_n 1, 1) := by decide +kernel
theorem dX12_whole_54 : decode cX12_whole 54 = .ok (.iadd, 1) := by decide +kernel
theorem dX12_whole_55 : decode cX12_whole 55 = .ok (.iconst 0, 1) := by decide +kernel
theorem dX12_whole_56 : decode cX12_whole 56 = .ok (.invokevirtual 258, 3) := by decide +kernel
theorem dX12_whole_59 : decode cX12_whole 59 = .ok (.iinc 1 1, 3) := by decide +kernel
theorem dX12_whole_62 : decode cX12_whole 62 = .ok (.goto (-41), 3) := by decide +kernel
theorem dX12_whole_65 : decode cX12_whole 65 = .ok (.iconst (-1), 1) := by decide +kernel
theorem dX12_whole_66 : decode cX12_whole 66 = .ok (.ireturn, 1) := by decide +kernel
theorem dX12_round_0 : decode cX12_round 0 = .ok (.aload_n 0, 1) := by decide +kernel
theorem dX12_round_1 : decode cX12_round 1 = .ok (.iconst 0, 1) := by decide +kernel
theorem dX12_round_2 : decode cX12_round 2 = .ok (.putfield 89, 3) := by decide +kernel
theorem dX12_round_5 : decode cX12_round 5 = .ok (.aload_n 0, 1) := by decide +kernel
theorem dX12_round_6 : decode cX12_round 6 = .ok (.invokevirtual 278, 3) := by decide +kernel
theorem dX12_round_9 : decode cX12_round 9 = .ok (.ifCond .ne 6, 3) := by decide +kernel
theorem dX12_round_12 : decode cX12_round 12 = .ok (.bipush (-2), 2) := by decide +kernel
theorem dX12_round_14 : decode cX12_round 14 = .ok (.ireturn, 1) := by decide +kernel
theorem dX12_round_15 : decode cX12_round 15 = .ok (.aload_n 0, 1) := by decide +kernel
theorem dX12_round_16 : decode cX12_round 16 = .ok (.invokevirtual 266, 3) := by decide +kernel
theorem dX12_round_19 : decode cX12_round 19 = .ok (.iconst 0, 1) := by decide +kernel
theorem dX12_round_20 : decode cX12_round 20 = .ok (.istore_n 1, 1) := by decide +kernel
theorem dX12_round_21 : decode cX12_round 21 = .ok (.iload_n 1, 1) := by decide +kernel
theorem dX12_round_22 : decode cX12_round 22 = .ok (.aload_n 0, 1) := by decide +kernel
theorem dX12_round_23 : decode cX12_round 23 = .ok (.invokevirtual 241, 3) := by decide +kernel
theorem dX12_round_26 : decode cX12_round 26 = .ok (.if_icmp .ge 21, 3) := by decide +kernel
theorem dX12_round_29 : decode cX12_round 29 = .ok (.aload_n 0, 1) := by decide +kernel
theorem dX12_round_30 : decode cX12_round 30 = .ok (.getfield 56, 3) := by decide +kernel
theorem dX12_round_33 : decode cX12_round 33 = .ok (.iload_n 1, 1) := by decide +kernel
theorem dX12_round_34 : decode cX12_round 34 = .ok (.aload_n 0, 1) := by decide +kernel
theorem dX12_round_35 : decode cX12_round 35 = .ok (.getfield 59, 3) := by decide +kernel
theorem dX12_round_38 : decode cX12_round 38 = .ok (.iload_n 1, 1) := by decide +kernel
theorem dX12_round_39 : decode cX12_round 39 = .ok (.iaload, 1) := by decide +kernel
theorem dX12_round_40 : decode cX12_round 40 = .ok (.iastore, 1) := by decide +kernel
theorem dX12_round_41 : decode cX12_round 41 = .ok (.iinc 1 1, 3) := by decide +kernel
theorem dX12_round_44 : decode cX12_round 44 = .ok (.goto (-23), 3) := by decide +kernel
theorem dX12_round_47 : decode cX12_round 47 = .ok (.iconst 1, 1) := by decide +kernel
theorem dX12_round_48 : decode cX12_round 48 = .ok (.istore_n 1, 1) := by decide +kernel
theorem dX12_round_49 : decode cX12_round 49 = .ok (.iload_n 1, 1) := by decide +kernel
theorem dX12_round_50 : decode cX12_round 50 = .ok (.sipush 5000, 3) := by decide +kernel
theorem dX12_round_53 : decode cX12_round 53 = .ok (.if_icmp .gt 73, 3) := by decide +kernel
theorem dX12_round_56 : decode cX12_round 56 = .ok (.aload_n 0, 1) := by decide +kernel
theorem dX12_round_57 : decode cX12_round 57 = .ok (.aload_n 0, 1) := by decide +kernel
theorem dX12_round_58 : decode cX12_round 58 = .ok (.getfield 59, 3) := by decide +kernel
theorem dX12_round_61 : decode cX12_round 61 = .ok (.aload_n 0, 1) := by decide +kernel
theorem dX12_round_62 : decode cX12_round 62 = .ok (.getfield 255, 3) := by decide +kernel
theorem dX12_round_65 : decode cX12_round 65 = .ok (.iload_n 1, 1) := by decide +kernel
theorem dX12_round_66 : decode cX12_round 66 = .ok (.iadd, 1) := by decide +kernel
theorem dX12_round_67 : decode cX12_round 67 = .ok (.iconst 1, 1) := by decide +kernel
theorem dX12_round_68 : decode cX12_round 68 = .ok (.isub, 1) := by decide +kernel
theorem dX12_round_69 : decode cX12_round 69 = .ok (.iconst 0, 1) := by decide +kernel
theorem dX12_round_70 : decode cX12_round 70 = .ok (.invokevirtual 258, 3) := by decide +kernel
theorem dX12_round_73 : decode cX12_round 73 = .ok (.iconst 1, 1) := by decide +kernel
theorem dX12_round_74 : decode cX12_round 74 = .ok (.istore_n 2, 1) := by decide +kernel
theorem dX12_round_75 : decode cX12_round 75 = .ok (.iconst 0, 1) := by decide +kernel
theorem dX12_round_76 : decode cX12_round 76 = .ok (.istore_n 3, 1) := by decide +kernel
theorem dX12_round_77 : decode cX12_round 77 = .ok (.iload_n 3, 1) := by decide +kernel
theorem dX12_round_78 : decode cX12_round 78 = .ok (.aload_n 0, 1) := by decide +kernel
theorem dX12_round_79 : decode cX12_round 79 = .ok (.invokevirtual 241, 3) := by decide +kernel
theorem dX12_round_82 : decode cX12_round 82 = .ok (.if_icmp .ge 32, 3) := by decide +kernel
theorem dX12_round_85 : decode cX12_round 85 = .ok (.iload_n 2, 1) := by decide +kernel
theorem dX12_round_86 : decode cX12_round 86 = .ok (.aload_n 0, 1) := by decide +kernel
theorem dX12_round_87 : decode cX12_round 87 = .ok (.getfield 56, 3) := by decide +kernel
theorem dX12_round_90 : decode cX12_round 90 = .ok (.iload_n 3, 1) := by decide +kernel
theorem dX12_round_91 : decode cX12_round 91 = .ok (.iaload, 1) := by decide +kernel
theorem dX12_round_92 : decode cX12_round 92 = .ok (.aload_n 0, 1) := by decide +kernel
theorem dX12_round_93 : decode cX12_round 93 = .ok (.getfield 59, 3) := by decide +kernel
theorem dX12_round_96 : decode cX12_round 96 = .ok (.iload_n 3, 1) := by decide +kernel
theorem dX12_round_97 : decode cX12_round 97 = .ok (.iaload, 1) := by decide +kernel
theorem dX12_round_98 : decode cX12_round 98 = .ok (.if_icmp .ne 7, 3) := by decide +kernel
theorem dX12_round_101 : decode cX12_round 101 = .ok (.iconst 1, 1) := by decide +kernel
theorem dX12_round_102 : decode cX12_round 102 = .ok (.goto 4, 3) := by decide +kernel
theorem dX12_round_105 : decode cX12_round 105 = .ok (.iconst 0, 1) := by decide +kernel
theorem dX12_round_106 : decode cX12_round 106 = .ok (.iand, 1) := by decide +kernel
theorem dX12_round_107 : decode cX12_round 107 = .ok (.istore_n 2, 1) := by decide +kernel
theorem dX12_round_108 : decode cX12_round 108 = .ok (.iinc 3 1, 3) := by decide +kernel
theorem dX12_round_111 : decode cX12_round 111 = .ok (.goto (-34), 3) := by decide +kernel
theorem dX12_round_114 : decode cX12_round 114 = .ok (.iload_n 2, 1) := by decide +kernel
theorem dX12_round_115 : decode cX12_round 115 = .ok (.ifCond .eq 5, 3) := by decide +kernel
theorem dX12_round_118 : decode cX12_round 118 = .ok (.iload_n 1, 1) := by decide +kernel
theorem dX12_round_119 : decode cX12_round 119 = .ok (.ireturn, 1) := by decide +kernel
theorem dX12_round_120 : decode cX12_round 120 = .ok (.iinc 1 1, 3) := by decide +kernel
theorem dX12_round_123 : decode cX12_round 123 = .ok (.goto (-74), 3) := by decide +kernel
theorem dX12_round_126 : decode cX12_round 126 = .ok (.iconst (-1), 1) := by decide +kernel
theorem dX12_round_127 : decode cX12_round 127 = .ok (.ireturn, 1) := by decide +kernel
theorem dX12_comes_0 : decode cX12_comes 0 = .ok (.aload_n 0, 1) := by decide +kernel
theorem dX12_comes_1 : decode cX12_comes 1 = .ok (.iconst 0, 1) := by decide +kernel
theorem dX12_comes_2 : decode cX12_comes 2 = .ok (.putfield 89, 3) := by decide +kernel
theorem dX12_comes_5 : decode cX12_comes 5 = .ok (.aload_n 0, 1) := by decide +kernel
theorem dX12_comes_6 : decode cX12_comes 6 = .ok (.iload_n 1, 1) := by decide +kernel
theorem dX12_comes_7 : decode cX12_comes 7 = .ok (.i2l, 1) := by decide +kernel
theorem dX12_comes_8 : decode cX12_comes 8 = .ok (.invokevirtual 263, 3) := by decide +kernel
theorem dX12_comes_11 : decode cX12_comes 11 = .ok (.ifCond .eq 12, 3) := by decide +kernel
theorem dX12_comes_14 : decode cX12_comes 14 = .ok (.aload_n 0, 1) := by decide +kernel
theorem dX12_comes_15 : decode cX12_comes 15 = .ok (.iload_n 2, 1) := by decide +kernel
theorem dX12_comes_16 : decode cX12_comes 16 = .ok (.i2l, 1) := by decide +kernel
theorem dX12_comes_17 : decode cX12_comes 17 = .ok (.invokevirtual 263, 3) := by decide +kernel
theorem dX12_comes_20 : decode cX12_comes 20 = .ok (.ifCond .ne 6, 3) := by decide +kernel
theorem dX12_comes_23 : decode cX12_comes 23 = .ok (.bipush (-2), 2) := by decide +kernel
theorem dX12_comes_25 : decode cX12_comes 25 = .ok (.ireturn, 1) := by decide +kernel
theorem dX12_comes_26 : decode cX12_comes 26 = .ok (.aload_n 0, 1) := by decide +kernel
theorem dX12_comes_27 : decode cX12_comes 27 = .ok (.invokevirtual 266, 3) := by decide +kernel
theorem dX12_comes_30 : decode cX12_comes 30 = .ok (.iconst 0, 1) := by decide +kernel
theorem dX12_comes_31 : decode cX12_comes 31 = .ok (.istore_n 3, 1) := by decide +kernel
theorem dX12_comes_32 : decode cX12_comes 32 = .ok (.iload_n 3, 1) := by decide +kernel
theorem dX12_comes_33 : decode cX12_comes 33 = .ok (.sipush 5000, 3) := by decide +kernel
theorem dX12_comes_36 : decode cX12_comes 36 = .ok (.if_icmp .gt 36, 3) := by decide +kernel
theorem dX12_comes_39 : decode cX12_comes 39 = .ok (.aload_n 0, 1) := by decide +kernel
theorem dX12_comes_40 : decode cX12_comes 40 = .ok (.getfield 59, 3) := by decide +kernel
theorem dX12_comes_43 : decode cX12_comes 43 = .ok (.iload_n 2, 1) := by decide +kernel
theorem dX12_comes_44 : decode cX12_comes 44 = .ok (.iaload, 1) := by decide +kernel
theorem dX12_comes_45 : decode cX12_comes 45 = .ok (.iload_n 1, 1) := by decide +kernel
theorem dX12_comes_46 : decode cX12_comes 46 = .ok (.if_icmp .ne 5, 3) := by decide +kernel
theorem dX12_comes_49 : decode cX12_comes 49 = .ok (.iload_n 3, 1) := by decide +kernel
theorem dX12_comes_50 : decode cX12_comes 50 = .ok (.ireturn, 1) := by decide +kernel
theorem dX12_comes_51 : decode cX12_comes 51 = .ok (.aload_n 0, 1) := by decide +kernel
theorem dX12_comes_52 : decode cX12_comes 52 = .ok (.aload_n 0, 1) := by decide +kernel
theorem dX12_comes_53 : decode cX12_comes 53 = .ok (.getfield 59, 3) := by decide +kernel
theorem dX12_comes_56 : decode cX12_comes 56 = .ok (.aload_n 0, 1) := by decide +kernel
theorem dX12_comes_57 : decode cX12_comes 57 = .ok (.getfield 255, 3) := by decide +kernel
theorem dX12_comes_60 : decode cX12_comes 60 = .ok (.iload_n 3, 1) := by decide +kernel
theorem dX12_comes_61 : decode cX12_comes 61 = .ok (.iadd, 1) := by decide +kernel
theorem dX12_comes_62 : decode cX12_comes 62 = .ok (.iconst 0, 1) := by decide +kernel
theorem dX12_comes_63 : decode cX12_comes 63 = .ok (.invokevirtual 258, 3) := by decide +kernel
theorem dX12_comes_66 : decode cX12_comes 66 = .ok (.iinc 3 1, 3) := by decide +kernel
theorem dX12_comes_69 : decode cX12_comes 69 = .ok (.goto (-37), 3) := by decide +kernel
theorem dX12_comes_72 : decode cX12_comes 72 = .ok (.iconst (-1), 1) := by decide +kernel
theorem dX12_comes_73 : decode cX12_comes 73 = .ok (.ireturn, 1) := by decide +kernel
theorem dX12_meet_0 : decode cX12_meet 0 = .ok (.aload_n 0, 1) := by decide +kernel
theorem dX12_meet_1 : decode cX12_meet 1 = .ok (.iconst 0, 1) := by decide +kernel
theorem dX12_meet_2 : decode cX12_meet 2 = .ok (.putfield 89, 3) := by decide +kernel
theorem dX12_meet_5 : decode cX12_meet 5 = .ok (.aload_n 0, 1) := by decide +kernel
theorem dX12_meet_6 : decode cX12_meet 6 = .ok (.iload_n 1, 1) := by decide +kernel
theorem dX12_meet_7 : decode cX12_meet 7 = .ok (.i2l, 1) := by decide +kernel
theorem dX12_meet_8 : decode cX12_meet 8 = .ok (.invokevirtual 263, 3) := by decide +kernel
theorem dX12_meet_11 : decode cX12_meet 11 = .ok (.ifCond .eq 17, 3) := by decide +kernel
theorem dX12_meet_14 : decode cX12_meet 14 = .ok (.aload_n 0, 1) := by decide +kernel
theorem dX12_meet_15 : decode cX12_meet 15 = .ok (.iload_n 2, 1) := by decide +kernel
theorem dX12_meet_16 : decode cX12_meet 16 = .ok (.i2l, 1) := by decide +kernel
theorem dX12_meet_17 : decode cX12_meet 17 = .ok (.invokevirtual 263, 3) := by decide +kernel
theorem dX12_meet_20 : decode cX12_meet 20 = .ok (.ifCond .eq 8, 3) := by decide +kernel
theorem dX12_meet_23 : decode cX12_meet 23 = .ok (.iload_n 1, 1) := by decide +kernel
theorem dX12_meet_24 : decode cX12_meet 24 = .ok (.iload_n 2, 1) := by decide +kernel
theorem dX12_meet_25 : decode cX12_meet 25 = .ok (.if_icmp .ne 6, 3) := by decide +kernel
theorem dX12_meet_28 : decode cX12_meet 28 = .ok (.bipush (-2), 2) := by decide +kernel
theorem dX12_meet_30 : decode cX12_meet 30 = .ok (.ireturn, 1) := by decide +kernel
theorem dX12_meet_31 : decode cX12_meet 31 = .ok (.aload_n 0, 1) := by decide +kernel
theorem dX12_meet_32 : decode cX12_meet 32 = .ok (.invokevirtual 266, 3) := by decide +kernel
theorem dX12_meet_35 : decode cX12_meet 35 = .ok (.iconst 0, 1) := by decide +kernel
theorem dX12_meet_36 : decode cX12_meet 36 = .ok (.istore_n 3, 1) := by decide +kernel
theorem dX12_meet_37 : decode cX12_meet 37 = .ok (.iload_n 3, 1) := by decide +kernel
theorem dX12_meet_38 : decode cX12_meet 38 = .ok (.sipush 5000, 3) := by decide +kernel
theorem dX12_meet_41 : decode cX12_meet 41 = .ok (.if_icmp .gt 51, 3) := by decide +kernel
theorem dX12_meet_44 : decode cX12_meet 44 = .ok (.aload_n 0, 1) := by decide +kernel
theorem dX12_meet_45 : decode cX12_meet 45 = .ok (.iload_n 1, 1) := by decide +kernel
theorem dX12_meet_46 : decode cX12_meet 46 = .ok (.invokevirtual 269, 3) := by decide +kernel
theorem dX12_meet_49 : decode cX12_meet 49 = .ok (.aload_n 0, 1) := by decide +kernel
theorem dX12_meet_50 : decode cX12_meet 50 = .ok (.iload_n 2, 1) := by decide +kernel
theorem dX12_meet_51 : decode cX12_meet 51 = .ok (.invokevirtual 269, 3) := by decide +kernel
theorem dX12_meet_54 : decode cX12_meet 54 = .ok (.isub, 1) := by decide +kernel
theorem dX12_meet_55 : decode cX12_meet 55 = .ok (.istore 4, 2) := by decide +kernel
theorem dX12_meet_57 : decode cX12_meet 57 = .ok (.iload 4, 2) := by decide +kernel
theorem dX12_meet_59 : decode cX12_meet 59 = .ok (.iconst 1, 1) := by decide +kernel
theorem dX12_meet_60 : decode cX12_meet 60 = .ok (.if_icmp .eq 9, 3) := by decide +kernel
theorem dX12_meet_63 : decode cX12_meet 63 = .ok (.iload 4, 2) := by decide +kernel
theorem dX12_meet_65 : decode cX12_meet 65 = .ok (.iconst (-1), 1) := by decide +kernel
theorem dX12_meet_66 : decode cX12_meet 66 = .ok (.if_icmp .ne 5, 3) := by decide +kernel
theorem dX12_meet_69 : decode cX12_meet 69 = .ok (.iload_n 3, 1) := by decide +kernel
theorem dX12_meet_70 : decode cX12_meet 70 = .ok (.ireturn, 1) := by decide +kernel
theorem dX12_meet_71 : decode cX12_meet 71 = .ok (.aload_n 0, 1) := by decide +kernel
theorem dX12_meet_72 : decode cX12_meet 72 = .ok (.aload_n 0, 1) := by decide +kernel
theorem dX12_meet_73 : decode cX12_meet 73 = .ok (.getfield 59, 3) := by decide +kernel
theorem dX12_meet_76 : decode cX12_meet 76 = .ok (.aload_n 0, 1) := by decide +kernel
theorem dX12_meet_77 : decode cX12_meet 77 = .ok (.getfield 255, 3) := by decide +kernel
theorem dX12_meet_80 : decode cX12_meet 80 = .ok (.iload_n 3, 1) := by decide +kernel
theorem dX12_meet_81 : decode cX12_meet 81 = .ok (.iadd, 1) := by decide +kernel
theorem dX12_meet_82 : decode cX12_meet 82 = .ok (.iconst 0, 1) := by decide +kernel
theorem dX12_meet_83 : decode cX12_meet 83 = .ok (.invokevirtual 258, 3) := by decide +kernel
theorem dX12_meet_86 : decode cX12_meet 86 = .ok (.iinc 3 1, 3) := by decide +kernel
theorem dX12_meet_89 : decode cX12_meet 89 = .ok (.goto (-52), 3) := by decide +kernel
theorem dX12_meet_92 : decode cX12_meet 92 = .ok (.iconst (-1), 1) := by decide +kernel
theorem dX12_meet_93 : decode cX12_meet 93 = .ok (.ireturn, 1) := by decide +kernel
theorem dX12_lawsOf_0 : decode cX12_lawsOf 0 = .ok (.iconst 0, 1) := by decide +kernel
theorem dX12_lawsOf_1 : decode cX12_lawsOf 1 = .ok (.istore_n 2, 1) := by decide +kernel
theorem dX12_lawsOf_2 : decode cX12_lawsOf 2 = .ok (.iconst 0, 1) := by decide +kernel
theorem dX12_lawsOf_3 : decode cX12_lawsOf 3 = .ok (.istore_n 3, 1) := by decide +kernel
theorem dX12_lawsOf_4 : decode cX12_lawsOf 4 = .ok (.iload_n 3, 1) := by decide +kernel
theorem dX12_lawsOf_5 : decode cX12_lawsOf 5 = .ok (.aload_n 0, 1) := by decide +kernel
theorem dX12_lawsOf_6 : decode cX12_lawsOf 6 = .ok (.getfield 34, 3) := by decide +kernel
theorem dX12_lawsOf_9 : decode cX12_lawsOf 9 = .ok (.iconst 1, 1) := by decide +kernel
theorem dX12_lawsOf_10 : decode cX12_lawsOf 10 = .ok (.iaload, 1) := by decide +kernel
theorem dX12_lawsOf_11 : decode cX12_lawsOf 11 = .ok (.if_icmp .ge 28, 3) := by decide +kernel
theorem dX12_lawsOf_14 : decode cX12_lawsOf 14 = .ok (.iload_n 2, 1) := by decide +kernel
theorem dX12_lawsOf_15 : decode cX12_lawsOf 15 = .ok (.aload_n 0, 1) := by decide +kernel
theorem dX12_lawsOf_16 : decode cX12_lawsOf 16 = .ok (.iload_n 3, 1) := by decide +kernel
theorem dX12_lawsOf_17 : decode cX12_lawsOf 17 = .ok (.iload_n 1, 1) := by decide +kernel
theorem dX12_lawsOf_18 : decode cX12_lawsOf 18 = .ok (.invokevirtual 248, 3) := by decide +kernel
theorem dX12_lawsOf_21 : decode cX12_lawsOf 21 = .ok (.ifCond .eq 9, 3) := by decide +kernel
theorem dX12_lawsOf_24 : decode cX12_lawsOf 24 = .ok (.iconst 1, 1) := by decide +kernel
theorem dX12_lawsOf_25 : decode cX12_lawsOf 25 = .ok (.iload_n 3, 1) := by decide +kernel
theorem dX12_lawsOf_26 : decode cX12_lawsOf 26 = .ok (.ishl, 1) := by decide +kernel
theorem dX12_lawsOf_27 : decode cX12_lawsOf 27 = .ok (.goto 4, 3) := by decide +kernel
theorem dX12_lawsOf_30 : decode cX12_lawsOf 30 = .ok (.iconst 0, 1) := by decide +kernel
theorem dX12_lawsOf_31 : decode cX12_lawsOf 31 = .ok (.ior, 1) := by decide +kernel
theorem dX12_lawsOf_32 : decode cX12_lawsOf 32 = .ok (.istore_n 2, 1) := by decide +kernel
theorem dX12_lawsOf_33 : decode cX12_lawsOf 33 = .ok (.iinc 3 1, 3) := by decide +kernel
theorem dX12_lawsOf_36 : decode cX12_lawsOf 36 = .ok (.goto (-32), 3) := by decide +kernel
theorem dX12_lawsOf_39 : decode cX12_lawsOf 39 = .ok (.iload_n 2, 1) := by decide +kernel
theorem dX12_lawsOf_40 : decode cX12_lawsOf 40 = .ok (.ireturn, 1) := by decide +kernel
theorem dX12_tonight_0 : decode cX12_tonight 0 = .ok (.aload_n 0, 1) := by decide +kernel
theorem dX12_tonight_1 : decode cX12_tonight 1 = .ok (.iconst 0, 1) := by decide +kernel
theorem dX12_tonight_2 : decode cX12_tonight 2 = .ok (.putfield 89, 3) := by decide +kernel
theorem dX12_tonight_5 : decode cX12_tonight 5 = .ok (.aload_n 0, 1) := by decide +kernel
theorem dX12_tonight_6 : decode cX12_tonight 6 = .ok (.invokevirtual 278, 3) := by decide +kernel
theorem dX12_tonight_9 : decode cX12_tonight 9 = .ok (.ifCond .eq 10, 3) := by decide +kernel
theorem dX12_tonight_12 : decode cX12_tonight 12 = .ok (.iload_n 1, 1) := by decide +kernel
theorem dX12_tonight_13 : decode cX12_tonight 13 = .ok (.invokestatic 272, 3) := by decide +kernel
theorem dX12_tonight_16 : decode cX12_tonight 16 = .ok (.ifCond .ne 6, 3) := by decide +kernel
theorem dX12_tonight_19 : decode cX12_tonight 19 = .ok (.bipush (-2), 2) := by decide +kernel
theorem dX12_tonight_21 : decode cX12_tonight 21 = .ok (.ireturn, 1) := by decide +kernel
theorem dX12_tonight_22 : decode cX12_tonight 22 = .ok (.aload_n 0, 1) := by decide +kernel
theorem dX12_tonight_23 : decode cX12_tonight 23 = .ok (.invokevirtual 266, 3) := by decide +kernel
theorem dX12_tonight_26 : decode cX12_tonight 26 = .ok (.aload_n 0, 1) := by decide +kernel
theorem dX12_tonight_27 : decode cX12_tonight 27 = .ok (.aload_n 0, 1) := by decide +kernel
theorem dX12_tonight_28 : decode cX12_tonight 28 = .ok (.getfield 255, 3) := by decide +kernel
theorem dX12_tonight_31 : decode cX12_tonight 31 = .ok (.iload_n 1, 1) := by decide +kernel
theorem dX12_tonight_32 : decode cX12_tonight 32 = .ok (.iadd, 1) := by decide +kernel
theorem dX12_tonight_33 : decode cX12_tonight 33 = .ok (.invokevirtual 287, 3) := by decide +kernel
theorem dX12_tonight_36 : decode cX12_tonight 36 = .ok (.ireturn, 1) := by decide +kernel
theorem dX12_ringsOf_0 : decode cX12_ringsOf 0 = .ok (.iconst 0, 1) := by decide +kernel
theorem dX12_ringsOf_1 : decode cX12_ringsOf 1 = .ok (.istore_n 2, 1) := by decide +kernel
theorem dX12_ringsOf_2 : decode cX12_ringsOf 2 = .ok (.iconst 0, 1) := by decide +kernel
theorem dX12_ringsOf_3 : decode cX12_ringsOf 3 = .ok (.istore_n 3, 1) := by decide +kernel
theorem dX12_ringsOf_4 : decode cX12_ringsOf 4 = .ok (.iconst 0, 1) := by decide +kernel
theorem dX12_ringsOf_5 : decode cX12_ringsOf 5 = .ok (.istore 4, 2) := by decide +kernel
theorem dX12_ringsOf_7 : decode cX12_ringsOf 7 = .ok (.iload 4, 2) := by decide +kernel
theorem dX12_ringsOf_9 : decode cX12_ringsOf 9 = .ok (.aload_n 0, 1) := by decide +kernel
theorem dX12_ringsOf_10 : decode cX12_ringsOf 10 = .ok (.invokevirtual 241, 3) := by decide +kernel
theorem dX12_ringsOf_13 : decode cX12_ringsOf 13 = .ok (.if_icmp .ge 61, 3) := by decide +kernel
theorem dX12_ringsOf_16 : decode cX12_ringsOf 16 = .ok (.iconst 0, 1) := by decide +kernel
theorem dX12_ringsOf_17 : decode cX12_ringsOf 17 = .ok (.istore 5, 2) := by decide +kernel
theorem dX12_ringsOf_19 : decode cX12_ringsOf 19 = .ok (.iload 4, 2) := by decide +kernel
theorem dX12_ringsOf_21 : decode cX12_ringsOf 21 = .ok (.istore 6, 2) := by decide +kernel
theorem dX12_ringsOf_23 : decode cX12_ringsOf 23 = .ok (.iload_n 2, 1) := by decide +kernel
theorem dX12_ringsOf_24 : decode cX12_ringsOf 24 = .ok (.iload 6, 2) := by decide +kernel
theorem dX12_ringsOf_26 : decode cX12_ringsOf 26 = .ok (.invokestatic 244, 3) := by decide +kernel
theorem dX12_ringsOf_29 : decode cX12_ringsOf 29 = .ok (.ifCond .ne 25, 3) := by decide +kernel
theorem dX12_ringsOf_32 : decode cX12_ringsOf 32 = .ok (.iload_n 2, 1) := by decide +kernel
theorem dX12_ringsOf_33 : decode cX12_ringsOf 33 = .ok (.iconst 1, 1) := by decide +kernel
theorem dX12_ringsOf_34 : decode cX12_ringsOf 34 = .ok (.iload 6, 2) := by decide +kernel
theorem dX12_ringsOf_36 : decode cX12_ringsOf 36 = .ok (.ishl, 1) := by decide +kernel
theorem dX12_ringsOf_37 : decode cX12_ringsOf 37 = .ok (.ior, 1) := by decide +kernel
theorem dX12_ringsOf_38 : decode cX12_ringsOf 38 = .ok (.istore_n 2, 1) := by decide +kernel
theorem dX12_ringsOf_39 : decode cX12_ringsOf 39 = .ok (.iinc 5 1, 3) := by decide +kernel
theorem dX12_ringsOf_42 : decode cX12_ringsOf 42 = .ok (.aload_n 0, 1) := by decide +kernel
theorem dX12_ringsOf_43 : decode cX12_ringsOf 43 = .ok (.getfield 62, 3) := by decide +kernel
theorem dX12_ringsOf_46 : decode cX12_ringsOf 46 = .ok (.iload 6, 2) := by decide +kernel
theorem dX12_ringsOf_48 : decode cX12_ringsOf 48 = .ok (.iaload, 1) := by decide +kernel
theorem dX12_ringsOf_49 : decode cX12_ringsOf 49 = .ok (.istore 6, 2) := by decide +kernel
theorem dX12_ringsOf_51 : decode cX12_ringsOf 51 = .ok (.goto (-28), 3) := by decide +kernel
theorem dX12_ringsOf_54 : decode cX12_ringsOf 54 = .ok (.iload_n 3, 1) := by decide +kernel
theorem dX12_ringsOf_55 : decode cX12_ringsOf 55 = .ok (.iload 5, 2) := by decide +kernel
theorem dX12_ringsOf_57 : decode cX12_ringsOf 57 = .ok (.iload_n 1, 1) := by decide +kernel
theorem dX12_ringsOf_58 : decode cX12_ringsOf 58 = .ok (.if_icmp .lt 7, 3) := by decide +kernel
theorem dX12_ringsOf_61 : decode cX12_ringsOf 61 = .ok (.iconst 1, 1) := by decide +kernel
theorem dX12_ringsOf_62 : decode cX12_ringsOf 62 = .ok (.goto 4, 3) := by decide +kernel
theorem dX12_ringsOf_65 : decode cX12_ringsOf 65 = .ok (.iconst 0, 1) := by decide +kernel
theorem dX12_ringsOf_66 : decode cX12_ringsOf 66 = .ok (.iadd, 1) := by decide +kernel
theorem dX12_ringsOf_67 : decode cX12_ringsOf 67 = .ok (.istore_n 3, 1) := by decide +kernel
theorem dX12_ringsOf_68 : decode cX12_ringsOf 68 = .ok (.iinc 4 1, 3) := by decide +kernel
theorem dX12_ringsOf_71 : decode cX12_ringsOf 71 = .ok (.goto (-64), 3) := by decide +kernel
theorem dX12_ringsOf_74 : decode cX12_ringsOf 74 = .ok (.iload_n 3, 1) := by decide +kernel
theorem dX12_ringsOf_75 : decode cX12_ringsOf 75 = .ok (.ireturn, 1) := by decide +kernel
theorem dX12_laysGoal_0 : decode cX12_laysGoal 0 = .ok (.aload_n 0, 1) := by decide +kernel
theorem dX12_laysGoal_1 : decode cX12_laysGoal 1 = .ok (.invokevirtual 266, 3) := by decide +kernel
theorem dX12_laysGoal_4 : decode cX12_laysGoal 4 = .ok (.iconst 0, 1) := by decide +kernel
theorem dX12_laysGoal_5 : decode cX12_laysGoal 5 = .ok (.istore_n 1, 1) := by decide +kernel
theorem dX12_laysGoal_6 : decode cX12_laysGoal 6 = .ok (.iload_n 1, 1) := by decide +kernel
theorem dX12_laysGoal_7 : decode cX12_laysGoal 7 = .ok (.aload_n 0, 1) := by decide +kernel
theorem dX12_laysGoal_8 : decode cX12_laysGoal 8 = .ok (.invokevirtual 241, 3) := by decide +kernel
theorem dX12_laysGoal_11 : decode cX12_laysGoal 11 = .ok (.if_icmp .ge 21, 3) := by decide +kernel
theorem dX12_laysGoal_14 : decode cX12_laysGoal 14 = .ok (.aload_n 0, 1) := by decide +kernel
theorem dX12_laysGoal_15 : decode cX12_laysGoal 15 = .ok (.getfield 62, 3) := by decide +kernel
theorem dX12_laysGoal_18 : decode cX12_laysGoal 18 = .ok (.iload_n 1, 1) := by decide +kernel
theorem dX12_laysGoal_19 : decode cX12_laysGoal 19 = .ok (.aload_n 0, 1) := by decide +kernel
theorem dX12_laysGoal_20 : decode cX12_laysGoal 20 = .ok (.getfield 59, 3) := by decide +kernel
theorem dX12_laysGoal_23 : decode cX12_laysGoal 23 = .ok (.iload_n 1, 1) := by decide +kernel
theorem dX12_laysGoal_24 : decode cX12_laysGoal 24 = .ok (.iaload, 1) := by decide +kernel
theorem dX12_laysGoal_25 : decode cX12_laysGoal 25 = .ok (.iastore, 1) := by decide +kernel
theorem dX12_laysGoal_26 : decode cX12_laysGoal 26 = .ok (.iinc 1 1, 3) := by decide +kernel
theorem dX12_laysGoal_29 : decode cX12_laysGoal 29 = .ok (.goto (-23), 3) := by decide +kernel
theorem dX12_laysGoal_32 : decode cX12_laysGoal 32 = .ok (.return_, 1) := by decide +kernel
theorem dX12_swaps_0 : decode cX12_swaps 0 = .ok (.aload_n 0, 1) := by decide +kernel
theorem dX12_swaps_1 : decode cX12_swaps 1 = .ok (.iconst 0, 1) := by decide +kernel
theorem dX12_swaps_2 : decode cX12_swaps 2 = .ok (.putfield 89, 3) := by decide +kernel
theorem dX12_swaps_5 : decode cX12_swaps 5 = .ok (.aload_n 0, 1) := by decide +kernel
theorem dX12_swaps_6 : decode cX12_swaps 6 = .ok (.invokevirtual 278, 3) := by decide +kernel
theorem dX12_swaps_9 : decode cX12_swaps 9 = .ok (.ifCond .ne 6, 3) := by decide +kernel
theorem dX12_swaps_12 : decode cX12_swaps 12 = .ok (.bipush (-2), 2) := by decide +kernel
theorem dX12_swaps_14 : decode cX12_swaps 14 = .ok (.ireturn, 1) := by decide +kernel
theorem dX12_swaps_15 : decode cX12_swaps 15 = .ok (.aload_n 0, 1) := by decide +kernel
theorem dX12_swaps_16 : decode cX12_swaps 16 = .ok (.invokevirtual 290, 3) := by decide +kernel
theorem dX12_swaps_19 : decode cX12_swaps 19 = .ok (.aload_n 0, 1) := by decide +kernel
theorem dX12_swaps_20 : decode cX12_swaps 20 = .ok (.invokevirtual 241, 3) := by decide +kernel
theorem dX12_swaps_23 : decode cX12_swaps 23 = .ok (.aload_n 0, 1) := by decide +kernel
theorem dX12_swaps_24 : decode cX12_swaps 24 = .ok (.iconst 1, 1) := by decide +kernel
theorem dX12_swaps_25 : decode cX12_swaps 25 = .ok (.invokevirtual 293, 3) := by decide +kernel
theorem dX12_swaps_28 : decode cX12_swaps 28 = .ok (.isub, 1) := by decide +kernel
theorem dX12_swaps_29 : decode cX12_swaps 29 = .ok (.ireturn, 1) := by decide +kernel
theorem dX12_odd_0 : decode cX12_odd 0 = .ok (.aload_n 0, 1) := by decide +kernel
theorem dX12_odd_1 : decode cX12_odd 1 = .ok (.iconst 0, 1) := by decide +kernel
theorem dX12_odd_2 : decode cX12_odd 2 = .ok (.putfield 89, 3) := by decide +kernel
theorem dX12_odd_5 : decode cX12_odd 5 = .ok (.aload_n 0, 1) := by decide +kernel
theorem dX12_odd_6 : decode cX12_odd 6 = .ok (.invokevirtual 278, 3) := by decide +kernel
theorem dX12_odd_9 : decode cX12_odd 9 = .ok (.ifCond .ne 6, 3) := by decide +kernel
theorem dX12_odd_12 : decode cX12_odd 12 = .ok (.bipush (-2), 2) := by decide +kernel
theorem dX12_odd_14 : decode cX12_odd 14 = .ok (.ireturn, 1) := by decide +kernel
theorem dX12_odd_15 : decode cX12_odd 15 = .ok (.aload_n 0, 1) := by decide +kernel
theorem dX12_odd_16 : decode cX12_odd 16 = .ok (.invokevirtual 290, 3) := by decide +kernel
theorem dX12_odd_19 : decode cX12_odd 19 = .ok (.aload_n 0, 1) := by decide +kernel
theorem dX12_odd_20 : decode cX12_odd 20 = .ok (.invokevirtual 241, 3) := by decide +kernel
theorem dX12_odd_23 : decode cX12_odd 23 = .ok (.aload_n 0, 1) := by decide +kernel
theorem dX12_odd_24 : decode cX12_odd 24 = .ok (.iconst 1, 1) := by decide +kernel
theorem dX12_odd_25 : decode cX12_odd 25 = .ok (.invokevirtual 293, 3) := by decide +kernel
theorem dX12_odd_28 : decode cX12_odd 28 = .ok (.isub, 1) := by decide +kernel
theorem dX12_odd_29 : decode cX12_odd 29 = .ok (.iconst 2, 1) := by decide +kernel
theorem dX12_odd_30 : decode cX12_odd 30 = .ok (.irem, 1) := by decide +kernel
theorem dX12_odd_31 : decode cX12_odd 31 = .ok (.ireturn, 1) := by decide +kernel
theorem dX12_steps_0 : decode cX12_steps 0 = .ok (.aload_n 0, 1) := by decide +kernel
theorem dX12_steps_1 : decode cX12_steps 1 = .ok (.iconst 0, 1) := by decide +kernel
theorem dX12_steps_2 : decode cX12_steps 2 = .ok (.putfield 89, 3) := by decide +kernel
theorem dX12_steps_5 : decode cX12_steps 5 = .ok (.aload_n 0, 1) := by decide +kernel
theorem dX12_steps_6 : decode cX12_steps 6 = .ok (.invokevirtual 278, 3) := by decide +kernel
theorem dX12_steps_9 : decode cX12_steps 9 = .ok (.ifCond .ne 6, 3) := by decide +kernel
theorem dX12_steps_12 : decode cX12_steps 12 = .ok (.bipush (-2), 2) := by decide +kernel
theorem dX12_steps_14 : decode cX12_steps 14 = .ok (.ireturn, 1) := by decide +kernel
theorem dX12_steps_15 : decode cX12_steps 15 = .ok (.aload_n 0, 1) := by decide +kernel
theorem dX12_steps_16 : decode cX12_steps 16 = .ok (.invokevirtual 266, 3) := by decide +kernel
theorem dX12_steps_19 : decode cX12_steps 19 = .ok (.iconst 0, 1) := by decide +kernel
theorem dX12_steps_20 : decode cX12_steps 20 = .ok (.istore_n 1, 1) := by decide +kernel
theorem dX12_steps_21 : decode cX12_steps 21 = .ok (.iconst 0, 1) := by decide +kernel
theorem dX12_steps_22 : decode cX12_steps 22 = .ok (.istore_n 2, 1) := by decide +kernel
theorem dX12_steps_23 : decode cX12_steps 23 = .ok (.iload_n 2, 1) := by decide +kernel
theorem dX12_steps_24 : decode cX12_steps 24 = .ok (.aload_n 0, 1) := by decide +kernel
theorem dX12_steps_25 : decode cX12_steps 25 = .ok (.invokevirtual 241, 3) := by decide +kernel
theorem dX12_steps_28 : decode cX12_steps 28 = .ok (.if_icmp .ge 50, 3) := by decide +kernel
theorem dX12_steps_31 : decode cX12_steps 31 = .ok (.iload_n 2, 1) := by decide +kernel
theorem dX12_steps_32 : decode cX12_steps 32 = .ok (.iconst 1, 1) := by decide +kernel
theorem dX12_steps_33 : decode cX12_steps 33 = .ok (.iadd, 1) := by decide +kernel
theorem dX12_steps_34 : decode cX12_steps 34 = .ok (.istore_n 3, 1) := by decide +kernel
theorem dX12_steps_35 : decode cX12_steps 35 = .ok (.iload_n 3, 1) := by decide +kernel
theorem dX12_steps_36 : decode cX12_steps 36 = .ok (.aload_n 0, 1) := by decide +kernel
theorem dX12_steps_37 : decode cX12_steps 37 = .ok (.invokevirtual 241, 3) := by decide +kernel
theorem dX12_steps_40 : decode cX12_steps 40 = .ok (.if_icmp .ge 32, 3) := by decide +kernel
theorem dX12_steps_43 : decode cX12_steps 43 = .ok (.iload_n 1, 1) := by decide +kernel
theorem dX12_steps_44 : decode cX12_steps 44 = .ok (.aload_n 0, 1) := by decide +kernel
theorem dX12_steps_45 : decode cX12_steps 45 = .ok (.getfield 59, 3) := by decide +kernel
theorem dX12_steps_48 : decode cX12_steps 48 = .ok (.iload_n 2, 1) := by decide +kernel
theorem dX12_steps_49 : decode cX12_steps 49 = .ok (.iaload, 1) := by decide +kernel
theorem dX12_steps_50 : decode cX12_steps 50 = .ok (.aload_n 0, 1) := by decide +kernel
theorem dX12_steps_51 : decode cX12_steps 51 = .ok (.getfield 59, 3) := by decide +kernel
theorem dX12_steps_54 : decode cX12_steps 54 = .ok (.iload_n 3, 1) := by decide +kernel
theorem dX12_steps_55 : decode cX12_steps 55 = .ok (.iaload, 1) := by decide +kernel
theorem dX12_steps_56 : decode cX12_steps 56 = .ok (.if_icmp .le 7, 3) := by decide +kernel
theorem dX12_steps_59 : decode cX12_steps 59 = .ok (.iconst 1, 1) := by decide +kernel
theorem dX12_steps_60 : decode cX12_steps 60 = .ok (.goto 4, 3) := by decide +kernel
theorem dX12_steps_63 : decode cX12_steps 63 = .ok (.iconst 0, 1) := by decide +kernel
theorem dX12_steps_64 : decode cX12_steps 64 = .ok (.iadd, 1) := by decide +kernel
theorem dX12_steps_65 : decode cX12_steps 65 = .ok (.istore_n 1, 1) := by decide +kernel
theorem dX12_steps_66 : decode cX12_steps 66 = .ok (.iinc 3 1, 3) := by decide +kernel
theorem dX12_steps_69 : decode cX12_steps 69 = .ok (.goto (-34), 3) := by decide +kernel
theorem dX12_steps_72 : decode cX12_steps 72 = .ok (.iinc 2 1, 3) := by decide +kernel
theorem dX12_steps_75 : decode cX12_steps 75 = .ok (.goto (-52), 3) := by decide +kernel
theorem dX12_steps_78 : decode cX12_steps 78 = .ok (.iload_n 1, 1) := by decide +kernel
theorem dX12_steps_79 : decode cX12_steps 79 = .ok (.ireturn, 1) := by decide +kernel
theorem dX12_rings_0 : decode cX12_rings 0 = .ok (.aload_n 0, 1) := by decide +kernel
theorem dX12_rings_1 : decode cX12_rings 1 = .ok (.iconst 0, 1) := by decide +kernel
theorem dX12_rings_2 : decode cX12_rings 2 = .ok (.putfield 89, 3) := by decide +kernel
theorem dX12_rings_5 : decode cX12_rings 5 = .ok (.aload_n 0, 1) := by decide +kernel
theorem dX12_rings_6 : decode cX12_rings 6 = .ok (.invokevirtual 278, 3) := by decide +kernel
theorem dX12_rings_9 : decode cX12_rings 9 = .ok (.ifCond .ne 6, 3) := by decide +kernel
theorem dX12_rings_12 : decode cX12_rings 12 = .ok (.bipush (-2), 2) := by decide +kernel
theorem dX12_rings_14 : decode cX12_rings 14 = .ok (.ireturn, 1) := by decide +kernel
theorem dX12_rings_15 : decode cX12_rings 15 = .ok (.aload_n 0, 1) := by decide +kernel
theorem dX12_rings_16 : decode cX12_rings 16 = .ok (.invokevirtual 290, 3) := by decide +kernel
theorem dX12_rings_19 : decode cX12_rings 19 = .ok (.aload_n 0, 1) := by decide +kernel
theorem dX12_rings_20 : decode cX12_rings 20 = .ok (.iconst 2, 1) := by decide +kernel
theorem dX12_rings_21 : decode cX12_rings 21 = .ok (.invokevirtual 293, 3) := by decide +kernel
theorem dX12_rings_24 : decode cX12_rings 24 = .ok (.ireturn, 1) := by decide +kernel
theorem dX12_stay_0 : decode cX12_stay 0 = .ok (.aload_n 0, 1) := by decide +kernel
theorem dX12_stay_1 : decode cX12_stay 1 = .ok (.iconst 0, 1) := by decide +kernel
theorem dX12_stay_2 : decode cX12_stay 2 = .ok (.putfield 89, 3) := by decide +kernel
theorem dX12_stay_5 : decode cX12_stay 5 = .ok (.aload_n 0, 1) := by decide +kernel
theorem dX12_stay_6 : decode cX12_stay 6 = .ok (.invokevirtual 278, 3) := by decide +kernel
theorem dX12_stay_9 : decode cX12_stay 9 = .ok (.ifCond .ne 6, 3) := by decide +kernel
theorem dX12_stay_12 : decode cX12_stay 12 = .ok (.bipush (-2), 2) := by decide +kernel
theorem dX12_stay_14 : decode cX12_stay 14 = .ok (.ireturn, 1) := by decide +kernel
theorem dX12_stay_15 : decode cX12_stay 15 = .ok (.aload_n 0, 1) := by decide +kernel
theorem dX12_stay_16 : decode cX12_stay 16 = .ok (.invokevirtual 266, 3) := by decide +kernel
theorem dX12_stay_19 : decode cX12_stay 19 = .ok (.iconst 0, 1) := by decide +kernel
theorem dX12_stay_20 : decode cX12_stay 20 = .ok (.istore_n 1, 1) := by decide +kernel
theorem dX12_stay_21 : decode cX12_stay 21 = .ok (.iconst 0, 1) := by decide +kernel
theorem dX12_stay_22 : decode cX12_stay 22 = .ok (.istore_n 2, 1) := by decide +kernel
theorem dX12_stay_23 : decode cX12_stay 23 = .ok (.iload_n 2, 1) := by decide +kernel
theorem dX12_stay_24 : decode cX12_stay 24 = .ok (.iconst 1, 1) := by decide +kernel
theorem dX12_stay_25 : decode cX12_stay 25 = .ok (.aload_n 0, 1) := by decide +kernel
theorem dX12_stay_26 : decode cX12_stay 26 = .ok (.invokevirtual 241, 3) := by decide +kernel
theorem dX12_stay_29 : decode cX12_stay 29 = .ok (.ishl, 1) := by decide +kernel
theorem dX12_stay_30 : decode cX12_stay 30 = .ok (.if_icmp .ge 91, 3) := by decide +kernel
theorem dX12_stay_33 : decode cX12_stay 33 = .ok (.iconst (-1), 1) := by decide +kernel
theorem dX12_stay_34 : decode cX12_stay 34 = .ok (.istore_n 3, 1) := by decide +kernel
theorem dX12_stay_35 : decode cX12_stay 35 = .ok (.iconst 1, 1) := by decide +kernel
theorem dX12_stay_36 : decode cX12_stay 36 = .ok (.istore 4, 2) := by decide +kernel
theorem dX12_stay_38 : decode cX12_stay 38 = .ok (.iconst 0, 1) := by decide +kernel
theorem dX12_stay_39 : decode cX12_stay 39 = .ok (.istore 5, 2) := by decide +kernel
theorem dX12_stay_41 : decode cX12_stay 41 = .ok (.iload 5, 2) := by decide +kernel
theorem dX12_stay_43 : decode cX12_stay 43 = .ok (.aload_n 0, 1) := by decide +kernel
theorem dX12_stay_44 : decode cX12_stay 44 = .ok (.invokevirtual 241, 3) := by decide +kernel
theorem dX12_stay_47 : decode cX12_stay 47 = .ok (.if_icmp .ge 50, 3) := by decide +kernel
theorem dX12_stay_50 : decode cX12_stay 50 = .ok (.iload_n 2, 1) := by decide +kernel
theorem dX12_stay_51 : decode cX12_stay 51 = .ok (.iload 5, 2) := by decide +kernel
theorem dX12_stay_53 : decode cX12_stay 53 = .ok (.invokestatic 244, 3) := by decide +kernel
theorem dX12_stay_56 : decode cX12_stay 56 = .ok (.ifCond .ne 6, 3) := by decide +kernel
theorem dX12_stay_59 : decode cX12_stay 59 = .ok (.goto 32, 3) := by decide +kernel
theorem dX12_stay_62 : decode cX12_stay 62 = .ok (.iload 4, 2) := by decide +kernel
theorem dX12_stay_64 : decode cX12_stay 64 = .ok (.aload_n 0, 1) := by decide +kernel
theorem dX12_stay_65 : decode cX12_stay 65 = .ok (.getfield 59, 3) := by decide +kernel
theorem dX12_stay_68 : decode cX12_stay 68 = .ok (.iload 5, 2) := by decide +kernel
theorem dX12_stay_70 : decode cX12_stay 70 = .ok (.iaload, 1) := by decide +kernel
theorem dX12_stay_71 : decode cX12_stay 71 = .ok (.iload_n 3, 1) := by decide +kernel
theorem dX12_stay_72 : decode cX12_stay 72 = .ok (.if_icmp .le 7, 3) := by decide +kernel
theorem dX12_stay_75 : decode cX12_stay 75 = .ok (.iconst 1, 1) := by decide +kernel
theorem dX12_stay_76 : decode cX12_stay 76 = .ok (.goto 4, 3) := by decide +kernel
theorem dX12_stay_79 : decode cX12_stay 79 = .ok (.iconst 0, 1) := by decide +kernel
theorem dX12_stay_80 : decode cX12_stay 80 = .ok (.iand, 1) := by decide +kernel
theorem dX12_stay_81 : decode cX12_stay 81 = .ok (.istore 4, 2) := by decide +kernel
theorem dX12_stay_83 : decode cX12_stay 83 = .ok (.aload_n 0, 1) := by decide +kernel
theorem dX12_stay_84 : decode cX12_stay 84 = .ok (.getfield 59, 3) := by decide +kernel
theorem dX12_stay_87 : decode cX12_stay 87 = .ok (.iload 5, 2) := by decide +kernel
theorem dX12_stay_89 : decode cX12_stay 89 = .ok (.iaload, 1) := by decide +kernel
theorem dX12_stay_90 : decode cX12_stay 90 = .ok (.istore_n 3, 1) := by decide +kernel
theorem dX12_stay_91 : decode cX12_stay 91 = .ok (.iinc 5 1, 3) := by decide +kernel
theorem dX12_stay_94 : decode cX12_stay 94 = .ok (.goto (-53), 3) := by decide +kernel
theorem dX12_stay_97 : decode cX12_stay 97 = .ok (.iload 4, 2) := by decide +kernel
theorem dX12_stay_99 : decode cX12_stay 99 = .ok (.ifCond .eq 16, 3) := by decide +kernel
theorem dX12_stay_102 : decode cX12_stay 102 = .ok (.iload_n 2, 1) := by decide +kernel
theorem dX12_stay_103 : decode cX12_stay 103 = .ok (.invokestatic 284, 3) := by decide +kernel
theorem dX12_stay_106 : decode cX12_stay 106 = .ok (.iload_n 1, 1) := by decide +kernel
theorem dX12_stay_107 : decode cX12_stay 107 = .ok (.if_icmp .le 8, 3) := by decide +kernel
theorem dX12_stay_110 : decode cX12_stay 110 = .ok (.iload_n 2, 1) := by decide +kernel
theorem dX12_stay_111 : decode cX12_stay 111 = .ok (.invokestatic 284, 3) := by decide +kernel
theorem dX12_stay_114 : decode cX12_stay 114 = .ok (.istore_n 1, 1) := by decide +kernel
theorem dX12_stay_115 : decode cX12_stay 115 = .ok (.iinc 2 1, 3) := by decide +kernel
theorem dX12_stay_118 : decode cX12_stay 118 = .ok (.goto (-95), 3) := by decide +kernel
theorem dX12_stay_121 : decode cX12_stay 121 = .ok (.iload_n 1, 1) := by decide +kernel
theorem dX12_stay_122 : decode cX12_stay 122 = .ok (.ireturn, 1) := by decide +kernel
theorem dX12_ring_0 : decode cX12_ring 0 = .ok (.aload_n 0, 1) := by decide +kernel
theorem dX12_ring_1 : decode cX12_ring 1 = .ok (.iconst 0, 1) := by decide +kernel
theorem dX12_ring_2 : decode cX12_ring 2 = .ok (.putfield 89, 3) := by decide +kernel
theorem dX12_ring_5 : decode cX12_ring 5 = .ok (.aload_n 0, 1) := by decide +kernel
theorem dX12_ring_6 : decode cX12_ring 6 = .ok (.iload_n 1, 1) := by decide +kernel
theorem dX12_ring_7 : decode cX12_ring 7 = .ok (.i2l, 1) := by decide +kernel
theorem dX12_ring_8 : decode cX12_ring 8 = .ok (.invokevirtual 263, 3) := by decide +kernel
theorem dX12_ring_11 : decode cX12_ring 11 = .ok (.ifCond .ne 6, 3) := by decide +kernel
theorem dX12_ring_14 : decode cX12_ring 14 = .ok (.bipush (-2), 2) := by decide +kernel
theorem dX12_ring_16 : decode cX12_ring 16 = .ok (.ireturn, 1) := by decide +kernel
theorem dX12_ring_17 : decode cX12_ring 17 = .ok (.aload_n 0, 1) := by decide +kernel
theorem dX12_ring_18 : decode cX12_ring 18 = .ok (.invokevirtual 266, 3) := by decide +kernel
theorem dX12_ring_21 : decode cX12_ring 21 = .ok (.iconst 0, 1) := by decide +kernel
theorem dX12_ring_22 : decode cX12_ring 22 = .ok (.istore_n 2, 1) := by decide +kernel
theorem dX12_ring_23 : decode cX12_ring 23 = .ok (.iload_n 1, 1) := by decide +kernel
theorem dX12_ring_24 : decode cX12_ring 24 = .ok (.istore_n 3, 1) := by decide +kernel
theorem dX12_ring_25 : decode cX12_ring 25 = .ok (.iload_n 2, 1) := by decide +kernel
theorem dX12_ring_26 : decode cX12_ring 26 = .ok (.iload_n 3, 1) := by decide +kernel
theorem dX12_ring_27 : decode cX12_ring 27 = .ok (.invokestatic 244, 3) := by decide +kernel
theorem dX12_ring_30 : decode cX12_ring 30 = .ok (.ifCond .ne 19, 3) := by decide +kernel
theorem dX12_ring_33 : decode cX12_ring 33 = .ok (.iload_n 2, 1) := by decide +kernel
theorem dX12_ring_34 : decode cX12_ring 34 = .ok (.iconst 1, 1) := by decide +kernel
theorem dX12_ring_35 : decode cX12_ring 35 = .ok (.iload_n 3, 1) := by decide +kernel
theorem dX12_ring_36 : decode cX12_ring 36 = .ok (.ishl, 1) := by decide +kernel
theorem dX12_ring_37 : decode cX12_ring 37 = .ok (.ior, 1) := by decide +kernel
theorem dX12_ring_38 : decode cX12_ring 38 = .ok (.istore_n 2, 1) := by decide +kernel
theorem dX12_ring_39 : decode cX12_ring 39 = .ok (.aload_n 0, 1) := by decide +kernel
theorem dX12_ring_40 : decode cX12_ring 40 = .ok (.getfield 59, 3) := by decide +kernel
theorem dX12_ring_43 : decode cX12_ring 43 = .ok (.iload_n 3, 1) := by decide +kernel
theorem dX12_ring_44 : decode cX12_ring 44 = .ok (.iaload, 1) := by decide +kernel
theorem dX12_ring_45 : decode cX12_ring 45 = .ok (.istore_n 3, 1) := by decide +kernel
theorem dX12_ring_46 : decode cX12_ring 46 = .ok (.goto (-21), 3) := by decide +kernel
theorem dX12_ring_49 : decode cX12_ring 49 = .ok (.iload_n 2, 1) := by decide +kernel
theorem dX12_ring_50 : decode cX12_ring 50 = .ok (.ireturn, 1) := by decide +kernel
theorem dX12_awayOf_0 : decode cX12_awayOf 0 = .ok (.aload_n 0, 1) := by decide +kernel
theorem dX12_awayOf_1 : decode cX12_awayOf 1 = .ok (.iload_n 1, 1) := by decide +kernel
theorem dX12_awayOf_2 : decode cX12_awayOf 2 = .ok (.invokevirtual 269, 3) := by decide +kernel
theorem dX12_awayOf_5 : decode cX12_awayOf 5 = .ok (.istore_n 2, 1) := by decide +kernel
theorem dX12_awayOf_6 : decode cX12_awayOf 6 = .ok (.iload_n 2, 1) := by decide +kernel
theorem dX12_awayOf_7 : decode cX12_awayOf 7 = .ok (.iload_n 1, 1) := by decide +kernel
theorem dX12_awayOf_8 : decode cX12_awayOf 8 = .ok (.if_icmp .le 9, 3) := by decide +kernel
theorem dX12_awayOf_11 : decode cX12_awayOf 11 = .ok (.iload_n 2, 1) := by decide +kernel
theorem dX12_awayOf_12 : decode cX12_awayOf 12 = .ok (.iload_n 1, 1) := by decide +kernel
theorem dX12_awayOf_13 : decode cX12_awayOf 13 = .ok (.isub, 1) := by decide +kernel
theorem dX12_awayOf_14 : decode cX12_awayOf 14 = .ok (.goto 6, 3) := by decide +kernel
theorem dX12_awayOf_17 : decode cX12_awayOf 17 = .ok (.iload_n 1, 1) := by decide +kernel
theorem dX12_awayOf_18 : decode cX12_awayOf 18 = .ok (.iload_n 2, 1) := by decide +kernel
theorem dX12_awayOf_19 : decode cX12_awayOf 19 = .ok (.isub, 1) := by decide +kernel
theorem dX12_awayOf_20 : decode cX12_awayOf 20 = .ok (.ireturn, 1) := by decide +kernel
theorem dX12_away_0 : decode cX12_away 0 = .ok (.aload_n 0, 1) := by decide +kernel
theorem dX12_away_1 : decode cX12_away 1 = .ok (.iconst 0, 1) := by decide +kernel
theorem dX12_away_2 : decode cX12_away 2 = .ok (.putfield 89, 3) := by decide +kernel
theorem dX12_away_5 : decode cX12_away 5 = .ok (.aload_n 0, 1) := by decide +kernel
theorem dX12_away_6 : decode cX12_away 6 = .ok (.iload_n 1, 1) := by decide +kernel
theorem dX12_away_7 : decode cX12_away 7 = .ok (.i2l, 1) := by decide +kernel
theorem dX12_away_8 : decode cX12_away 8 = .ok (.invokevirtual 263, 3) := by decide +kernel
theorem dX12_away_11 : decode cX12_away 11 = .ok (.ifCond .ne 6, 3) := by decide +kernel
theorem dX12_away_14 : decode cX12_away 14 = .ok (.bipush (-2), 2) := by decide +kernel
theorem dX12_away_16 : decode cX12_away 16 = .ok (.ireturn, 1) := by decide +kernel
theorem dX12_away_17 : decode cX12_away 17 = .ok (.aload_n 0, 1) := by decide +kernel
theorem dX12_away_18 : decode cX12_away 18 = .ok (.invokevirtual 266, 3) := by decide +kernel
theorem dX12_away_21 : decode cX12_away 21 = .ok (.aload_n 0, 1) := by decide +kernel
theorem dX12_away_22 : decode cX12_away 22 = .ok (.iload_n 1, 1) := by decide +kernel
theorem dX12_away_23 : decode cX12_away 23 = .ok (.invokevirtual 296, 3) := by decide +kernel
theorem dX12_away_26 : decode cX12_away 26 = .ok (.ireturn, 1) := by decide +kernel
theorem dX12_lost_0 : decode cX12_lost 0 = .ok (.aload_n 0, 1) := by decide +kernel
theorem dX12_lost_1 : decode cX12_lost 1 = .ok (.iconst 0, 1) := by decide +kernel
theorem dX12_lost_2 : decode cX12_lost 2 = .ok (.putfield 89, 3) := by decide +kernel
theorem dX12_lost_5 : decode cX12_lost 5 = .ok (.aload_n 0, 1) := by decide +kernel
theorem dX12_lost_6 : decode cX12_lost 6 = .ok (.invokevirtual 278, 3) := by decide +kernel
theorem dX12_lost_9 : decode cX12_lost 9 = .ok (.ifCond .ne 6, 3) := by decide +kernel
theorem dX12_lost_12 : decode cX12_lost 12 = .ok (.bipush (-2), 2) := by decide +kernel
theorem dX12_lost_14 : decode cX12_lost 14 = .ok (.ireturn, 1) := by decide +kernel
theorem dX12_lost_15 : decode cX12_lost 15 = .ok (.aload_n 0, 1) := by decide +kernel
theorem dX12_lost_16 : decode cX12_lost 16 = .ok (.invokevirtual 266, 3) := by decide +kernel
theorem dX12_lost_19 : decode cX12_lost 19 = .ok (.iconst (-1), 1) := by decide +kernel
theorem dX12_lost_20 : decode cX12_lost 20 = .ok (.istore_n 1, 1) := by decide +kernel
theorem dX12_lost_21 : decode cX12_lost 21 = .ok (.iconst 0, 1) := by decide +kernel
theorem dX12_lost_22 : decode cX12_lost 22 = .ok (.istore_n 2, 1) := by decide +kernel
theorem dX12_lost_23 : decode cX12_lost 23 = .ok (.iconst 0, 1) := by decide +kernel
theorem dX12_lost_24 : decode cX12_lost 24 = .ok (.istore_n 3, 1) := by decide +kernel
theorem dX12_lost_25 : decode cX12_lost 25 = .ok (.iload_n 3, 1) := by decide +kernel
theorem dX12_lost_26 : decode cX12_lost 26 = .ok (.aload_n 0, 1) := by decide +kernel
theorem dX12_lost_27 : decode cX12_lost 27 = .ok (.invokevirtual 241, 3) := by decide +kernel
theorem dX12_lost_30 : decode cX12_lost 30 = .ok (.if_icmp .ge 29, 3) := by decide +kernel
theorem dX12_lost_33 : decode cX12_lost 33 = .ok (.aload_n 0, 1) := by decide +kernel
theorem dX12_lost_34 : decode cX12_lost 34 = .ok (.iload_n 3, 1) := by decide +kernel
theorem dX12_lost_35 : decode cX12_lost 35 = .ok (.invokevirtual 296, 3) := by decide +kernel
theorem dX12_lost_38 : decode cX12_lost 38 = .ok (.iload_n 2, 1) := by decide +kernel
theorem dX12_lost_39 : decode cX12_lost 39 = .ok (.if_icmp .gt 6, 3) := by decide +kernel
theorem dX12_lost_42 : decode cX12_lost 42 = .ok (.goto 11, 3) := by decide +kernel
theorem dX12_lost_45 : decode cX12_lost 45 = .ok (.iload_n 3, 1) := by decide +kernel
theorem dX12_lost_46 : decode cX12_lost 46 = .ok (.istore_n 1, 1) := by decide +kernel
theorem dX12_lost_47 : decode cX12_lost 47 = .ok (.aload_n 0, 1) := by decide +kernel
theorem dX12_lost_48 : decode cX12_lost 48 = .ok (.iload_n 3, 1) := by decide +kernel
theorem dX12_lost_49 : decode cX12_lost 49 = .ok (.invokevirtual 296, 3) := by decide +kernel
theorem dX12_lost_52 : decode cX12_lost 52 = .ok (.istore_n 2, 1) := by decide +kernel
theorem dX12_lost_53 : decode cX12_lost 53 = .ok (.iinc 3 1, 3) := by decide +kernel
theorem dX12_lost_56 : decode cX12_lost 56 = .ok (.goto (-31), 3) := by decide +kernel
theorem dX12_lost_59 : decode cX12_lost 59 = .ok (.iload_n 1, 1) := by decide +kernel
theorem dX12_lost_60 : decode cX12_lost 60 = .ok (.ireturn, 1) := by decide +kernel
theorem dX12_besideOf_0 : decode cX12_besideOf 0 = .ok (.iload_n 1, 1) := by decide +kernel
theorem dX12_besideOf_1 : decode cX12_besideOf 1 = .ok (.ifCond .le 16, 3) := by decide +kernel
theorem dX12_besideOf_4 : decode cX12_besideOf 4 = .ok (.iconst 1, 1) := by decide +kernel
theorem dX12_besideOf_5 : decode cX12_besideOf 5 = .ok (.aload_n 0, 1) := by decide +kernel
theorem dX12_besideOf_6 : decode cX12_besideOf 6 = .ok (.getfield 59, 3) := by decide +kernel
theorem dX12_besideOf_9 : decode cX12_besideOf 9 = .ok (.iload_n 1, 1) := by decide +kernel
theorem dX12_besideOf_10 : decode cX12_besideOf 10 = .ok (.iconst 1, 1) := by decide +kernel
theorem dX12_besideOf_11 : decode cX12_besideOf 11 = .ok (.isub, 1) := by decide +kernel
theorem dX12_besideOf_12 : decode cX12_besideOf 12 = .ok (.iaload, 1) := by decide +kernel
theorem dX12_besideOf_13 : decode cX12_besideOf 13 = .ok (.ishl, 1) := by decide +kernel
theorem dX12_besideOf_14 : decode cX12_besideOf 14 = .ok (.goto 4, 3) := by decide +kernel
theorem dX12_besideOf_17 : decode cX12_besideOf 17 = .ok (.iconst 0, 1) := by decide +kernel
theorem dX12_besideOf_18 : decode cX12_besideOf 18 = .ok (.iload_n 1, 1) := by decide +kernel
theorem dX12_besideOf_19 : decode cX12_besideOf 19 = .ok (.iconst 1, 1) := by decide +kernel
theorem dX12_besideOf_20 : decode cX12_besideOf 20 = .ok (.iadd, 1) := by decide +kernel
theorem dX12_besideOf_21 : decode cX12_besideOf 21 = .ok (.aload_n 0, 1) := by decide +kernel
theorem dX12_besideOf_22 : decode cX12_besideOf 22 = .ok (.invokevirtual 241, 3) := by decide +kernel
theorem dX12_besideOf_25 : decode cX12_besideOf 25 = .ok (.if_icmp .ge 16, 3) := by decide +kernel
theorem dX12_besideOf_28 : decode cX12_besideOf 28 = .ok (.iconst 1, 1) := by decide +kernel
theorem dX12_besideOf_29 : decode cX12_besideOf 29 = .ok (.aload_n 0, 1) := by decide +kernel
theorem dX12_besideOf_30 : decode cX12_besideOf 30 = .ok (.getfield 59, 3) := by decide +kernel
theorem dX12_besideOf_33 : decode cX12_besideOf 33 = .ok (.iload_n 1, 1) := by decide +kernel
theorem dX12_besideOf_34 : decode cX12_besideOf 34 = .ok (.iconst 1, 1) := by decide +kernel
theorem dX12_besideOf_35 : decode cX12_besideOf 35 = .ok (.iadd, 1) := by decide +kernel
theorem dX12_besideOf_36 : decode cX12_besideOf 36 = .ok (.iaload, 1) := by decide +kernel
theorem dX12_besideOf_37 : decode cX12_besideOf 37 = .ok (.ishl, 1) := by decide +kernel
theorem dX12_besideOf_38 : decode cX12_besideOf 38 = .ok (.goto 4, 3) := by decide +kernel
theorem dX12_besideOf_41 : decode cX12_besideOf 41 = .ok (.iconst 0, 1) := by decide +kernel
theorem dX12_besideOf_42 : decode cX12_besideOf 42 = .ok (.ior, 1) := by decide +kernel
theorem dX12_besideOf_43 : decode cX12_besideOf 43 = .ok (.ireturn, 1) := by decide +kernel
theorem dX12_beside_0 : decode cX12_beside 0 = .ok (.aload_n 0, 1) := by decide +kernel
theorem dX12_beside_1 : decode cX12_beside 1 = .ok (.iconst 0, 1) := by decide +kernel
theorem dX12_beside_2 : decode cX12_beside 2 = .ok (.putfield 89, 3) := by decide +kernel
theorem dX12_beside_5 : decode cX12_beside 5 = .ok (.aload_n 0, 1) := by decide +kernel
theorem dX12_beside_6 : decode cX12_beside 6 = .ok (.iload_n 1, 1) := by decide +kernel
theorem dX12_beside_7 : decode cX12_beside 7 = .ok (.i2l, 1) := by decide +kernel
theorem dX12_beside_8 : decode cX12_beside 8 = .ok (.invokevirtual 263, 3) := by decide +kernel
theorem dX12_beside_11 : decode cX12_beside 11 = .ok (.ifCond .ne 6, 3) := by decide +kernel
theorem dX12_beside_14 : decode cX12_beside 14 = .ok (.bipush (-2), 2) := by decide +kernel
theorem dX12_beside_16 : decode cX12_beside 16 = .ok (.ireturn, 1) := by decide +kernel
theorem dX12_beside_17 : decode cX12_beside 17 = .ok (.aload_n 0, 1) := by decide +kernel
theorem dX12_beside_18 : decode cX12_beside 18 = .ok (.invokevirtual 266, 3) := by decide +kernel
theorem dX12_beside_21 : decode cX12_beside 21 = .ok (.aload_n 0, 1) := by decide +kernel
theorem dX12_beside_22 : decode cX12_beside 22 = .ok (.aload_n 0, 1) := by decide +kernel
theorem dX12_beside_23 : decode cX12_beside 23 = .ok (.iload_n 1, 1) := by decide +kernel
theorem dX12_beside_24 : decode cX12_beside 24 = .ok (.invokevirtual 269, 3) := by decide +kernel
theorem dX12_beside_27 : decode cX12_beside 27 = .ok (.invokevirtual 299, 3) := by decide +kernel
theorem dX12_beside_30 : decode cX12_beside 30 = .ok (.ireturn, 1) := by decide +kernel
theorem dX12_quarrels_0 : decode cX12_quarrels 0 = .ok (.aload_n 0, 1) := by decide +kernel
theorem dX12_quarrels_1 : decode cX12_quarrels 1 = .ok (.iconst 0, 1) := by decide +kernel
theorem dX12_quarrels_2 : decode cX12_quarrels 2 = .ok (.putfield 89, 3) := by decide +kernel
theorem dX12_quarrels_5 : decode cX12_quarrels 5 = .ok (.aload_n 0, 1) := by decide +kernel
theorem dX12_quarrels_6 : decode cX12_quarrels 6 = .ok (.invokevirtual 278, 3) := by decide +kernel
theorem dX12_quarrels_9 : decode cX12_quarrels 9 = .ok (.ifCond .ne 6, 3) := by decide +kernel
theorem dX12_quarrels_12 : decode cX12_quarrels 12 = .ok (.bipush (-2), 2) := by decide +kernel
theorem dX12_quarrels_14 : decode cX12_quarrels 14 = .ok (.ireturn, 1) := by decide +kernel
theorem dX12_quarrels_15 : decode cX12_quarrels 15 = .ok (.aload_n 0, 1) := by decide +kernel
theorem dX12_quarrels_16 : decode cX12_quarrels 16 = .ok (.invokevirtual 266, 3) := by decide +kernel
theorem dX12_quarrels_19 : decode cX12_quarrels 19 = .ok (.iconst 0, 1) := by decide +kernel
theorem dX12_quarrels_20 : decode cX12_quarrels 20 = .ok (.istore_n 1, 1) := by decide +kernel
theorem dX12_quarrels_21 : decode cX12_quarrels 21 = .ok (.iconst 0, 1) := by decide +kernel
theorem dX12_quarrels_22 : decode cX12_quarrels 22 = .ok (.istore_n 2, 1) := by decide +kernel
theorem dX12_quarrels_23 : decode cX12_quarrels 23 = .ok (.iload_n 2, 1) := by decide +kernel
theorem dX12_quarrels_24 : decode cX12_quarrels 24 = .ok (.aload_n 0, 1) := by decide +kernel
theorem dX12_quarrels_25 : decode cX12_quarrels 25 = .ok (.invokevirtual 241, 3) := by decide +kernel
theorem dX12_quarrels_28 : decode cX12_quarrels 28 = .ok (.if_icmp .ge 32, 3) := by decide +kernel
theorem dX12_quarrels_31 : decode cX12_quarrels 31 = .ok (.iload_n 1, 1) := by decide +kernel
theorem dX12_quarrels_32 : decode cX12_quarrels 32 = .ok (.aload_n 0, 1) := by decide +kernel
theorem dX12_quarrels_33 : decode cX12_quarrels 33 = .ok (.iload_n 2, 1) := by decide +kernel
theorem dX12_quarrels_34 : decode cX12_quarrels 34 = .ok (.invokevirtual 299, 3) := by decide +kernel
theorem dX12_quarrels_37 : decode cX12_quarrels 37 = .ok (.aload_n 0, 1) := by decide +kernel
theorem dX12_quarrels_38 : decode cX12_quarrels 38 = .ok (.getfield 46, 3) := by decide +kernel
theorem dX12_quarrels_41 : decode cX12_quarrels 41 = .ok (.aload_n 0, 1) := by decide +kernel
theorem dX12_quarrels_42 : decode cX12_quarrels 42 = .ok (.getfield 59, 3) := by decide +kernel
theorem dX12_quarrels_45 : decode cX12_quarrels 45 = .ok (.iload_n 2, 1) := by decide +kernel
theorem dX12_quarrels_46 : decode cX12_quarrels 46 = .ok (.iaload, 1) := by decide +kernel
theorem dX12_quarrels_47 : decode cX12_quarrels 47 = .ok (.iaload, 1) := by decide +kernel
theorem dX12_quarrels_48 : decode cX12_quarrels 48 = .ok (.iand, 1) := by decide +kernel
theorem dX12_quarrels_49 : decode cX12_quarrels 49 = .ok (.invokestatic 284, 3) := by decide +kernel
theorem dX12_quarrels_52 : decode cX12_quarrels 52 = .ok (.iadd, 1) := by decide +kernel
theorem dX12_quarrels_53 : decode cX12_quarrels 53 = .ok (.istore_n 1, 1) := by decide +kernel
theorem dX12_quarrels_54 : decode cX12_quarrels 54 = .ok (.iinc 2 1, 3) := by decide +kernel
theorem dX12_quarrels_57 : decode cX12_quarrels 57 = .ok (.goto (-34), 3) := by decide +kernel
theorem dX12_quarrels_60 : decode cX12_quarrels 60 = .ok (.iload_n 1, 1) := by decide +kernel
theorem dX12_quarrels_61 : decode cX12_quarrels 61 = .ok (.iconst 2, 1) := by decide +kernel
theorem dX12_quarrels_62 : decode cX12_quarrels 62 = .ok (.idiv, 1) := by decide +kernel
theorem dX12_quarrels_63 : decode cX12_quarrels 63 = .ok (.ireturn, 1) := by decide +kernel
theorem dX12_finest_0 : decode cX12_finest 0 = .ok (.aload_n 0, 1) := by decide +kernel
theorem dX12_finest_1 : decode cX12_finest 1 = .ok (.iconst 0, 1) := by decide +kernel
theorem dX12_finest_2 : decode cX12_finest 2 = .ok (.putfield 89, 3) := by decide +kernel
theorem dX12_finest_5 : decode cX12_finest 5 = .ok (.aload_n 0, 1) := by decide +kernel
theorem dX12_finest_6 : decode cX12_finest 6 = .ok (.invokevirtual 278, 3) := by decide +kernel
theorem dX12_finest_9 : decode cX12_finest 9 = .ok (.ifCond .eq 15, 3) := by decide +kernel
theorem dX12_finest_12 : decode cX12_finest 12 = .ok (.iload_n 1, 1) := by decide +kernel
theorem dX12_finest_13 : decode cX12_finest 13 = .ok (.i2l, 1) := by decide +kernel
theorem dX12_finest_14 : decode cX12_finest 14 = .ok (.lconst 0, 1) := by decide +kernel
theorem dX12_finest_15 : decode cX12_finest 15 = .ok (.ldc2_w 302, 3) := by decide +kernel
theorem dX12_finest_18 : decode cX12_finest 18 = .ok (.invokestatic 94, 3) := by decide +kernel
theorem dX12_finest_21 : decode cX12_finest 21 = .ok (.ifCond .ne 6, 3) := by decide +kernel
theorem dX12_finest_24 : decode cX12_finest 24 = .ok (.bipush (-2), 2) := by decide +kernel
theorem dX12_finest_26 : decode cX12_finest 26 = .ok (.ireturn, 1) := by decide +kernel
theorem dX12_finest_27 : decode cX12_finest 27 = .ok (.aload_n 0, 1) := by decide +kernel
theorem dX12_finest_28 : decode cX12_finest 28 = .ok (.invokevirtual 266, 3) := by decide +kernel
theorem dX12_finest_31 : decode cX12_finest 31 = .ok (.iconst 0, 1) := by decide +kernel
theorem dX12_finest_32 : decode cX12_finest 32 = .ok (.istore_n 2, 1) := by decide +kernel
theorem dX12_finest_33 : decode cX12_finest 33 = .ok (.aload_n 0, 1) := by decide +kernel
theorem dX12_finest_34 : decode cX12_finest 34 = .ok (.invokevirtual 281, 3) := by decide +kernel
theorem dX12_finest_37 : decode cX12_finest 37 = .ok (.invokestatic 284, 3) := by decide +kernel
theorem dX12_finest_40 : decode cX12_finest 40 = .ok (.istore_n 3, 1) := by decide +kernel
theorem dX12_finest_41 : decode cX12_finest 41 = .ok (.iconst 1, 1) := by decide +kernel
theorem dX12_finest_42 : decode cX12_finest 42 = .ok (.istore 4, 2) := by decide +kernel
theorem dX12_finest_44 : decode cX12_finest 44 = .ok (.iload 4, 2) := by decide +kernel
theorem dX12_finest_46 : decode cX12_finest 46 = .ok (.iload_n 1, 1) := by decide +kernel
theorem dX12_finest_47 : decode cX12_finest 47 = .ok (.if_icmp .gt 52, 3) := by decide +kernel
theorem dX12_finest_50 : decode cX12_finest 50 = .ok (.aload_n 0, 1) := by decide +kernel
theorem dX12_finest_51 : decode cX12_finest 51 = .ok (.aload_n 0, 1) := by decide +kernel
theorem dX12_finest_52 : decode cX12_finest 52 = .ok (.getfield 59, 3) := by decide +kernel
theorem dX12_finest_55 : decode cX12_finest 55 = .ok (.aload_n 0, 1) := by decide +kernel
theorem dX12_finest_56 : decode cX12_finest 56 = .ok (.getfield 255, 3) := by decide +kernel
theorem dX12_finest_59 : decode cX12_finest 59 = .ok (.iload 4, 2) := by decide +kernel
theorem dX12_finest_61 : decode cX12_finest 61 = .ok (.iadd, 1) := by decide +kernel
theorem dX12_finest_62 : decode cX12_finest 62 = .ok (.iconst 1, 1) := by decide +kernel
theorem dX12_finest_63 : decode cX12_finest 63 = .ok (.isub, 1) := by decide +kernel
theorem dX12_finest_64 : decode cX12_finest 64 = .ok (.iconst 0, 1) := by decide +kernel
theorem dX12_finest_65 : decode cX12_finest 65 = .ok (.invokevirtual 258, 3) := by decide +kernel
theorem dX12_finest_68 : decode cX12_finest 68 = .ok (.aload_n 0, 1) := by decide +kernel
theorem dX12_finest_69 : decode cX12_finest 69 = .ok (.invokevirtual 281, 3) := by decide +kernel
theorem dX12_finest_72 : decode cX12_finest 72 = .ok (.invokestatic 284, 3) := by decide +kernel
theorem dX12_finest_75 : decode cX12_finest 75 = .ok (.iload_n 3, 1) := by decide +kernel
theorem dX12_finest_76 : decode cX12_finest 76 = .ok (.if_icmp .gt 6, 3) := by decide +kernel
theorem dX12_finest_79 : decode cX12_finest 79 = .ok (.goto 14, 3) := by decide +kernel
theorem dX12_finest_82 : decode cX12_finest 82 = .ok (.iload 4, 2) := by decide +kernel
theorem dX12_finest_84 : decode cX12_finest 84 = .ok (.istore_n 2, 1) := by decide +kernel
theorem dX12_finest_85 : decode cX12_finest 85 = .ok (.aload_n 0, 1) := by decide +kernel
theorem dX12_finest_86 : decode cX12_finest 86 = .ok (.invokevirtual 281, 3) := by decide +kernel
theorem dX12_finest_89 : decode cX12_finest 89 = .ok (.invokestatic 284, 3) := by decide +kernel
theorem dX12_finest_92 : decode cX12_finest 92 = .ok (.istore_n 3, 1) := by decide +kernel
theorem dX12_finest_93 : decode cX12_finest 93 = .ok (.iinc 4 1, 3) := by decide +kernel
theorem dX12_finest_96 : decode cX12_finest 96 = .ok (.goto (-52), 3) := by decide +kernel
theorem dX12_finest_99 : decode cX12_finest 99 = .ok (.iload_n 2, 1) := by decide +kernel
theorem dX12_finest_100 : decode cX12_finest 100 = .ok (.ireturn, 1) := by decide +kernel
theorem dX12_spells_0 : decode cX12_spells 0 = .ok (.aload_n 0, 1) := by decide +kernel
theorem dX12_spells_1 : decode cX12_spells 1 = .ok (.iconst 0, 1) := by decide +kernel
theorem dX12_spells_2 : decode cX12_spells 2 = .ok (.putfield 89, 3) := by decide +kernel
theorem dX12_spells_5 : decode cX12_spells 5 = .ok (.aload_n 0, 1) := by decide +kernel
theorem dX12_spells_6 : decode cX12_spells 6 = .ok (.iload_n 1, 1) := by decide +kernel
theorem dX12_spells_7 : decode cX12_spells 7 = .ok (.i2l, 1) := by decide +kernel
theorem dX12_spells_8 : decode cX12_spells 8 = .ok (.invokevirtual 263, 3) := by decide +kernel
theorem dX12_spells_11 : decode cX12_spells 11 = .ok (.ifCond .eq 15, 3) := by decide +kernel
theorem dX12_spells_14 : decode cX12_spells 14 = .ok (.iload_n 2, 1) := by decide +kernel
theorem dX12_spells_15 : decode cX12_spells 15 = .ok (.i2l, 1) := by decide +kernel
theorem dX12_spells_16 : decode cX12_spells 16 = .ok (.lconst 0, 1) := by decide +kernel
theorem dX12_spells_17 : decode cX12_spells 17 = .ok (.ldc2_w 302, 3) := by decide +kernel
theorem dX12_spells_20 : decode cX12_spells 20 = .ok (.invokestatic 94, 3) := by decide +kernel
theorem dX12_spells_23 : decode cX12_spells 23 = .ok (.ifCond .ne 6, 3) := by decide +kernel
theorem dX12_spells_26 : decode cX12_spells 26 = .ok (.bipush (-2), 2) := by decide +kernel
theorem dX12_spells_28 : decode cX12_spells 28 = .ok (.ireturn, 1) := by decide +kernel
theorem dX12_spells_29 : decode cX12_spells 29 = .ok (.aload_n 0, 1) := by decide +kernel
theorem dX12_spells_30 : decode cX12_spells 30 = .ok (.invokevirtual 266, 3) := by decide +kernel
theorem dX12_spells_33 : decode cX12_spells 33 = .ok (.iconst 0, 1) := by decide +kernel
theorem dX12_spells_34 : decode cX12_spells 34 = .ok (.istore_n 3, 1) := by decide +kernel
theorem dX12_spells_35 : decode cX12_spells 35 = .ok (.iconst 0, 1) := by decide +kernel
theorem dX12_spells_36 : decode cX12_spells 36 = .ok (.istore 4, 2) := by decide +kernel
theorem dX12_spells_38 : decode cX12_spells 38 = .ok (.iload 4, 2) := by decide +kernel
theorem dX12_spells_40 : decode cX12_spells 40 = .ok (.iload_n 2, 1) := by decide +kernel
theorem dX12_spells_41 : decode cX12_spells 41 = .ok (.if_icmp .ge 43, 3) := by decide +kernel
theorem dX12_spells_44 : decode cX12_spells 44 = .ok (.aload_n 0, 1) := by decide +kernel
theorem dX12_spells_45 : decode cX12_spells 45 = .ok (.aload_n 0, 1) := by decide +kernel
theorem dX12_spells_46 : decode cX12_spells 46 = .ok (.getfield 59, 3) := by decide +kernel
theorem dX12_spells_49 : decode cX12_spells 49 = .ok (.aload_n 0, 1) := by decide +kernel
theorem dX12_spells_50 : decode cX12_spells 50 = .ok (.getfield 255, 3) := by decide +kernel
theorem dX12_spells_53 : decode cX12_spells 53 = .ok (.iload 4, 2) := by decide +kernel
theorem dX12_spells_55 : decode cX12_spells 55 = .ok (.iadd, 1) := by decide +kernel
theorem dX12_spells_56 : decode cX12_spells 56 = .ok (.iconst 0, 1) := by decide +kernel
theorem dX12_spells_57 : decode cX12_spells 57 = .ok (.invokevirtual 258, 3) := by decide +kernel
theorem dX12_spells_60 : decode cX12_spells 60 = .ok (.iload_n 3, 1) := by decide +kernel
theorem dX12_spells_61 : decode cX12_spells 61 = .ok (.aload_n 0, 1) := by decide +kernel
theorem dX12_spells_62 : decode cX12_spells 62 = .ok (.getfield 59, 3) := by decide +kernel
theorem dX12_spells_65 : decode cX12_spells 65 = .ok (.iload_n 1, 1) := by decide +kernel
theorem dX12_spells_66 : decode cX12_spells 66 = .ok (.iaload, 1) := by decide +kernel
theorem dX12_spells_67 : decode cX12_spells 67 = .ok (.iload_n 1, 1) := by decide +kernel
theorem dX12_spells_68 : decode cX12_spells 68 = .ok (.if_icmp .ne 7, 3) := by decide +kernel
theorem dX12_spells_71 : decode cX12_spells 71 = .ok (.iconst 1, 1) := by decide +kernel
theorem dX12_spells_72 : decode cX12_spells 72 = .ok (.goto 4, 3) := by decide +kernel
theorem dX12_spells_75 : decode cX12_spells 75 = .ok (.iconst 0, 1) := by decide +kernel
theorem dX12_spells_76 : decode cX12_spells 76 = .ok (.iadd, 1) := by decide +kernel
theorem dX12_spells_77 : decode cX12_spells 77 = .ok (.istore_n 3, 1) := by decide +kernel
theorem dX12_spells_78 : decode cX12_spells 78 = .ok (.iinc 4 1, 3) := by decide +kernel
theorem dX12_spells_81 : decode cX12_spells 81 = .ok (.goto (-43), 3) := by decide +kernel
theorem dX12_spells_84 : decode cX12_spells 84 = .ok (.iload_n 3, 1) := by decide +kernel
theorem dX12_spells_85 : decode cX12_spells 85 = .ok (.ireturn, 1) := by decide +kernel
theorem dX12_ways_0 : decode cX12_ways 0 = .ok (.iload_n 0, 1) := by decide +kernel
theorem dX12_ways_1 : decode cX12_ways 1 = .ok (.iconst 2, 1) := by decide +kernel
theorem dX12_ways_2 : decode cX12_ways 2 = .ok (.if_icmp .ge 7, 3) := by decide +kernel
theorem dX12_ways_5 : decode cX12_ways 5 = .ok (.iconst 1, 1) := by decide +kernel
theorem dX12_ways_6 : decode cX12_ways 6 = .ok (.goto 11, 3) := by decide +kernel
theorem dX12_ways_9 : decode cX12_ways 9 = .ok (.iload_n 0, 1) := by decide +kernel
theorem dX12_ways_10 : decode cX12_ways 10 = .ok (.iload_n 0, 1) := by decide +kernel
theorem dX12_ways_11 : decode cX12_ways 11 = .ok (.iconst 1, 1) := by decide +kernel
theorem dX12_ways_12 : decode cX12_ways 12 = .ok (.isub, 1) := by decide +kernel
theorem dX12_ways_13 : decode cX12_ways 13 = .ok (.invokestatic 304, 3) := by decide +kernel
theorem dX12_ways_16 : decode cX12_ways 16 = .ok (.imul, 1) := by decide +kernel
theorem dX12_ways_17 : decode cX12_ways 17 = .ok (.ireturn, 1) := by decide +kernel
theorem dX12_rankOf_0 : decode cX12_rankOf 0 = .ok (.iconst 0, 1) := by decide +kernel
theorem dX12_rankOf_1 : decode cX12_rankOf 1 = .ok (.istore_n 2, 1) := by decide +kernel
theorem dX12_rankOf_2 : decode cX12_rankOf 2 = .ok (.iconst 0, 1) := by decide +kernel
theorem dX12_rankOf_3 : decode cX12_rankOf 3 = .ok (.istore_n 3, 1) := by decide +kernel
theorem dX12_rankOf_4 : decode cX12_rankOf 4 = .ok (.iload_n 3, 1) := by decide +kernel
theorem dX12_rankOf_5 : decode cX12_rankOf 5 = .ok (.aload_n 0, 1) := by decide +kernel
theorem dX12_rankOf_6 : decode cX12_rankOf 6 = .ok (.invokevirtual 241, 3) := by decide +kernel
theorem dX12_rankOf_9 : decode cX12_rankOf 9 = .ok (.if_icmp .ge 64, 3) := by decide +kernel
theorem dX12_rankOf_12 : decode cX12_rankOf 12 = .ok (.iconst 0, 1) := by decide +kernel
theorem dX12_rankOf_13 : decode cX12_rankOf 13 = .ok (.istore 4, 2) := by decide +kernel
theorem dX12_rankOf_15 : decode cX12_rankOf 15 = .ok (.iload_n 3, 1) := by decide +kernel
theorem dX12_rankOf_16 : decode cX12_rankOf 16 = .ok (.iconst 1, 1) := by decide +kernel
theorem dX12_rankOf_17 : decode cX12_rankOf 17 = .ok (.iadd, 1) := by decide +kernel
theorem dX12_rankOf_18 : decode cX12_rankOf 18 = .ok (.istore 5, 2) := by decide +kernel
theorem dX12_rankOf_20 : decode cX12_rankOf 20 = .ok (.iload 5, 2) := by decide +kernel
theorem dX12_rankOf_22 : decode cX12_rankOf 22 = .ok (.aload_n 0, 1) := by decide +kernel
theorem dX12_rankOf_23 : decode cX12_rankOf 23 = .ok (.invokevirtual 241, 3) := by decide +kernel
theorem dX12_rankOf_26 : decode cX12_rankOf 26 = .ok (.if_icmp .ge 29, 3) := by decide +kernel
theorem dX12_rankOf_29 : decode cX12_rankOf 29 = .ok (.iload 4, 2) := by decide +kernel
theorem dX12_rankOf_31 : decode cX12_rankOf 31 = .ok (.aload_n 1, 1) := by decide +kernel
theorem dX12_rankOf_32 : decode cX12_rankOf 32 = .ok (.iload 5, 2) := by decide +kernel
theorem dX12_rankOf_34 : decode cX12_rankOf 34 = .ok (.iaload, 1) := by decide +kernel
theorem dX12_rankOf_35 : decode cX12_rankOf 35 = .ok (.aload_n 1, 1) := by decide +kernel
theorem dX12_rankOf_36 : decode cX12_rankOf 36 = .ok (.iload_n 3, 1) := by decide +kernel
theorem dX12_rankOf_37 : decode cX12_rankOf 37 = .ok (.iaload, 1) := by decide +kernel
theorem dX12_rankOf_38 : decode cX12_rankOf 38 = .ok (.if_icmp .ge 7, 3) := by decide +kernel
theorem dX12_rankOf_41 : decode cX12_rankOf 41 = .ok (.iconst 1, 1) := by decide +kernel
theorem dX12_rankOf_42 : decode cX12_rankOf 42 = .ok (.goto 4, 3) := by decide +kernel
theorem dX12_rankOf_45 : decode cX12_rankOf 45 = .ok (.iconst 0, 1) := by decide +kernel
theorem dX12_rankOf_46 : decode cX12_rankOf 46 = .ok (.iadd, 1) := by decide +kernel
theorem dX12_rankOf_47 : decode cX12_rankOf 47 = .ok (.istore 4, 2) := by decide +kernel
theorem dX12_rankOf_49 : decode cX12_rankOf 49 = .ok (.iinc 5 1, 3) := by decide +kernel
theorem dX12_rankOf_52 : decode cX12_rankOf 52 = .ok (.goto (-32), 3) := by decide +kernel
theorem dX12_rankOf_55 : decode cX12_rankOf 55 = .ok (.iload_n 2, 1) := by decide +kernel
theorem dX12_rankOf_56 : decode cX12_rankOf 56 = .ok (.aload_n 0, 1) := by decide +kernel
theorem dX12_rankOf_57 : decode cX12_rankOf 57 = .ok (.invokevirtual 241, 3) := by decide +kernel
theorem dX12_rankOf_60 : decode cX12_rankOf 60 = .ok (.iload_n 3, 1) := by decide +kernel
theorem dX12_rankOf_61 : decode cX12_rankOf 61 = .ok (.isub, 1) := by decide +kernel
theorem dX12_rankOf_62 : decode cX12_rankOf 62 = .ok (.imul, 1) := by decide +kernel
theorem dX12_rankOf_63 : decode cX12_rankOf 63 = .ok (.iload 4, 2) := by decide +kernel
theorem dX12_rankOf_65 : decode cX12_rankOf 65 = .ok (.iadd, 1) := by decide +kernel
theorem dX12_rankOf_66 : decode cX12_rankOf 66 = .ok (.istore_n 2, 1) := by decide +kernel
theorem dX12_rankOf_67 : decode cX12_rankOf 67 = .ok (.iinc 3 1, 3) := by decide +kernel
theorem dX12_rankOf_70 : decode cX12_rankOf 70 = .ok (.goto (-66), 3) := by decide +kernel
theorem dX12_rankOf_73 : decode cX12_rankOf 73 = .ok (.iload_n 2, 1) := by decide +kernel
theorem dX12_rankOf_74 : decode cX12_rankOf 74 = .ok (.ireturn, 1) := by decide +kernel
theorem dX12_rowOf_0 : decode cX12_rowOf 0 = .ok (.iconst 1, 1) := by decide +kernel
theorem dX12_rowOf_1 : decode cX12_rowOf 1 = .ok (.aload_n 0, 1) := by decide +kernel
theorem dX12_rowOf_2 : decode cX12_rowOf 2 = .ok (.invokevirtual 241, 3) := by decide +kernel
theorem dX12_rowOf_5 : decode cX12_rowOf 5 = .ok (.ishl, 1) := by decide +kernel
theorem dX12_rowOf_6 : decode cX12_rowOf 6 = .ok (.iconst 1, 1) := by decide +kernel
theorem dX12_rowOf_7 : decode cX12_rowOf 7 = .ok (.isub, 1) := by decide +kernel
theorem dX12_rowOf_8 : decode cX12_rowOf 8 = .ok (.istore_n 3, 1) := by decide +kernel
theorem dX12_rowOf_9 : decode cX12_rowOf 9 = .ok (.iload_n 1, 1) := by decide +kernel
theorem dX12_rowOf_10 : decode cX12_rowOf 10 = .ok (.istore 4, 2) := by decide +kernel
theorem dX12_rowOf_12 : decode cX12_rowOf 12 = .ok (.iconst 0, 1) := by decide +kernel
theorem dX12_rowOf_13 : decode cX12_rowOf 13 = .ok (.istore 5, 2) := by decide +kernel
theorem dX12_rowOf_15 : decode cX12_rowOf 15 = .ok (.iload 5, 2) := by decide +kernel
theorem dX12_rowOf_17 : decode cX12_rowOf 17 = .ok (.aload_n 0, 1) := by decide +kernel
theorem dX12_rowOf_18 : decode cX12_rowOf 18 = .ok (.invokevirtual 241, 3) := by decide +kernel
theorem dX12_rowOf_21 : decode cX12_rowOf 21 = .ok (.if_icmp .ge 94, 3) := by decide +kernel
theorem dX12_rowOf_24 : decode cX12_rowOf 24 = .ok (.aload_n 0, 1) := by decide +kernel
theorem dX12_rowOf_25 : decode cX12_rowOf 25 = .ok (.invokevirtual 241, 3) := by decide +kernel
theorem dX12_rowOf_28 : decode cX12_rowOf 28 = .ok (.iconst 1, 1) := by decide +kernel
theorem dX12_rowOf_29 : decode cX12_rowOf 29 = .ok (.isub, 1) := by decide +kernel
theorem dX12_rowOf_30 : decode cX12_rowOf 30 = .ok (.iload 5, 2) := by decide +kernel
theorem dX12_rowOf_32 : decode cX12_rowOf 32 = .ok (.isub, 1) := by decide +kernel
theorem dX12_rowOf_33 : decode cX12_rowOf 33 = .ok (.invokestatic 304, 3) := by decide +kernel
theorem dX12_rowOf_36 : decode cX12_rowOf 36 = .ok (.istore 6, 2) := by decide +kernel
theorem dX12_rowOf_38 : decode cX12_rowOf 38 = .ok (.iload 4, 2) := by decide +kernel
theorem dX12_rowOf_40 : decode cX12_rowOf 40 = .ok (.iload 6, 2) := by decide +kernel
theorem dX12_rowOf_42 : decode cX12_rowOf 42 = .ok (.idiv, 1) := by decide +kernel
theorem dX12_rowOf_43 : decode cX12_rowOf 43 = .ok (.istore 7, 2) := by decide +kernel
theorem dX12_rowOf_45 : decode cX12_rowOf 45 = .ok (.iload 4, 2) := by decide +kernel
theorem dX12_rowOf_47 : decode cX12_rowOf 47 = .ok (.iload 6, 2) := by decide +kernel
theorem dX12_rowOf_49 : decode cX12_rowOf 49 = .ok (.irem, 1) := by decide +kernel
theorem dX12_rowOf_50 : decode cX12_rowOf 50 = .ok (.istore 4, 2) := by decide +kernel
theorem dX12_rowOf_52 : decode cX12_rowOf 52 = .ok (.iconst 0, 1) := by decide +kernel
theorem dX12_rowOf_53 : decode cX12_rowOf 53 = .ok (.istore 8, 2) := by decide +kernel
theorem dX12_rowOf_55 : decode cX12_rowOf 55 = .ok (.iload_n 3, 1) := by decide +kernel
theorem dX12_rowOf_56 : decode cX12_rowOf 56 = .ok (.iload 8, 2) := by decide +kernel
theorem dX12_rowOf_58 : decode cX12_rowOf 58 = .ok (.invokestatic 244, 3) := by decide +kernel
theorem dX12_rowOf_61 : decode cX12_rowOf 61 = .ok (.ifCond .eq 8, 3) := by decide +kernel
theorem dX12_rowOf_64 : decode cX12_rowOf 64 = .ok (.iload 7, 2) := by decide +kernel
theorem dX12_rowOf_66 : decode cX12_rowOf 66 = .ok (.ifCond .le 28, 3) := by decide +kernel
theorem dX12_rowOf_69 : decode cX12_rowOf 69 = .ok (.iload 7, 2) := by decide +kernel
theorem dX12_rowOf_71 : decode cX12_rowOf 71 = .ok (.iload_n 3, 1) := by decide +kernel
theorem dX12_rowOf_72 : decode cX12_rowOf 72 = .ok (.iload 8, 2) := by decide +kernel
theorem dX12_rowOf_74 : decode cX12_rowOf 74 = .ok (.invokestatic 244, 3) := by decide +kernel
theorem dX12_rowOf_77 : decode cX12_rowOf 77 = .ok (.ifCond .eq 7, 3) := by decide +kernel
theorem dX12_rowOf_80 : decode cX12_rowOf 80 = .ok (.iconst 1, 1) := by decide +kernel
theorem dX12_rowOf_81 : decode cX12_rowOf 81 = .ok (.goto 4, 3) := by decide +kernel
theorem dX12_rowOf_84 : decode cX12_rowOf 84 = .ok (.iconst 0, 1) := by decide +kernel
theorem dX12_rowOf_85 : decode cX12_rowOf 85 = .ok (.isub, 1) := by decide +kernel
theorem dX12_rowOf_86 : decode cX12_rowOf 86 = .ok (.istore 7, 2) := by decide +kernel
theorem dX12_rowOf_88 : decode cX12_rowOf 88 = .ok (.iinc 8 1, 3) := by decide +kernel
theorem dX12_rowOf_91 : decode cX12_rowOf 91 = .ok (.goto (-36), 3) := by decide +kernel
theorem dX12_rowOf_94 : decode cX12_rowOf 94 = .ok (.aload_n 2, 1) := by decide +kernel
theorem dX12_rowOf_95 : decode cX12_rowOf 95 = .ok (.iload 5, 2) := by decide +kernel
theorem dX12_rowOf_97 : decode cX12_rowOf 97 = .ok (.iload 8, 2) := by decide +kernel
theorem dX12_rowOf_99 : decode cX12_rowOf 99 = .ok (.iastore, 1) := by decide +kernel
theorem dX12_rowOf_100 : decode cX12_rowOf 100 = .ok (.iload_n 3, 1) := by decide +kernel
theorem dX12_rowOf_101 : decode cX12_rowOf 101 = .ok (.iconst 1, 1) := by decide +kernel
theorem dX12_rowOf_102 : decode cX12_rowOf 102 = .ok (.iload 8, 2) := by decide +kernel
theorem dX12_rowOf_104 : decode cX12_rowOf 104 = .ok (.ishl, 1) := by decide +kernel
theorem dX12_rowOf_105 : decode cX12_rowOf 105 = .ok (.iconst (-1), 1) := by decide +kernel
theorem dX12_rowOf_106 : decode cX12_rowOf 106 = .ok (.ixor, 1) := by decide +kernel
theorem dX12_rowOf_107 : decode cX12_rowOf 107 = .ok (.iand, 1) := by decide +kernel
theorem dX12_rowOf_108 : decode cX12_rowOf 108 = .ok (.istore_n 3, 1) := by decide +kernel
theorem dX12_rowOf_109 : decode cX12_rowOf 109 = .ok (.iinc 5 1, 3) := by decide +kernel
theorem dX12_rowOf_112 : decode cX12_rowOf 112 = .ok (.goto (-97), 3) := by decide +kernel
theorem dX12_rowOf_115 : decode cX12_rowOf 115 = .ok (.return_, 1) := by decide +kernel
theorem dX12_all_0 : decode cX12_all 0 = .ok (.aload_n 0, 1) := by decide +kernel
theorem dX12_all_1 : decode cX12_all 1 = .ok (.invokevirtual 241, 3) := by decide +kernel
theorem dX12_all_4 : decode cX12_all 4 = .ok (.invokestatic 304, 3) := by decide +kernel
theorem dX12_all_7 : decode cX12_all 7 = .ok (.ireturn, 1) := by decide +kernel
theorem dX12_blankIn_0 : decode cX12_blankIn 0 = .ok (.iconst 0, 1) := by decide +kernel
theorem dX12_blankIn_1 : decode cX12_blankIn 1 = .ok (.istore_n 2, 1) := by decide +kernel
theorem dX12_blankIn_2 : decode cX12_blankIn 2 = .ok (.aload_n 1, 1) := by decide +kernel
theorem dX12_blankIn_3 : decode cX12_blankIn 3 = .ok (.iload_n 2, 1) := by decide +kernel
theorem dX12_blankIn_4 : decode cX12_blankIn 4 = .ok (.iaload, 1) := by decide +kernel
theorem dX12_blankIn_5 : decode cX12_blankIn 5 = .ok (.aload_n 0, 1) := by decide +kernel
theorem dX12_blankIn_6 : decode cX12_blankIn 6 = .ok (.invokevirtual 241, 3) := by decide +kernel
theorem dX12_blankIn_9 : decode cX12_blankIn 9 = .ok (.iconst 1, 1) := by decide +kernel
theorem dX12_blankIn_10 : decode cX12_blankIn 10 = .ok (.isub, 1) := by decide +kernel
theorem dX12_blankIn_11 : decode cX12_blankIn 11 = .ok (.if_icmp .eq 9, 3) := by decide +kernel
theorem dX12_blankIn_14 : decode cX12_blankIn 14 = .ok (.iinc 2 1, 3) := by decide +kernel
theorem dX12_blankIn_17 : decode cX12_blankIn 17 = .ok (.goto (-15), 3) := by decide +kernel
theorem dX12_blankIn_20 : decode cX12_blankIn 20 = .ok (.iload_n 2, 1) := by decide +kernel
theorem dX12_blankIn_21 : decode cX12_blankIn 21 = .ok (.ireturn, 1) := by decide +kernel
theorem dX12_isLeap_0 : decode cX12_isLeap 0 = .ok (.iload_n 1, 1) := by decide +kernel
theorem dX12_isLeap_1 : decode cX12_isLeap 1 = .ok (.iload_n 2, 1) := by decide +kernel
theorem dX12_isLeap_2 : decode cX12_isLeap 2 = .ok (.if_icmp .le 18, 3) := by decide +kernel
theorem dX12_isLeap_5 : decode cX12_isLeap 5 = .ok (.aload_n 0, 1) := by decide +kernel
theorem dX12_isLeap_6 : decode cX12_isLeap 6 = .ok (.getfield 34, 3) := by decide +kernel
theorem dX12_isLeap_9 : decode cX12_isLeap 9 = .ok (.iconst 2, 1) := by decide +kernel
theorem dX12_isLeap_10 : decode cX12_isLeap 10 = .ok (.iaload, 1) := by decide +kernel
theorem dX12_isLeap_11 : decode cX12_isLeap 11 = .ok (.iload_n 1, 1) := by decide +kernel
theorem dX12_isLeap_12 : decode cX12_isLeap 12 = .ok (.iload_n 2, 1) := by decide +kernel
theorem dX12_isLeap_13 : decode cX12_isLeap 13 = .ok (.isub, 1) := by decide +kernel
theorem dX12_isLeap_14 : decode cX12_isLeap 14 = .ok (.invokestatic 244, 3) := by decide +kernel
theorem dX12_isLeap_17 : decode cX12_isLeap 17 = .ok (.goto 15, 3) := by decide +kernel
theorem dX12_isLeap_20 : decode cX12_isLeap 20 = .ok (.aload_n 0, 1) := by decide +kernel
theorem dX12_isLeap_21 : decode cX12_isLeap 21 = .ok (.getfield 34, 3) := by decide +kernel
theorem dX12_isLeap_24 : decode cX12_isLeap 24 = .ok (.iconst 2, 1) := by decide +kernel
theorem dX12_isLeap_25 : decode cX12_isLeap 25 = .ok (.iaload, 1) := by decide +kernel
theorem dX12_isLeap_26 : decode cX12_isLeap 26 = .ok (.iload_n 2, 1) := by decide +kernel
theorem dX12_isLeap_27 : decode cX12_isLeap 27 = .ok (.iload_n 1, 1) := by decide +kernel
theorem dX12_isLeap_28 : decode cX12_isLeap 28 = .ok (.isub, 1) := by decide +kernel
theorem dX12_isLeap_29 : decode cX12_isLeap 29 = .ok (.invokestatic 244, 3) := by decide +kernel
theorem dX12_isLeap_32 : decode cX12_isLeap 32 = .ok (.ireturn, 1) := by decide +kernel
theorem dX12_laysLeaps_0 : decode cX12_laysLeaps 0 = .ok (.iconst 0, 1) := by decide +kernel
theorem dX12_laysLeaps_1 : decode cX12_laysLeaps 1 = .ok (.istore_n 2, 1) := by decide +kernel
theorem dX12_laysLeaps_2 : decode cX12_laysLeaps 2 = .ok (.iload_n 2, 1) := by decide +kernel
theorem dX12_laysLeaps_3 : decode cX12_laysLeaps 3 = .ok (.aload_n 0, 1) := by decide +kernel
theorem dX12_laysLeaps_4 : decode cX12_laysLeaps 4 = .ok (.invokevirtual 307, 3) := by decide +kernel
theorem dX12_laysLeaps_7 : decode cX12_laysLeaps 7 = .ok (.if_icmp .ge 16, 3) := by decide +kernel
theorem dX12_laysLeaps_10 : decode cX12_laysLeaps 10 = .ok (.aload_n 0, 1) := by decide +kernel
theorem dX12_laysLeaps_11 : decode cX12_laysLeaps 11 = .ok (.getfield 65, 3) := by decide +kernel
theorem dX12_laysLeaps_14 : decode cX12_laysLeaps 14 = .ok (.iload_n 2, 1) := by decide +kernel
theorem dX12_laysLeaps_15 : decode cX12_laysLeaps 15 = .ok (.iconst (-1), 1) := by decide +kernel
theorem dX12_laysLeaps_16 : decode cX12_laysLeaps 16 = .ok (.iastore, 1) := by decide +kernel
theorem dX12_laysLeaps_17 : decode cX12_laysLeaps 17 = .ok (.iinc 2 1, 3) := by decide +kernel
theorem dX12_laysLeaps_20 : decode cX12_laysLeaps 20 = .ok (.goto (-18), 3) := by decide +kernel
theorem dX12_laysLeaps_23 : decode cX12_laysLeaps 23 = .ok (.aload_n 0, 1) := by decide +kernel
theorem dX12_laysLeaps_24 : decode cX12_laysLeaps 24 = .ok (.getfield 65, 3) := by decide +kernel
theorem dX12_laysLeaps_27 : decode cX12_laysLeaps 27 = .ok (.iload_n 1, 1) := by decide +kernel
theorem dX12_laysLeaps_28 : decode cX12_laysLeaps 28 = .ok (.iconst 0, 1) := by decide +kernel
theorem dX12_laysLeaps_29 : decode cX12_laysLeaps 29 = .ok (.iastore, 1) := by decide +kernel
theorem dX12_laysLeaps_30 : decode cX12_laysLeaps 30 = .ok (.aload_n 0, 1) := by decide +kernel
theorem dX12_laysLeaps_31 : decode cX12_laysLeaps 31 = .ok (.getfield 68, 3) := by decide +kernel
theorem dX12_laysLeaps_34 : decode cX12_laysLeaps 34 = .ok (.iconst 0, 1) := by decide +kernel
theorem dX12_laysLeaps_35 : decode cX12_laysLeaps 35 = .ok (.iload_n 1, 1) := by decide +kernel
theorem dX12_laysLeaps_36 : decode cX12_laysLeaps 36 = .ok (.iastore, 1) := by decide +kernel
theorem dX12_laysLeaps_37 : decode cX12_laysLeaps 37 = .ok (.aload_n 0, 1) := by decide +kernel
theorem dX12_laysLeaps_38 : decode cX12_laysLeaps 38 = .ok (.iconst 1, 1) := by decide +kernel
theorem dX12_laysLeaps_39 : decode cX12_laysLeaps 39 = .ok (.putfield 310, 3) := by decide +kernel
theorem dX12_laysLeaps_42 : decode cX12_laysLeaps 42 = .ok (.iconst 0, 1) := by decide +kernel
theorem dX12_laysLeaps_43 : decode cX12_laysLeaps 43 = .ok (.istore_n 2, 1) := by decide +kernel
theorem dX12_laysLeaps_44 : decode cX12_laysLeaps 44 = .ok (.iload_n 2, 1) := by decide +kernel
theorem dX12_laysLeaps_45 : decode cX12_laysLeaps 45 = .ok (.aload_n 0, 1) := by decide +kernel
theorem dX12_laysLeaps_46 : decode cX12_laysLeaps 46 = .ok (.getfield 310, 3) := by decide +kernel
theorem dX12_laysLeaps_49 : decode cX12_laysLeaps 49 = .ok (.if_icmp .ge 154, 3) := by decide +kernel
theorem dX12_laysLeaps_52 : decode cX12_laysLeaps 52 = .ok (.aload_n 0, 1) := by decide +kernel
theorem dX12_laysLeaps_53 : decode cX12_laysLeaps 53 = .ok (.aload_n 0, 1) := by decide +kernel
theorem dX12_laysLeaps_54 : decode cX12_laysLeaps 54 = .ok (.getfield 68, 3) := by decide +kernel
theorem dX12_laysLeaps_57 : decode cX12_laysLeaps 57 = .ok (.iload_n 2, 1) := by decide +kernel
theorem dX12_laysLeaps_58 : decode cX12_laysLeaps 58 = .ok (.iaload, 1) := by decide +kernel
theorem dX12_laysLeaps_59 : decode cX12_laysLeaps 59 = .ok (.aload_n 0, 1) := by decide +kernel
theorem dX12_laysLeaps_60 : decode cX12_laysLeaps 60 = .ok (.getfield 71, 3) := by decide +kernel
theorem dX12_laysLeaps_63 : decode cX12_laysLeaps 63 = .ok (.invokevirtual 313, 3) := by decide +kernel
theorem dX12_laysLeaps_66 : decode cX12_laysLeaps 66 = .ok (.aload_n 0, 1) := by decide +kernel
theorem dX12_laysLeaps_67 : decode cX12_laysLeaps 67 = .ok (.aload_n 0, 1) := by decide +kernel
theorem dX12_laysLeaps_68 : decode cX12_laysLeaps 68 = .ok (.getfield 71, 3) := by decide +kernel
theorem dX12_laysLeaps_71 : decode cX12_laysLeaps 71 = .ok (.invokevirtual 317, 3) := by decide +kernel
theorem dX12_laysLeaps_74 : decode cX12_laysLeaps 74 = .ok (.istore_n 3, 1) := by decide +kernel
theorem dX12_laysLeaps_75 : decode cX12_laysLeaps 75 = .ok (.iconst 0, 1) := by decide +kernel
theorem dX12_laysLeaps_76 : decode cX12_laysLeaps 76 = .ok (.istore 4, 2) := by decide +kernel
theorem dX12_laysLeaps_78 : decode cX12_laysLeaps 78 = .ok (.iload 4, 2) := by decide +kernel
theorem dX12_laysLeaps_80 : decode cX12_laysLeaps 80 = .ok (.aload_n 0, 1) := by decide +kernel
theorem dX12_laysLeaps_81 : decode cX12_laysLeaps 81 = .ok (.invokevirtual 241, 3) := by decide +kernel
theorem dX12_laysLeaps_84 : decode cX12_laysLeaps 84 = .ok (.if_icmp .ge 113, 3) := by decide +kernel
theorem dX12_laysLeaps_87 : decode cX12_laysLeaps 87 = .ok (.iload 4, 2) := by decide +kernel
theorem dX12_laysLeaps_89 : decode cX12_laysLeaps 89 = .ok (.iload_n 3, 1) := by decide +kernel
theorem dX12_laysLeaps_90 : decode cX12_laysLeaps 90 = .ok (.if_icmp .eq 101, 3) := by decide +kernel
theorem dX12_laysLeaps_93 : decode cX12_laysLeaps 93 = .ok (.aload_n 0, 1) := by decide +kernel
theorem dX12_laysLeaps_94 : decode cX12_laysLeaps 94 = .ok (.iload_n 3, 1) := by decide +kernel
theorem dX12_laysLeaps_95 : decode cX12_laysLeaps 95 = .ok (.iload 4, 2) := by decide +kernel
theorem dX12_laysLeaps_97 : decode cX12_laysLeaps 97 = .ok (.invokevirtual 321, 3) := by decide +kernel
theorem dX12_laysLeaps_100 : decode cX12_laysLeaps 100 = .ok (.ifCond .ne 6, 3) := by decide +kernel
theorem dX12_laysLeaps_103 : decode cX12_laysLeaps 103 = .ok (.goto 88, 3) := by decide +kernel
theorem dX12_laysLeaps_106 : decode cX12_laysLeaps 106 = .ok (.aload_n 0, 1) := by decide +kernel
theorem dX12_laysLeaps_107 : decode cX12_laysLeaps 107 = .ok (.getfield 71, 3) := by decide +kernel
theorem dX12_laysLeaps_110 : decode cX12_laysLeaps 110 = .ok (.iload_n 3, 1) := by decide +kernel
theorem dX12_laysLeaps_111 : decode cX12_laysLeaps 111 = .ok (.iload 4, 2) := by decide +kernel
theorem dX12_laysLeaps_113 : decode cX12_laysLeaps 113 = .ok (.invokestatic 251, 3) := by decide +kernel
theorem dX12_laysLeaps_116 : decode cX12_laysLeaps 116 = .ok (.aload_n 0, 1) := by decide +kernel
theorem dX12_laysLeaps_117 : decode cX12_laysLeaps 117 = .ok (.aload_n 0, 1) := by decide +kernel
theorem dX12_laysLeaps_118 : decode cX12_laysLeaps 118 = .ok (.getfield 71, 3) := by decide +kernel
theorem dX12_laysLeaps_121 : decode cX12_laysLeaps 121 = .ok (.invokevirtual 324, 3) := by decide +kernel
theorem dX12_laysLeaps_124 : decode cX12_laysLeaps 124 = .ok (.istore 5, 2) := by decide +kernel
theorem dX12_laysLeaps_126 : decode cX12_laysLeaps 126 = .ok (.aload_n 0, 1) := by decide +kernel
theorem dX12_laysLeaps_127 : decode cX12_laysLeaps 127 = .ok (.getfield 71, 3) := by decide +kernel
theorem dX12_laysLeaps_130 : decode cX12_laysLeaps 130 = .ok (.iload_n 3, 1) := by decide +kernel
theorem dX12_laysLeaps_131 : decode cX12_laysLeaps 131 = .ok (.iload 4, 2) := by decide +kernel
theorem dX12_laysLeaps_133 : decode cX12_laysLeaps 133 = .ok (.invokestatic 251, 3) := by decide +kernel
theorem dX12_laysLeaps_136 : decode cX12_laysLeaps 136 = .ok (.aload_n 0, 1) := by decide +kernel
theorem dX12_laysLeaps_137 : decode cX12_laysLeaps 137 = .ok (.getfield 65, 3) := by decide +kernel
theorem dX12_laysLeaps_140 : decode cX12_laysLeaps 140 = .ok (.iload 5, 2) := by decide +kernel
theorem dX12_laysLeaps_142 : decode cX12_laysLeaps 142 = .ok (.iaload, 1) := by decide +kernel
theorem dX12_laysLeaps_143 : decode cX12_laysLeaps 143 = .ok (.iconst (-1), 1) := by decide +kernel
theorem dX12_laysLeaps_144 : decode cX12_laysLeaps 144 = .ok (.if_icmp .eq 6, 3) := by decide +kernel
theorem dX12_laysLeaps_147 : decode cX12_laysLeaps 147 = .ok (.goto 44, 3) := by decide +kernel
theorem dX12_laysLeaps_150 : decode cX12_laysLeaps 150 = .ok (.aload_n 0, 1) := by decide +kernel
theorem dX12_laysLeaps_151 : decode cX12_laysLeaps 151 = .ok (.getfield 65, 3) := by decide +kernel
theorem dX12_laysLeaps_154 : decode cX12_laysLeaps 154 = .ok (.iload 5, 2) := by decide +kernel
theorem dX12_laysLeaps_156 : decode cX12_laysLeaps 156 = .ok (.aload_n 0, 1) := by decide +kernel
theorem dX12_laysLeaps_157 : decode cX12_laysLeaps 157 = .ok (.getfield 65, 3) := by decide +kernel
theorem dX12_laysLeaps_160 : decode cX12_laysLeaps 160 = .ok (.aload_n 0, 1) := by decide +kernel
theorem dX12_laysLeaps_161 : decode cX12_laysLeaps 161 = .ok (.getfield 68, 3) := by decide +kernel
theorem dX12_laysLeaps_164 : decode cX12_laysLeaps 164 = .ok (.iload_n 2, 1) := by decide +kernel
theorem dX12_laysLeaps_165 : decode cX12_laysLeaps 165 = .ok (.iaload, 1) := by decide +kernel
theorem dX12_laysLeaps_166 : decode cX12_laysLeaps 166 = .ok (.iaload, 1) := by decide +kernel
theorem dX12_laysLeaps_167 : decode cX12_laysLeaps 167 = .ok (.iconst 1, 1) := by decide +kernel
theorem dX12_laysLeaps_168 : decode cX12_laysLeaps 168 = .ok (.iadd, 1) := by decide +kernel
theorem dX12_laysLeaps_169 : decode cX12_laysLeaps 169 = .ok (.iastore, 1) := by decide +kernel
theorem dX12_laysLeaps_170 : decode cX12_laysLeaps 170 = .ok (.aload_n 0, 1) := by decide +kernel
theorem dX12_laysLeaps_171 : decode cX12_laysLeaps 171 = .ok (.getfield 68, 3) := by decide +kernel
theorem dX12_laysLeaps_174 : decode cX12_laysLeaps 174 = .ok (.aload_n 0, 1) := by decide +kernel
theorem dX12_laysLeaps_175 : decode cX12_laysLeaps 175 = .ok (.getfield 310, 3) := by decide +kernel
theorem dX12_laysLeaps_178 : decode cX12_laysLeaps 178 = .ok (.iload 5, 2) := by decide +kernel
theorem dX12_laysLeaps_180 : decode cX12_laysLeaps 180 = .ok (.iastore, 1) := by decide +kernel
theorem dX12_laysLeaps_181 : decode cX12_laysLeaps 181 = .ok (.aload_n 0, 1) := by decide +kernel
theorem dX12_laysLeaps_182 : decode cX12_laysLeaps 182 = .ok (.dup, 1) := by decide +kernel
theorem dX12_laysLeaps_183 : decode cX12_laysLeaps 183 = .ok (.getfield 310, 3) := by decide +kernel
theorem dX12_laysLeaps_186 : decode cX12_laysLeaps 186 = .ok (.iconst 1, 1) := by decide +kernel
theorem dX12_laysLeaps_187 : decode cX12_laysLeaps 187 = .ok (.iadd, 1) := by decide +kernel
theorem dX12_laysLeaps_188 : decode cX12_laysLeaps 188 = .ok (.putfield 310, 3) := by decide +kernel
theorem dX12_laysLeaps_191 : decode cX12_laysLeaps 191 = .ok (.iinc 4 1, 3) := by decide +kernel
theorem dX12_laysLeaps_194 : decode cX12_laysLeaps 194 = .ok (.goto (-116), 3) := by decide +kernel
theorem dX12_laysLeaps_197 : decode cX12_laysLeaps 197 = .ok (.iinc 2 1, 3) := by decide +kernel
theorem dX12_laysLeaps_200 : decode cX12_laysLeaps 200 = .ok (.goto (-156), 3) := by decide +kernel
theorem dX12_laysLeaps_203 : decode cX12_laysLeaps 203 = .ok (.return_, 1) := by decide +kernel
theorem dX12_whyNotRow_0 : decode cX12_whyNotRow 0 = .ok (.iload_n 1, 1) := by decide +kernel
theorem dX12_whyNotRow_1 : decode cX12_whyNotRow 1 = .ok (.invokestatic 98, 3) := by decide +kernel
theorem dX12_whyNotRow_4 : decode cX12_whyNotRow 4 = .ok (.ifCond .eq 10, 3) := by decide +kernel
theorem dX12_whyNotRow_7 : decode cX12_whyNotRow 7 = .ok (.aload_n 0, 1) := by decide +kernel
theorem dX12_whyNotRow_8 : decode cX12_whyNotRow 8 = .ok (.invokevirtual 278, 3) := by decide +kernel
theorem dX12_whyNotRow_11 : decode cX12_whyNotRow 11 = .ok (.ifCond .ne 6, 3) := by decide +kernel
theorem dX12_whyNotRow_14 : decode cX12_whyNotRow 14 = .ok (.bipush (-2), 2) := by decide +kernel
theorem dX12_whyNotRow_16 : decode cX12_whyNotRow 16 = .ok (.ireturn, 1) := by decide +kernel
theorem dX12_whyNotRow_17 : decode cX12_whyNotRow 17 = .ok (.aload_n 0, 1) := by decide +kernel
theorem dX12_whyNotRow_18 : decode cX12_whyNotRow 18 = .ok (.getfield 7, 3) := by decide +kernel
theorem dX12_whyNotRow_21 : decode cX12_whyNotRow 21 = .ok (.iload_n 1, 1) := by decide +kernel
theorem dX12_whyNotRow_22 : decode cX12_whyNotRow 22 = .ok (.iaload, 1) := by decide +kernel
theorem dX12_whyNotRow_23 : decode cX12_whyNotRow 23 = .ok (.iconst (-1), 1) := by decide +kernel
theorem dX12_whyNotRow_24 : decode cX12_whyNotRow 24 = .ok (.if_icmp .ne 6, 3) := by decide +kernel
theorem dX12_whyNotRow_27 : decode cX12_whyNotRow 27 = .ok (.bipush (-6), 2) := by decide +kernel
theorem dX12_whyNotRow_29 : decode cX12_whyNotRow 29 = .ok (.ireturn, 1) := by decide +kernel
theorem dX12_whyNotRow_30 : decode cX12_whyNotRow 30 = .ok (.aload_n 0, 1) := by decide +kernel
theorem dX12_whyNotRow_31 : decode cX12_whyNotRow 31 = .ok (.getfield 13, 3) := by decide +kernel
theorem dX12_whyNotRow_34 : decode cX12_whyNotRow 34 = .ok (.iload_n 1, 1) := by decide +kernel
theorem dX12_whyNotRow_35 : decode cX12_whyNotRow 35 = .ok (.iaload, 1) := by decide +kernel
theorem dX12_whyNotRow_36 : decode cX12_whyNotRow 36 = .ok (.aload_n 0, 1) := by decide +kernel
theorem dX12_whyNotRow_37 : decode cX12_whyNotRow 37 = .ok (.invokevirtual 241, 3) := by decide +kernel
theorem dX12_whyNotRow_40 : decode cX12_whyNotRow 40 = .ok (.if_icmp .eq 6, 3) := by decide +kernel
theorem dX12_whyNotRow_43 : decode cX12_whyNotRow 43 = .ok (.bipush (-2), 2) := by decide +kernel
theorem dX12_whyNotRow_45 : decode cX12_whyNotRow 45 = .ok (.ireturn, 1) := by decide +kernel
theorem dX12_whyNotRow_46 : decode cX12_whyNotRow 46 = .ok (.iconst 0, 1) := by decide +kernel
theorem dX12_whyNotRow_47 : decode cX12_whyNotRow 47 = .ok (.istore_n 2, 1) := by decide +kernel
theorem dX12_whyNotRow_48 : decode cX12_whyNotRow 48 = .ok (.iconst 0, 1) := by decide +kernel
theorem dX12_whyNotRow_49 : decode cX12_whyNotRow 49 = .ok (.istore_n 3, 1) := by decide +kernel
theorem dX12_whyNotRow_50 : decode cX12_whyNotRow 50 = .ok (.iload_n 3, 1) := by decide +kernel
theorem dX12_whyNotRow_51 : decode cX12_whyNotRow 51 = .ok (.aload_n 0, 1) := by decide +kernel
theorem dX12_whyNotRow_52 : decode cX12_whyNotRow 52 = .ok (.invokevirtual 241, 3) := by decide +kernel
theorem dX12_whyNotRow_55 : decode cX12_whyNotRow 55 = .ok (.if_icmp .ge 59, 3) := by decide +kernel
theorem dX12_whyNotRow_58 : decode cX12_whyNotRow 58 = .ok (.aload_n 0, 1) := by decide +kernel
theorem dX12_whyNotRow_59 : decode cX12_whyNotRow 59 = .ok (.aload_n 0, 1) := by decide +kernel
theorem dX12_whyNotRow_60 : decode cX12_whyNotRow 60 = .ok (.getfield 16, 3) := by decide +kernel
theorem dX12_whyNotRow_63 : decode cX12_whyNotRow 63 = .ok (.bipush 60, 2) := by decide +kernel
theorem dX12_whyNotRow_65 : decode cX12_whyNotRow 65 = .ok (.iload_n 1, 1) := by decide +kernel
theorem dX12_whyNotRow_66 : decode cX12_whyNotRow 66 = .ok (.imul, 1) := by decide +kernel
theorem dX12_whyNotRow_67 : decode cX12_whyNotRow 67 = .ok (.iload_n 3, 1) := by decide +kernel
theorem dX12_whyNotRow_68 : decode cX12_whyNotRow 68 = .ok (.iadd, 1) := by decide +kernel
theorem dX12_whyNotRow_69 : decode cX12_whyNotRow 69 = .ok (.laload, 1) := by decide +kernel
theorem dX12_whyNotRow_70 : decode cX12_whyNotRow 70 = .ok (.invokevirtual 263, 3) := by decide +kernel
theorem dX12_whyNotRow_73 : decode cX12_whyNotRow 73 = .ok (.ifCond .ne 6, 3) := by decide +kernel
theorem dX12_whyNotRow_76 : decode cX12_whyNotRow 76 = .ok (.bipush (-2), 2) := by decide +kernel
theorem dX12_whyNotRow_78 : decode cX12_whyNotRow 78 = .ok (.ireturn, 1) := by decide +kernel
theorem dX12_whyNotRow_79 : decode cX12_whyNotRow 79 = .ok (.aload_n 0, 1) := by decide +kernel
theorem dX12_whyNotRow_80 : decode cX12_whyNotRow 80 = .ok (.getfield 74, 3) := by decide +kernel
theorem dX12_whyNotRow_83 : decode cX12_whyNotRow 83 = .ok (.iload_n 3, 1) := by decide +kernel
theorem dX12_whyNotRow_84 : decode cX12_whyNotRow 84 = .ok (.aload_n 0, 1) := by decide +kernel
theorem dX12_whyNotRow_85 : decode cX12_whyNotRow 85 = .ok (.getfield 16, 3) := by decide +kernel
theorem dX12_whyNotRow_88 : decode cX12_whyNotRow 88 = .ok (.bipush 60, 2) := by decide +kernel
theorem dX12_whyNotRow_90 : decode cX12_whyNotRow 90 = .ok (.iload_n 1, 1) := by decide +kernel
theorem dX12_whyNotRow_91 : decode cX12_whyNotRow 91 = .ok (.imul, 1) := by decide +kernel
theorem dX12_whyNotRow_92 : decode cX12_whyNotRow 92 = .ok (.iload_n 3, 1) := by decide +kernel
theorem dX12_whyNotRow_93 : decode cX12_whyNotRow 93 = .ok (.iadd, 1) := by decide +kernel
theorem dX12_whyNotRow_94 : decode cX12_whyNotRow 94 = .ok (.laload, 1) := by decide +kernel
theorem dX12_whyNotRow_95 : decode cX12_whyNotRow 95 = .ok (.l2i, 1) := by decide +kernel
theorem dX12_whyNotRow_96 : decode cX12_whyNotRow 96 = .ok (.iastore, 1) := by decide +kernel
theorem dX12_whyNotRow_97 : decode cX12_whyNotRow 97 = .ok (.iload_n 2, 1) := by decide +kernel
theorem dX12_whyNotRow_98 : decode cX12_whyNotRow 98 = .ok (.iconst 1, 1) := by decide +kernel
theorem dX12_whyNotRow_99 : decode cX12_whyNotRow 99 = .ok (.aload_n 0, 1) := by decide +kernel
theorem dX12_whyNotRow_100 : decode cX12_whyNotRow 100 = .ok (.getfield 74, 3) := by decide +kernel
theorem dX12_whyNotRow_103 : decode cX12_whyNotRow 103 = .ok (.iload_n 3, 1) := by decide +kernel
theorem dX12_whyNotRow_104 : decode cX12_whyNotRow 104 = .ok (.iaload, 1) := by decide +kernel
theorem dX12_whyNotRow_105 : decode cX12_whyNotRow 105 = .ok (.ishl, 1) := by decide +kernel
theorem dX12_whyNotRow_106 : decode cX12_whyNotRow 106 = .ok (.ior, 1) := by decide +kernel
theorem dX12_whyNotRow_107 : decode cX12_whyNotRow 107 = .ok (.istore_n 2, 1) := by decide +kernel
theorem dX12_whyNotRow_108 : decode cX12_whyNotRow 108 = .ok (.iinc 3 1, 3) := by decide +kernel
theorem dX12_whyNotRow_111 : decode cX12_whyNotRow 111 = .ok (.goto (-61), 3) := by decide +kernel
theorem dX12_whyNotRow_114 : decode cX12_whyNotRow 114 = .ok (.iload_n 2, 1) := by decide +kernel
theorem dX12_whyNotRow_115 : decode cX12_whyNotRow 115 = .ok (.invokestatic 284, 3) := by decide +kernel
theorem dX12_whyNotRow_118 : decode cX12_whyNotRow 118 = .ok (.aload_n 0, 1) := by decide +kernel
theorem dX12_whyNotRow_119 : decode cX12_whyNotRow 119 = .ok (.invokevirtual 241, 3) := by decide +kernel
theorem dX12_whyNotRow_122 : decode cX12_whyNotRow 122 = .ok (.if_icmp .ne 7, 3) := by decide +kernel
theorem dX12_whyNotRow_125 : decode cX12_whyNotRow 125 = .ok (.iconst 0, 1) := by decide +kernel
theorem dX12_whyNotRow_126 : decode cX12_whyNotRow 126 = .ok (.goto 5, 3) := by decide +kernel
theorem dX12_whyNotRow_129 : decode cX12_whyNotRow 129 = .ok (.bipush (-2), 2) := by decide +kernel
theorem dX12_whyNotRow_131 : decode cX12_whyNotRow 131 = .ok (.ireturn, 1) := by decide +kernel
theorem dX12_slide_0 : decode cX12_slide 0 = .ok (.aload_n 0, 1) := by decide +kernel
theorem dX12_slide_1 : decode cX12_slide 1 = .ok (.iconst 0, 1) := by decide +kernel
theorem dX12_slide_2 : decode cX12_slide 2 = .ok (.putfield 89, 3) := by decide +kernel
theorem dX12_slide_5 : decode cX12_slide 5 = .ok (.aload_n 0, 1) := by decide +kernel
theorem dX12_slide_6 : decode cX12_slide 6 = .ok (.iload_n 1, 1) := by decide +kernel
theorem dX12_slide_7 : decode cX12_slide 7 = .ok (.invokevirtual 327, 3) := by decide +kernel
theorem dX12_slide_10 : decode cX12_slide 10 = .ok (.istore_n 2, 1) := by decide +kernel
theorem dX12_slide_11 : decode cX12_slide 11 = .ok (.iload_n 2, 1) := by decide +kernel
theorem dX12_slide_12 : decode cX12_slide 12 = .ok (.ifCond .eq 5, 3) := by decide +kernel
theorem dX12_slide_15 : decode cX12_slide 15 = .ok (.iload_n 2, 1) := by decide +kernel
theorem dX12_slide_16 : decode cX12_slide 16 = .ok (.ireturn, 1) := by decide +kernel
theorem dX12_slide_17 : decode cX12_slide 17 = .ok (.aload_n 0, 1) := by decide +kernel
theorem dX12_slide_18 : decode cX12_slide 18 = .ok (.invokevirtual 266, 3) := by decide +kernel
theorem dX12_slide_21 : decode cX12_slide 21 = .ok (.aload_n 0, 1) := by decide +kernel
theorem dX12_slide_22 : decode cX12_slide 22 = .ok (.aload_n 0, 1) := by decide +kernel
theorem dX12_slide_23 : decode cX12_slide 23 = .ok (.aload_n 0, 1) := by decide +kernel
theorem dX12_slide_24 : decode cX12_slide 24 = .ok (.getfield 74, 3) := by decide +kernel
theorem dX12_slide_27 : decode cX12_slide 27 = .ok (.invokevirtual 324, 3) := by decide +kernel
theorem dX12_slide_30 : decode cX12_slide 30 = .ok (.invokevirtual 330, 3) := by decide +kernel
theorem dX12_slide_33 : decode cX12_slide 33 = .ok (.aload_n 0, 1) := by decide +kernel
theorem dX12_slide_34 : decode cX12_slide 34 = .ok (.getfield 65, 3) := by decide +kernel
theorem dX12_slide_37 : decode cX12_slide 37 = .ok (.aload_n 0, 1) := by decide +kernel
theorem dX12_slide_38 : decode cX12_slide 38 = .ok (.aload_n 0, 1) := by decide +kernel
theorem dX12_slide_39 : decode cX12_slide 39 = .ok (.getfield 59, 3) := by decide +kernel
theorem dX12_slide_42 : decode cX12_slide 42 = .ok (.invokevirtual 324, 3) := by decide +kernel
theorem dX12_slide_45 : decode cX12_slide 45 = .ok (.iaload, 1) := by decide +kernel
theorem dX12_slide_46 : decode cX12_slide 46 = .ok (.ireturn, 1) := by decide +kernel
theorem dX12_slides_0 : decode cX12_slides 0 = .ok (.aload_n 0, 1) := by decide +kernel
theorem dX12_slides_1 : decode cX12_slides 1 = .ok (.iconst 0, 1) := by decide +kernel
theorem dX12_slides_2 : decode cX12_slides 2 = .ok (.putfield 89, 3) := by decide +kernel
theorem dX12_slides_5 : decode cX12_slides 5 = .ok (.aload_n 0, 1) := by decide +kernel
theorem dX12_slides_6 : decode cX12_slides 6 = .ok (.iload_n 1, 1) := by decide +kernel
theorem dX12_slides_7 : decode cX12_slides 7 = .ok (.invokevirtual 327, 3) := by decide +kernel
theorem dX12_slides_10 : decode cX12_slides 10 = .ok (.istore_n 3, 1) := by decide +kernel
theorem dX12_slides_11 : decode cX12_slides 11 = .ok (.iload_n 3, 1) := by decide +kernel
theorem dX12_slides_12 : decode cX12_slides 12 = .ok (.ifCond .eq 5, 3) := by decide +kernel
theorem dX12_slides_15 : decode cX12_slides 15 = .ok (.iload_n 3, 1) := by decide +kernel
theorem dX12_slides_16 : decode cX12_slides 16 = .ok (.ireturn, 1) := by decide +kernel
theorem dX12_slides_17 : decode cX12_slides 17 = .ok (.aload_n 0, 1) := by decide +kernel
theorem dX12_slides_18 : decode cX12_slides 18 = .ok (.invokevirtual 266, 3) := by decide +kernel
theorem dX12_slides_21 : decode cX12_slides 21 = .ok (.aload_n 0, 1) := by decide +kernel
theorem dX12_slides_22 : decode cX12_slides 22 = .ok (.aload_n 0, 1) := by decide +kernel
theorem dX12_slides_23 : decode cX12_slides 23 = .ok (.aload_n 0, 1) := by decide +kernel
theorem dX12_slides_24 : decode cX12_slides 24 = .ok (.getfield 74, 3) := by decide +kernel
theorem dX12_slides_27 : decode cX12_slides 27 = .ok (.invokevirtual 324, 3) := by decide +kernel
theorem dX12_slides_30 : decode cX12_slides 30 = .ok (.invokevirtual 330, 3) := by decide +kernel
theorem dX12_slides_33 : decode cX12_slides 33 = .ok (.aload_n 0, 1) := by decide +kernel
theorem dX12_slides_34 : decode cX12_slides 34 = .ok (.getfield 65, 3) := by decide +kernel
theorem dX12_slides_37 : decode cX12_slides 37 = .ok (.aload_n 0, 1) := by decide +kernel
theorem dX12_slides_38 : decode cX12_slides 38 = .ok (.aload_n 0, 1) := by decide +kernel
theorem dX12_slides_39 : decode cX12_slides 39 = .ok (.getfield 59, 3) := by decide +kernel
theorem dX12_slides_42 : decode cX12_slides 42 = .ok (.invokevirtual 324, 3) := by decide +kernel
theorem dX12_slides_45 : decode cX12_slides 45 = .ok (.iaload, 1) := by decide +kernel
theorem dX12_slides_46 : decode cX12_slides 46 = .ok (.istore 4, 2) := by decide +kernel
theorem dX12_slides_48 : decode cX12_slides 48 = .ok (.iconst 0, 1) := by decide +kernel
theorem dX12_slides_49 : decode cX12_slides 49 = .ok (.istore 5, 2) := by decide +kernel
theorem dX12_slides_51 : decode cX12_slides 51 = .ok (.iload 5, 2) := by decide +kernel
theorem dX12_slides_53 : decode cX12_slides 53 = .ok (.iload 4, 2) := by decide +kernel
theorem dX12_slides_55 : decode cX12_slides 55 = .ok (.if_icmp .ge 128, 3) := by decide +kernel
theorem dX12_slides_58 : decode cX12_slides 58 = .ok (.aload_n 0, 1) := by decide +kernel
theorem dX12_slides_59 : decode cX12_slides 59 = .ok (.aload_n 0, 1) := by decide +kernel
theorem dX12_slides_60 : decode cX12_slides 60 = .ok (.getfield 59, 3) := by decide +kernel
theorem dX12_slides_63 : decode cX12_slides 63 = .ok (.invokevirtual 317, 3) := by decide +kernel
theorem dX12_slides_66 : decode cX12_slides 66 = .ok (.istore 6, 2) := by decide +kernel
theorem dX12_slides_68 : decode cX12_slides 68 = .ok (.iconst (-1), 1) := by decide +kernel
theorem dX12_slides_69 : decode cX12_slides 69 = .ok (.istore 7, 2) := by decide +kernel
theorem dX12_slides_71 : decode cX12_slides 71 = .ok (.iconst 0, 1) := by decide +kernel
theorem dX12_slides_72 : decode cX12_slides 72 = .ok (.istore 8, 2) := by decide +kernel
theorem dX12_slides_74 : decode cX12_slides 74 = .ok (.iload 8, 2) := by decide +kernel
theorem dX12_slides_76 : decode cX12_slides 76 = .ok (.aload_n 0, 1) := by decide +kernel
theorem dX12_slides_77 : decode cX12_slides 77 = .ok (.invokevirtual 241, 3) := by decide +kernel
theorem dX12_slides_80 : decode cX12_slides 80 = .ok (.if_icmp .ge 88, 3) := by decide +kernel
theorem dX12_slides_83 : decode cX12_slides 83 = .ok (.iload 7, 2) := by decide +kernel
theorem dX12_slides_85 : decode cX12_slides 85 = .ok (.iconst (-1), 1) := by decide +kernel
theorem dX12_slides_86 : decode cX12_slides 86 = .ok (.if_icmp .ne 82, 3) := by decide +kernel
theorem dX12_slides_89 : decode cX12_slides 89 = .ok (.iload 8, 2) := by decide +kernel
theorem dX12_slides_91 : decode cX12_slides 91 = .ok (.iload 6, 2) := by decide +kernel
theorem dX12_slides_93 : decode cX12_slides 93 = .ok (.if_icmp .eq 69, 3) := by decide +kernel
theorem dX12_slides_96 : decode cX12_slides 96 = .ok (.aload_n 0, 1) := by decide +kernel
theorem dX12_slides_97 : decode cX12_slides 97 = .ok (.iload 6, 2) := by decide +kernel
theorem dX12_slides_99 : decode cX12_slides 99 = .ok (.iload 8, 2) := by decide +kernel
theorem dX12_slides_101 : decode cX12_slides 101 = .ok (.invokevirtual 321, 3) := by decide +kernel
theorem dX12_slides_104 : decode cX12_slides 104 = .ok (.ifCond .ne 6, 3) := by decide +kernel
theorem dX12_slides_107 : decode cX12_slides 107 = .ok (.goto 55, 3) := by decide +kernel
theorem dX12_slides_110 : decode cX12_slides 110 = .ok (.aload_n 0, 1) := by decide +kernel
theorem dX12_slides_111 : decode cX12_slides 111 = .ok (.getfield 59, 3) := by decide +kernel
theorem dX12_slides_114 : decode cX12_slides 114 = .ok (.iload 6, 2) := by decide +kernel
theorem dX12_slides_116 : decode cX12_slides 116 = .ok (.iload 8, 2) := by decide +kernel
theorem dX12_slides_118 : decode cX12_slides 118 = .ok (.invokestatic 251, 3) := by decide +kernel
theorem dX12_slides_121 : decode cX12_slides 121 = .ok (.aload_n 0, 1) := by decide +kernel
theorem dX12_slides_122 : decode cX12_slides 122 = .ok (.getfield 65, 3) := by decide +kernel
theorem dX12_slides_125 : decode cX12_slides 125 = .ok (.aload_n 0, 1) := by decide +kernel
theorem dX12_slides_126 : decode cX12_slides 126 = .ok (.aload_n 0, 1) := by decide +kernel
theorem dX12_slides_127 : decode cX12_slides 127 = .ok (.getfield 59, 3) := by decide +kernel
theorem dX12_slides_130 : decode cX12_slides 130 = .ok (.invokevirtual 324, 3) := by decide +kernel
theorem dX12_slides_133 : decode cX12_slides 133 = .ok (.iaload, 1) := by decide +kernel
theorem dX12_slides_134 : decode cX12_slides 134 = .ok (.iload 4, 2) := by decide +kernel
theorem dX12_slides_136 : decode cX12_slides 136 = .ok (.iload 5, 2) := by decide +kernel
theorem dX12_slides_138 : decode cX12_slides 138 = .ok (.isub, 1) := by decide +kernel
theorem dX12_slides_139 : decode cX12_slides 139 = .ok (.iconst 1, 1) := by decide +kernel
theorem dX12_slides_140 : decode cX12_slides 140 = .ok (.isub, 1) := by decide +kernel
theorem dX12_slides_141 : decode cX12_slides 141 = .ok (.if_icmp .ne 10, 3) := by decide +kernel
theorem dX12_slides_144 : decode cX12_slides 144 = .ok (.iload 8, 2) := by decide +kernel
theorem dX12_slides_146 : decode cX12_slides 146 = .ok (.istore 7, 2) := by decide +kernel
theorem dX12_slides_148 : decode cX12_slides 148 = .ok (.goto 14, 3) := by decide +kernel
theorem dX12_slides_151 : decode cX12_slides 151 = .ok (.aload_n 0, 1) := by decide +kernel
theorem dX12_slides_152 : decode cX12_slides 152 = .ok (.getfield 59, 3) := by decide +kernel
theorem dX12_slides_155 : decode cX12_slides 155 = .ok (.iload 6, 2) := by decide +kernel
theorem dX12_slides_157 : decode cX12_slides 157 = .ok (.iload 8, 2) := by decide +kernel
theorem dX12_slides_159 : decode cX12_slides 159 = .ok (.invokestatic 251, 3) := by decide +kernel
theorem dX12_slides_162 : decode cX12_slides 162 = .ok (.iinc 8 1, 3) := by decide +kernel
theorem dX12_slides_165 : decode cX12_slides 165 = .ok (.goto (-91), 3) := by decide +kernel
theorem dX12_slides_168 : decode cX12_slides 168 = .ok (.iload 5, 2) := by decide +kernel
theorem dX12_slides_170 : decode cX12_slides 170 = .ok (.iload_n 2, 1) := by decide +kernel
theorem dX12_slides_171 : decode cX12_slides 171 = .ok (.if_icmp .ne 6, 3) := by decide +kernel
theorem dX12_slides_174 : decode cX12_slides 174 = .ok (.iload 7, 2) := by decide +kernel
theorem dX12_slides_176 : decode cX12_slides 176 = .ok (.ireturn, 1) := by decide +kernel
theorem dX12_slides_177 : decode cX12_slides 177 = .ok (.iinc 5 1, 3) := by decide +kernel
theorem dX12_slides_180 : decode cX12_slides 180 = .ok (.goto (-129), 3) := by decide +kernel
theorem dX12_slides_183 : decode cX12_slides 183 = .ok (.iconst (-1), 1) := by decide +kernel
theorem dX12_slides_184 : decode cX12_slides 184 = .ok (.ireturn, 1) := by decide +kernel
theorem dX12_reach_0 : decode cX12_reach 0 = .ok (.aload_n 0, 1) := by decide +kernel
theorem dX12_reach_1 : decode cX12_reach 1 = .ok (.iconst 0, 1) := by decide +kernel
theorem dX12_reach_2 : decode cX12_reach 2 = .ok (.putfield 89, 3) := by decide +kernel
theorem dX12_reach_5 : decode cX12_reach 5 = .ok (.aload_n 0, 1) := by decide +kernel
theorem dX12_reach_6 : decode cX12_reach 6 = .ok (.invokevirtual 278, 3) := by decide +kernel
theorem dX12_reach_9 : decode cX12_reach 9 = .ok (.ifCond .ne 6, 3) := by decide +kernel
theorem dX12_reach_12 : decode cX12_reach 12 = .ok (.bipush (-2), 2) := by decide +kernel
theorem dX12_reach_14 : decode cX12_reach 14 = .ok (.ireturn, 1) := by decide +kernel
theorem dX12_reach_15 : decode cX12_reach 15 = .ok (.aload_n 0, 1) := by decide +kernel
theorem dX12_reach_16 : decode cX12_reach 16 = .ok (.invokevirtual 266, 3) := by decide +kernel
theorem dX12_reach_19 : decode cX12_reach 19 = .ok (.aload_n 0, 1) := by decide +kernel
theorem dX12_reach_20 : decode cX12_reach 20 = .ok (.aload_n 0, 1) := by decide +kernel
theorem dX12_reach_21 : decode cX12_reach 21 = .ok (.aload_n 0, 1) := by decide +kernel
theorem dX12_reach_22 : decode cX12_reach 22 = .ok (.getfield 59, 3) := by decide +kernel
theorem dX12_reach_25 : decode cX12_reach 25 = .ok (.invokevirtual 324, 3) := by decide +kernel
theorem dX12_reach_28 : decode cX12_reach 28 = .ok (.invokevirtual 330, 3) := by decide +kernel
theorem dX12_reach_31 : decode cX12_reach 31 = .ok (.aload_n 0, 1) := by decide +kernel
theorem dX12_reach_32 : decode cX12_reach 32 = .ok (.getfield 310, 3) := by decide +kernel
theorem dX12_reach_35 : decode cX12_reach 35 = .ok (.ireturn, 1) := by decide +kernel
theorem dX12_far_0 : decode cX12_far 0 = .ok (.aload_n 0, 1) := by decide +kernel
theorem dX12_far_1 : decode cX12_far 1 = .ok (.iconst 0, 1) := by decide +kernel
theorem dX12_far_2 : decode cX12_far 2 = .ok (.putfield 89, 3) := by decide +kernel
theorem dX12_far_5 : decode cX12_far 5 = .ok (.aload_n 0, 1) := by decide +kernel
theorem dX12_far_6 : decode cX12_far 6 = .ok (.invokevirtual 278, 3) := by decide +kernel
theorem dX12_far_9 : decode cX12_far 9 = .ok (.ifCond .ne 6, 3) := by decide +kernel
theorem dX12_far_12 : decode cX12_far 12 = .ok (.bipush (-2), 2) := by decide +kernel
theorem dX12_far_14 : decode cX12_far 14 = .ok (.ireturn, 1) := by decide +kernel
theorem dX12_far_15 : decode cX12_far 15 = .ok (.aload_n 0, 1) := by decide +kernel
theorem dX12_far_16 : decode cX12_far 16 = .ok (.invokevirtual 266, 3) := by decide +kernel
theorem dX12_far_19 : decode cX12_far 19 = .ok (.aload_n 0, 1) := by decide +kernel
theorem dX12_far_20 : decode cX12_far 20 = .ok (.aload_n 0, 1) := by decide +kernel
theorem dX12_far_21 : decode cX12_far 21 = .ok (.aload_n 0, 1) := by decide +kernel
theorem dX12_far_22 : decode cX12_far 22 = .ok (.getfield 59, 3) := by decide +kernel
theorem dX12_far_25 : decode cX12_far 25 = .ok (.invokevirtual 324, 3) := by decide +kernel
theorem dX12_far_28 : decode cX12_far 28 = .ok (.invokevirtual 330, 3) := by decide +kernel
theorem dX12_far_31 : decode cX12_far 31 = .ok (.aload_n 0, 1) := by decide +kernel
theorem dX12_far_32 : decode cX12_far 32 = .ok (.getfield 65, 3) := by decide +kernel
theorem dX12_far_35 : decode cX12_far 35 = .ok (.aload_n 0, 1) := by decide +kernel
theorem dX12_far_36 : decode cX12_far 36 = .ok (.getfield 68, 3) := by decide +kernel
theorem dX12_far_39 : decode cX12_far 39 = .ok (.aload_n 0, 1) := by decide +kernel
theorem dX12_far_40 : decode cX12_far 40 = .ok (.getfield 310, 3) := by decide +kernel
theorem dX12_far_43 : decode cX12_far 43 = .ok (.iconst 1, 1) := by decide +kernel
theorem dX12_far_44 : decode cX12_far 44 = .ok (.isub, 1) := by decide +kernel
theorem dX12_far_45 : decode cX12_far 45 = .ok (.iaload, 1) := by decide +kernel
theorem dX12_far_46 : decode cX12_far 46 = .ok (.iaload, 1) := by decide +kernel
theorem dX12_far_47 : decode cX12_far 47 = .ok (.ireturn, 1) := by decide +kernel
theorem dX12_whyNotFits_0 : decode cX12_whyNotFits 0 = .ok (.iload_n 1, 1) := by decide +kernel
theorem dX12_whyNotFits_1 : decode cX12_whyNotFits 1 = .ok (.invokestatic 98, 3) := by decide +kernel
theorem dX12_whyNotFits_4 : decode cX12_whyNotFits 4 = .ok (.ifCond .eq 10, 3) := by decide +kernel
theorem dX12_whyNotFits_7 : decode cX12_whyNotFits 7 = .ok (.aload_n 0, 1) := by decide +kernel
theorem dX12_whyNotFits_8 : decode cX12_whyNotFits 8 = .ok (.invokevirtual 278, 3) := by decide +kernel
theorem dX12_whyNotFits_11 : decode cX12_whyNotFits 11 = .ok (.ifCond .ne 6, 3) := by decide +kernel
theorem dX12_whyNotFits_14 : decode cX12_whyNotFits 14 = .ok (.bipush (-2), 2) := by decide +kernel
theorem dX12_whyNotFits_16 : decode cX12_whyNotFits 16 = .ok (.ireturn, 1) := by decide +kernel
theorem dX12_whyNotFits_17 : decode cX12_whyNotFits 17 = .ok (.aload_n 0, 1) := by decide +kernel
theorem dX12_whyNotFits_18 : decode cX12_whyNotFits 18 = .ok (.getfield 7, 3) := by decide +kernel
theorem dX12_whyNotFits_21 : decode cX12_whyNotFits 21 = .ok (.iload_n 1, 1) := by decide +kernel
theorem dX12_whyNotFits_22 : decode cX12_whyNotFits 22 = .ok (.iaload, 1) := by decide +kernel
theorem dX12_whyNotFits_23 : decode cX12_whyNotFits 23 = .ok (.iconst (-1), 1) := by decide +kernel
theorem dX12_whyNotFits_24 : decode cX12_whyNotFits 24 = .ok (.if_icmp .ne 6, 3) := by decide +kernel
theorem dX12_whyNotFits_27 : decode cX12_whyNotFits 27 = .ok (.bipush (-6), 2) := by decide +kernel
theorem dX12_whyNotFits_29 : decode cX12_whyNotFits 29 = .ok (.ireturn, 1) := by decide +kernel
theorem dX12_whyNotFits_30 : decode cX12_whyNotFits 30 = .ok (.aload_n 0, 1) := by decide +kernel
theorem dX12_whyNotFits_31 : decode cX12_whyNotFits 31 = .ok (.getfield 13, 3) := by decide +kernel
theorem dX12_whyNotFits_34 : decode cX12_whyNotFits 34 = .ok (.iload_n 1, 1) := by decide +kernel
theorem dX12_whyNotFits_35 : decode cX12_whyNotFits 35 = .ok (.iaload, 1) := by decide +kernel
theorem dX12_whyNotFits_36 : decode cX12_whyNotFits 36 = .ok (.iconst 3, 1) := by decide +kernel
theorem dX12_whyNotFits_37 : decode cX12_whyNotFits 37 = .ok (.irem, 1) := by decide +kernel
theorem dX12_whyNotFits_38 : decode cX12_whyNotFits 38 = .ok (.ifCond .eq 6, 3) := by decide +kernel
theorem dX12_whyNotFits_41 : decode cX12_whyNotFits 41 = .ok (.bipush (-2), 2) := by decide +kernel
theorem dX12_whyNotFits_43 : decode cX12_whyNotFits 43 = .ok (.ireturn, 1) := by decide +kernel
theorem dX12_whyNotFits_44 : decode cX12_whyNotFits 44 = .ok (.iconst 0, 1) := by decide +kernel
theorem dX12_whyNotFits_45 : decode cX12_whyNotFits 45 = .ok (.istore_n 2, 1) := by decide +kernel
theorem dX12_whyNotFits_46 : decode cX12_whyNotFits 46 = .ok (.iload_n 2, 1) := by decide +kernel
theorem dX12_whyNotFits_47 : decode cX12_whyNotFits 47 = .ok (.aload_n 0, 1) := by decide +kernel
theorem dX12_whyNotFits_48 : decode cX12_whyNotFits 48 = .ok (.getfield 13, 3) := by decide +kernel
theorem dX12_whyNotFits_51 : decode cX12_whyNotFits 51 = .ok (.iload_n 1, 1) := by decide +kernel
theorem dX12_whyNotFits_52 : decode cX12_whyNotFits 52 = .ok (.iaload, 1) := by decide +kernel
theorem dX12_whyNotFits_53 : decode cX12_whyNotFits 53 = .ok (.if_icmp .ge 65, 3) := by decide +kernel
theorem dX12_whyNotFits_56 : decode cX12_whyNotFits 56 = .ok (.bipush 60, 2) := by decide +kernel
theorem dX12_whyNotFits_58 : decode cX12_whyNotFits 58 = .ok (.iload_n 1, 1) := by decide +kernel
theorem dX12_whyNotFits_59 : decode cX12_whyNotFits 59 = .ok (.imul, 1) := by decide +kernel
theorem dX12_whyNotFits_60 : decode cX12_whyNotFits 60 = .ok (.iload_n 2, 1) := by decide +kernel
theorem dX12_whyNotFits_61 : decode cX12_whyNotFits 61 = .ok (.iadd, 1) := by decide +kernel
theorem dX12_whyNotFits_62 : decode cX12_whyNotFits 62 = .ok (.istore_n 3, 1) := by decide +kernel
theorem dX12_whyNotFits_63 : decode cX12_whyNotFits 63 = .ok (.aload_n 0, 1) := by decide +kernel
theorem dX12_whyNotFits_64 : decode cX12_whyNotFits 64 = .ok (.aload_n 0, 1) := by decide +kernel
theorem dX12_whyNotFits_65 : decode cX12_whyNotFits 65 = .ok (.getfield 16, 3) := by decide +kernel
theorem dX12_whyNotFits_68 : decode cX12_whyNotFits 68 = .ok (.iload_n 3, 1) := by decide +kernel
theorem dX12_whyNotFits_69 : decode cX12_whyNotFits 69 = .ok (.laload, 1) := by decide +kernel
theorem dX12_whyNotFits_70 : decode cX12_whyNotFits 70 = .ok (.invokevirtual 263, 3) := by decide +kernel
theorem dX12_whyNotFits_73 : decode cX12_whyNotFits 73 = .ok (.ifCond .eq 36, 3) := by decide +kernel
theorem dX12_whyNotFits_76 : decode cX12_whyNotFits 76 = .ok (.aload_n 0, 1) := by decide +kernel
theorem dX12_whyNotFits_77 : decode cX12_whyNotFits 77 = .ok (.getfield 16, 3) := by decide +kernel
theorem dX12_whyNotFits_80 : decode cX12_whyNotFits 80 = .ok (.iload_n 3, 1) := by decide +kernel
theorem dX12_whyNotFits_81 : decode cX12_whyNotFits 81 = .ok (.iconst 1, 1) := by decide +kernel
theorem dX12_whyNotFits_82 : decode cX12_whyNotFits 82 = .ok (.iadd, 1) := by decide +kernel
theorem dX12_whyNotFits_83 : decode cX12_whyNotFits 83 = .ok (.laload, 1) := by decide +kernel
theorem dX12_whyNotFits_84 : decode cX12_whyNotFits 84 = .ok (.lconst 0, 1) := by decide +kernel
theorem dX12_whyNotFits_85 : decode cX12_whyNotFits 85 = .ok (.ldc2_w 333, 3) := by decide +kernel
theorem dX12_whyNotFits_88 : decode cX12_whyNotFits 88 = .ok (.invokestatic 94, 3) := by decide +kernel
theorem dX12_whyNotFits_91 : decode cX12_whyNotFits 91 = .ok (.ifCond .eq 18, 3) := by decide +kernel
theorem dX12_whyNotFits_94 : decode cX12_whyNotFits 94 = .ok (.aload_n 0, 1) := by decide +kernel
theorem dX12_whyNotFits_95 : decode cX12_whyNotFits 95 = .ok (.aload_n 0, 1) := by decide +kernel
theorem dX12_whyNotFits_96 : decode cX12_whyNotFits 96 = .ok (.getfield 16, 3) := by decide +kernel
theorem dX12_whyNotFits_99 : decode cX12_whyNotFits 99 = .ok (.iload_n 3, 1) := by decide +kernel
theorem dX12_whyNotFits_100 : decode cX12_whyNotFits 100 = .ok (.iconst 2, 1) := by decide +kernel
theorem dX12_whyNotFits_101 : decode cX12_whyNotFits 101 = .ok (.iadd, 1) := by decide +kernel
theorem dX12_whyNotFits_102 : decode cX12_whyNotFits 102 = .ok (.laload, 1) := by decide +kernel
theorem dX12_whyNotFits_103 : decode cX12_whyNotFits 103 = .ok (.invokevirtual 263, 3) := by decide +kernel
theorem dX12_whyNotFits_106 : decode cX12_whyNotFits 106 = .ok (.ifCond .ne 6, 3) := by decide +kernel
theorem dX12_whyNotFits_109 : decode cX12_whyNotFits 109 = .ok (.bipush (-2), 2) := by decide +kernel
theorem dX12_whyNotFits_111 : decode cX12_whyNotFits 111 = .ok (.ireturn, 1) := by decide +kernel
theorem dX12_whyNotFits_112 : decode cX12_whyNotFits 112 = .ok (.iinc 2 3, 3) := by decide +kernel
theorem dX12_whyNotFits_115 : decode cX12_whyNotFits 115 = .ok (.goto (-69), 3) := by decide +kernel
theorem dX12_whyNotFits_118 : decode cX12_whyNotFits 118 = .ok (.iconst 0, 1) := by decide +kernel
theorem dX12_whyNotFits_119 : decode cX12_whyNotFits 119 = .ok (.ireturn, 1) := by decide +kernel
theorem dX12_laysFirst_0 : decode cX12_laysFirst 0 = .ok (.iconst 0, 1) := by decide +kernel
theorem dX12_laysFirst_1 : decode cX12_laysFirst 1 = .ok (.istore_n 2, 1) := by decide +kernel
theorem dX12_laysFirst_2 : decode cX12_laysFirst 2 = .ok (.iload_n 2, 1) := by decide +kernel
theorem dX12_laysFirst_3 : decode cX12_laysFirst 3 = .ok (.aload_n 0, 1) := by decide +kernel
theorem dX12_laysFirst_4 : decode cX12_laysFirst 4 = .ok (.invokevirtual 241, 3) := by decide +kernel
theorem dX12_laysFirst_7 : decode cX12_laysFirst 7 = .ok (.if_icmp .ge 16, 3) := by decide +kernel
theorem dX12_laysFirst_10 : decode cX12_laysFirst 10 = .ok (.aload_n 0, 1) := by decide +kernel
theorem dX12_laysFirst_11 : decode cX12_laysFirst 11 = .ok (.getfield 77, 3) := by decide +kernel
theorem dX12_laysFirst_14 : decode cX12_laysFirst 14 = .ok (.iload_n 2, 1) := by decide +kernel
theorem dX12_laysFirst_15 : decode cX12_laysFirst 15 = .ok (.iconst (-1), 1) := by decide +kernel
theorem dX12_laysFirst_16 : decode cX12_laysFirst 16 = .ok (.iastore, 1) := by decide +kernel
theorem dX12_laysFirst_17 : decode cX12_laysFirst 17 = .ok (.iinc 2 1, 3) := by decide +kernel
theorem dX12_laysFirst_20 : decode cX12_laysFirst 20 = .ok (.goto (-18), 3) := by decide +kernel
theorem dX12_laysFirst_23 : decode cX12_laysFirst 23 = .ok (.iconst 0, 1) := by decide +kernel
theorem dX12_laysFirst_24 : decode cX12_laysFirst 24 = .ok (.istore_n 2, 1) := by decide +kernel
theorem dX12_laysFirst_25 : decode cX12_laysFirst 25 = .ok (.iload_n 2, 1) := by decide +kernel
theorem dX12_laysFirst_26 : decode cX12_laysFirst 26 = .ok (.aload_n 0, 1) := by decide +kernel
theorem dX12_laysFirst_27 : decode cX12_laysFirst 27 = .ok (.getfield 13, 3) := by decide +kernel
theorem dX12_laysFirst_30 : decode cX12_laysFirst 30 = .ok (.iload_n 1, 1) := by decide +kernel
theorem dX12_laysFirst_31 : decode cX12_laysFirst 31 = .ok (.iaload, 1) := by decide +kernel
theorem dX12_laysFirst_32 : decode cX12_laysFirst 32 = .ok (.if_icmp .ge 141, 3) := by decide +kernel
theorem dX12_laysFirst_35 : decode cX12_laysFirst 35 = .ok (.bipush 60, 2) := by decide +kernel
theorem dX12_laysFirst_37 : decode cX12_laysFirst 37 = .ok (.iload_n 1, 1) := by decide +kernel
theorem dX12_laysFirst_38 : decode cX12_laysFirst 38 = .ok (.imul, 1) := by decide +kernel
theorem dX12_laysFirst_39 : decode cX12_laysFirst 39 = .ok (.iload_n 2, 1) := by decide +kernel
theorem dX12_laysFirst_40 : decode cX12_laysFirst 40 = .ok (.iadd, 1) := by decide +kernel
theorem dX12_laysFirst_41 : decode cX12_laysFirst 41 = .ok (.istore_n 3, 1) := by decide +kernel
theorem dX12_laysFirst_42 : decode cX12_laysFirst 42 = .ok (.iconst 0, 1) := by decide +kernel
theorem dX12_laysFirst_43 : decode cX12_laysFirst 43 = .ok (.istore 4, 2) := by decide +kernel
theorem dX12_laysFirst_45 : decode cX12_laysFirst 45 = .ok (.iload 4, 2) := by decide +kernel
theorem dX12_laysFirst_47 : decode cX12_laysFirst 47 = .ok (.aload_n 0, 1) := by decide +kernel
theorem dX12_laysFirst_48 : decode cX12_laysFirst 48 = .ok (.invokevirtual 241, 3) := by decide +kernel
theorem dX12_laysFirst_51 : decode cX12_laysFirst 51 = .ok (.if_icmp .ge 18, 3) := by decide +kernel
theorem dX12_laysFirst_54 : decode cX12_laysFirst 54 = .ok (.aload_n 0, 1) := by decide +kernel
theorem dX12_laysFirst_55 : decode cX12_laysFirst 55 = .ok (.getfield 56, 3) := by decide +kernel
theorem dX12_laysFirst_58 : decode cX12_laysFirst 58 = .ok (.iload 4, 2) := by decide +kernel
theorem dX12_laysFirst_60 : decode cX12_laysFirst 60 = .ok (.iload 4, 2) := by decide +kernel
theorem dX12_laysFirst_62 : decode cX12_laysFirst 62 = .ok (.iastore, 1) := by decide +kernel
theorem dX12_laysFirst_63 : decode cX12_laysFirst 63 = .ok (.iinc 4 1, 3) := by decide +kernel
theorem dX12_laysFirst_66 : decode cX12_laysFirst 66 = .ok (.goto (-21), 3) := by decide +kernel
theorem dX12_laysFirst_69 : decode cX12_laysFirst 69 = .ok (.iconst 0, 1) := by decide +kernel
theorem dX12_laysFirst_70 : decode cX12_laysFirst 70 = .ok (.istore 4, 2) := by decide +kernel
theorem dX12_laysFirst_72 : decode cX12_laysFirst 72 = .ok (.iload 4, 2) := by decide +kernel
theorem dX12_laysFirst_74 : decode cX12_laysFirst 74 = .ok (.i2l, 1) := by decide +kernel
theorem dX12_laysFirst_75 : decode cX12_laysFirst 75 = .ok (.aload_n 0, 1) := by decide +kernel
theorem dX12_laysFirst_76 : decode cX12_laysFirst 76 = .ok (.getfield 16, 3) := by decide +kernel
theorem dX12_laysFirst_79 : decode cX12_laysFirst 79 = .ok (.iload_n 3, 1) := by decide +kernel
theorem dX12_laysFirst_80 : decode cX12_laysFirst 80 = .ok (.iconst 1, 1) := by decide +kernel
theorem dX12_laysFirst_81 : decode cX12_laysFirst 81 = .ok (.iadd, 1) := by decide +kernel
theorem dX12_laysFirst_82 : decode cX12_laysFirst 82 = .ok (.laload, 1) := by decide +kernel
theorem dX12_laysFirst_83 : decode cX12_laysFirst 83 = .ok (.lcmp, 1) := by decide +kernel
theorem dX12_laysFirst_84 : decode cX12_laysFirst 84 = .ok (.ifCond .ge 20, 3) := by decide +kernel
theorem dX12_laysFirst_87 : decode cX12_laysFirst 87 = .ok (.aload_n 0, 1) := by decide +kernel
theorem dX12_laysFirst_88 : decode cX12_laysFirst 88 = .ok (.aload_n 0, 1) := by decide +kernel
theorem dX12_laysFirst_89 : decode cX12_laysFirst 89 = .ok (.getfield 56, 3) := by decide +kernel
theorem dX12_laysFirst_92 : decode cX12_laysFirst 92 = .ok (.iload 4, 2) := by decide +kernel
theorem dX12_laysFirst_94 : decode cX12_laysFirst 94 = .ok (.iconst 0, 1) := by decide +kernel
theorem dX12_laysFirst_95 : decode cX12_laysFirst 95 = .ok (.invokevirtual 258, 3) := by decide +kernel
theorem dX12_laysFirst_98 : decode cX12_laysFirst 98 = .ok (.iinc 4 1, 3) := by decide +kernel
theorem dX12_laysFirst_101 : decode cX12_laysFirst 101 = .ok (.goto (-29), 3) := by decide +kernel
theorem dX12_laysFirst_104 : decode cX12_laysFirst 104 = .ok (.aload_n 0, 1) := by decide +kernel
theorem dX12_laysFirst_105 : decode cX12_laysFirst 105 = .ok (.getfield 56, 3) := by decide +kernel
theorem dX12_laysFirst_108 : decode cX12_laysFirst 108 = .ok (.aload_n 0, 1) := by decide +kernel
theorem dX12_laysFirst_109 : decode cX12_laysFirst 109 = .ok (.getfield 16, 3) := by decide +kernel
theorem dX12_laysFirst_112 : decode cX12_laysFirst 112 = .ok (.iload_n 3, 1) := by decide +kernel
theorem dX12_laysFirst_113 : decode cX12_laysFirst 113 = .ok (.laload, 1) := by decide +kernel
theorem dX12_laysFirst_114 : decode cX12_laysFirst 114 = .ok (.l2i, 1) := by decide +kernel
theorem dX12_laysFirst_115 : decode cX12_laysFirst 115 = .ok (.iaload, 1) := by decide +kernel
theorem dX12_laysFirst_116 : decode cX12_laysFirst 116 = .ok (.istore 4, 2) := by decide +kernel
theorem dX12_laysFirst_118 : decode cX12_laysFirst 118 = .ok (.aload_n 0, 1) := by decide +kernel
theorem dX12_laysFirst_119 : decode cX12_laysFirst 119 = .ok (.getfield 77, 3) := by decide +kernel
theorem dX12_laysFirst_122 : decode cX12_laysFirst 122 = .ok (.iload 4, 2) := by decide +kernel
theorem dX12_laysFirst_124 : decode cX12_laysFirst 124 = .ok (.iaload, 1) := by decide +kernel
theorem dX12_laysFirst_125 : decode cX12_laysFirst 125 = .ok (.iconst (-1), 1) := by decide +kernel
theorem dX12_laysFirst_126 : decode cX12_laysFirst 126 = .ok (.if_icmp .eq 25, 3) := by decide +kernel
theorem dX12_laysFirst_129 : decode cX12_laysFirst 129 = .ok (.aload_n 0, 1) := by decide +kernel
theorem dX12_laysFirst_130 : decode cX12_laysFirst 130 = .ok (.getfield 77, 3) := by decide +kernel
theorem dX12_laysFirst_133 : decode cX12_laysFirst 133 = .ok (.iload 4, 2) := by decide +kernel
theorem dX12_laysFirst_135 : decode cX12_laysFirst 135 = .ok (.iaload, 1) := by decide +kernel
theorem dX12_laysFirst_136 : decode cX12_laysFirst 136 = .ok (.i2l, 1) := by decide +kernel
theorem dX12_laysFirst_137 : decode cX12_laysFirst 137 = .ok (.aload_n 0, 1) := by decide +kernel
theorem dX12_laysFirst_138 : decode cX12_laysFirst 138 = .ok (.getfield 16, 3) := by decide +kernel
theorem dX12_laysFirst_141 : decode cX12_laysFirst 141 = .ok (.iload_n 3, 1) := by decide +kernel
theorem dX12_laysFirst_142 : decode cX12_laysFirst 142 = .ok (.iconst 2, 1) := by decide +kernel
theorem dX12_laysFirst_143 : decode cX12_laysFirst 143 = .ok (.iadd, 1) := by decide +kernel
theorem dX12_laysFirst_144 : decode cX12_laysFirst 144 = .ok (.laload, 1) := by decide +kernel
theorem dX12_laysFirst_145 : decode cX12_laysFirst 145 = .ok (.lcmp, 1) := by decide +kernel
theorem dX12_laysFirst_146 : decode cX12_laysFirst 146 = .ok (.ifCond .eq 5, 3) := by decide +kernel
theorem dX12_laysFirst_149 : decode cX12_laysFirst 149 = .ok (.iconst 0, 1) := by decide +kernel
theorem dX12_laysFirst_150 : decode cX12_laysFirst 150 = .ok (.ireturn, 1) := by decide +kernel
theorem dX12_laysFirst_151 : decode cX12_laysFirst 151 = .ok (.aload_n 0, 1) := by decide +kernel
theorem dX12_laysFirst_152 : decode cX12_laysFirst 152 = .ok (.getfield 77, 3) := by decide +kernel
theorem dX12_laysFirst_155 : decode cX12_laysFirst 155 = .ok (.iload 4, 2) := by decide +kernel
theorem dX12_laysFirst_157 : decode cX12_laysFirst 157 = .ok (.aload_n 0, 1) := by decide +kernel
theorem dX12_laysFirst_158 : decode cX12_laysFirst 158 = .ok (.getfield 16, 3) := by decide +kernel
theorem dX12_laysFirst_161 : decode cX12_laysFirst 161 = .ok (.iload_n 3, 1) := by decide +kernel
theorem dX12_laysFirst_162 : decode cX12_laysFirst 162 = .ok (.iconst 2, 1) := by decide +kernel
theorem dX12_laysFirst_163 : decode cX12_laysFirst 163 = .ok (.iadd, 1) := by decide +kernel
theorem dX12_laysFirst_164 : decode cX12_laysFirst 164 = .ok (.laload, 1) := by decide +kernel
theorem dX12_laysFirst_165 : decode cX12_laysFirst 165 = .ok (.l2i, 1) := by decide +kernel
theorem dX12_laysFirst_166 : decode cX12_laysFirst 166 = .ok (.iastore, 1) := by decide +kernel
theorem dX12_laysFirst_167 : decode cX12_laysFirst 167 = .ok (.iinc 2 3, 3) := by decide +kernel
theorem dX12_laysFirst_170 : decode cX12_laysFirst 170 = .ok (.goto (-145), 3) := by decide +kernel
theorem dX12_laysFirst_173 : decode cX12_laysFirst 173 = .ok (.iconst 1, 1) := by decide +kernel
theorem dX12_laysFirst_174 : decode cX12_laysFirst 174 = .ok (.ireturn, 1) := by decide +kernel
theorem dX12_laysFits_0 : decode cX12_laysFits 0 = .ok (.aload_n 0, 1) := by decide +kernel
theorem dX12_laysFits_1 : decode cX12_laysFits 1 = .ok (.iconst 0, 1) := by decide +kernel
theorem dX12_laysFits_2 : decode cX12_laysFits 2 = .ok (.putfield 335, 3) := by decide +kernel
theorem dX12_laysFits_5 : decode cX12_laysFits 5 = .ok (.aload_n 0, 1) := by decide +kernel
theorem dX12_laysFits_6 : decode cX12_laysFits 6 = .ok (.iconst (-1), 1) := by decide +kernel
theorem dX12_laysFits_7 : decode cX12_laysFits 7 = .ok (.putfield 338, 3) := by decide +kernel
theorem dX12_laysFits_10 : decode cX12_laysFits 10 = .ok (.iconst 0, 1) := by decide +kernel
theorem dX12_laysFits_11 : decode cX12_laysFits 11 = .ok (.istore_n 2, 1) := by decide +kernel
theorem dX12_laysFits_12 : decode cX12_laysFits 12 = .ok (.iload_n 2, 1) := by decide +kernel
theorem dX12_laysFits_13 : decode cX12_laysFits 13 = .ok (.bipush 49, 2) := by decide +kernel
theorem dX12_laysFits_15 : decode cX12_laysFits 15 = .ok (.if_icmp .ge 16, 3) := by decide +kernel
theorem dX12_laysFits_18 : decode cX12_laysFits 18 = .ok (.aload_n 0, 1) := by decide +kernel
theorem dX12_laysFits_19 : decode cX12_laysFits 19 = .ok (.getfield 80, 3) := by decide +kernel
theorem dX12_laysFits_22 : decode cX12_laysFits 22 = .ok (.iload_n 2, 1) := by decide +kernel
theorem dX12_laysFits_23 : decode cX12_laysFits 23 = .ok (.iconst 0, 1) := by decide +kernel
theorem dX12_laysFits_24 : decode cX12_laysFits 24 = .ok (.iastore, 1) := by decide +kernel
theorem dX12_laysFits_25 : decode cX12_laysFits 25 = .ok (.iinc 2 1, 3) := by decide +kernel
theorem dX12_laysFits_28 : decode cX12_laysFits 28 = .ok (.goto (-16), 3) := by decide +kernel
theorem dX12_laysFits_31 : decode cX12_laysFits 31 = .ok (.aload_n 0, 1) := by decide +kernel
theorem dX12_laysFits_32 : decode cX12_laysFits 32 = .ok (.iload_n 1, 1) := by decide +kernel
theorem dX12_laysFits_33 : decode cX12_laysFits 33 = .ok (.invokevirtual 341, 3) := by decide +kernel
theorem dX12_laysFits_36 : decode cX12_laysFits 36 = .ok (.ifCond .ne 4, 3) := by decide +kernel
theorem dX12_laysFits_39 : decode cX12_laysFits 39 = .ok (.return_, 1) := by decide +kernel
theorem dX12_laysFits_40 : decode cX12_laysFits 40 = .ok (.iconst 0, 1) := by decide +kernel
theorem dX12_laysFits_41 : decode cX12_laysFits 41 = .ok (.istore_n 2, 1) := by decide +kernel
theorem dX12_laysFits_42 : decode cX12_laysFits 42 = .ok (.iload_n 2, 1) := by decide +kernel
theorem dX12_laysFits_43 : decode cX12_laysFits 43 = .ok (.aload_n 0, 1) := by decide +kernel
theorem dX12_laysFits_44 : decode cX12_laysFits 44 = .ok (.invokevirtual 307, 3) := by decide +kernel
theorem dX12_laysFits_47 : decode cX12_laysFits 47 = .ok (.if_icmp .ge 143, 3) := by decide +kernel
theorem dX12_laysFits_50 : decode cX12_laysFits 50 = .ok (.aload_n 0, 1) := by decide +kernel
theorem dX12_laysFits_51 : decode cX12_laysFits 51 = .ok (.iload_n 2, 1) := by decide +kernel
theorem dX12_laysFits_52 : decode cX12_laysFits 52 = .ok (.aload_n 0, 1) := by decide +kernel
theorem dX12_laysFits_53 : decode cX12_laysFits 53 = .ok (.getfield 71, 3) := by decide +kernel
theorem dX12_laysFits_56 : decode cX12_laysFits 56 = .ok (.invokevirtual 313, 3) := by decide +kernel
theorem dX12_laysFits_59 : decode cX12_laysFits 59 = .ok (.iconst 1, 1) := by decide +kernel
theorem dX12_laysFits_60 : decode cX12_laysFits 60 = .ok (.istore_n 3, 1) := by decide +kernel
theorem dX12_laysFits_61 : decode cX12_laysFits 61 = .ok (.iconst 0, 1) := by decide +kernel
theorem dX12_laysFits_62 : decode cX12_laysFits 62 = .ok (.istore 4, 2) := by decide +kernel
theorem dX12_laysFits_64 : decode cX12_laysFits 64 = .ok (.iload 4, 2) := by decide +kernel
theorem dX12_laysFits_66 : decode cX12_laysFits 66 = .ok (.aload_n 0, 1) := by decide +kernel
theorem dX12_laysFits_67 : decode cX12_laysFits 67 = .ok (.invokevirtual 241, 3) := by decide +kernel
theorem dX12_laysFits_70 : decode cX12_laysFits 70 = .ok (.if_icmp .ge 45, 3) := by decide +kernel
theorem dX12_laysFits_73 : decode cX12_laysFits 73 = .ok (.iload_n 3, 1) := by decide +kernel
theorem dX12_laysFits_74 : decode cX12_laysFits 74 = .ok (.aload_n 0, 1) := by decide +kernel
theorem dX12_laysFits_75 : decode cX12_laysFits 75 = .ok (.getfield 77, 3) := by decide +kernel
theorem dX12_laysFits_78 : decode cX12_laysFits 78 = .ok (.iload 4, 2) := by decide +kernel
theorem dX12_laysFits_80 : decode cX12_laysFits 80 = .ok (.iaload, 1) := by decide +kernel
theorem dX12_laysFits_81 : decode cX12_laysFits 81 = .ok (.iconst (-1), 1) := by decide +kernel
theorem dX12_laysFits_82 : decode cX12_laysFits 82 = .ok (.if_icmp .eq 20, 3) := by decide +kernel
theorem dX12_laysFits_85 : decode cX12_laysFits 85 = .ok (.aload_n 0, 1) := by decide +kernel
theorem dX12_laysFits_86 : decode cX12_laysFits 86 = .ok (.getfield 77, 3) := by decide +kernel
theorem dX12_laysFits_89 : decode cX12_laysFits 89 = .ok (.iload 4, 2) := by decide +kernel
theorem dX12_laysFits_91 : decode cX12_laysFits 91 = .ok (.iaload, 1) := by decide +kernel
theorem dX12_laysFits_92 : decode cX12_laysFits 92 = .ok (.aload_n 0, 1) := by decide +kernel
theorem dX12_laysFits_93 : decode cX12_laysFits 93 = .ok (.getfield 71, 3) := by decide +kernel
theorem dX12_laysFits_96 : decode cX12_laysFits 96 = .ok (.iload 4, 2) := by decide +kernel
theorem dX12_laysFits_98 : decode cX12_laysFits 98 = .ok (.iaload, 1) := by decide +kernel
theorem dX12_laysFits_99 : decode cX12_laysFits 99 = .ok (.if_icmp .ne 7, 3) := by decide +kernel
theorem dX12_laysFits_102 : decode cX12_laysFits 102 = .ok (.iconst 1, 1) := by decide +kernel
theorem dX12_laysFits_103 : decode cX12_laysFits 103 = .ok (.goto 4, 3) := by decide +kernel
theorem dX12_laysFits_106 : decode cX12_laysFits 106 = .ok (.iconst 0, 1) := by decide +kernel
theorem dX12_laysFits_107 : decode cX12_laysFits 107 = .ok (.iand, 1) := by decide +kernel
theorem dX12_laysFits_108 : decode cX12_laysFits 108 = .ok (.istore_n 3, 1) := by decide +kernel
theorem dX12_laysFits_109 : decode cX12_laysFits 109 = .ok (.iinc 4 1, 3) := by decide +kernel
theorem dX12_laysFits_112 : decode cX12_laysFits 112 = .ok (.goto (-48), 3) := by decide +kernel
theorem dX12_laysFits_115 : decode cX12_laysFits 115 = .ok (.iload_n 3, 1) := by decide +kernel
theorem dX12_laysFits_116 : decode cX12_laysFits 116 = .ok (.ifCond .ne 6, 3) := by decide +kernel
theorem dX12_laysFits_119 : decode cX12_laysFits 119 = .ok (.goto 65, 3) := by decide +kernel
theorem dX12_laysFits_122 : decode cX12_laysFits 122 = .ok (.aload_n 0, 1) := by decide +kernel
theorem dX12_laysFits_123 : decode cX12_laysFits 123 = .ok (.getfield 335, 3) := by decide +kernel
theorem dX12_laysFits_126 : decode cX12_laysFits 126 = .ok (.ifCond .ne 8, 3) := by decide +kernel
theorem dX12_laysFits_129 : decode cX12_laysFits 129 = .ok (.aload_n 0, 1) := by decide +kernel
theorem dX12_laysFits_130 : decode cX12_laysFits 130 = .ok (.iload_n 2, 1) := by decide +kernel
theorem dX12_laysFits_131 : decode cX12_laysFits 131 = .ok (.putfield 338, 3) := by decide +kernel
theorem dX12_laysFits_134 : decode cX12_laysFits 134 = .ok (.aload_n 0, 1) := by decide +kernel
theorem dX12_laysFits_135 : decode cX12_laysFits 135 = .ok (.dup, 1) := by decide +kernel
theorem dX12_laysFits_136 : decode cX12_laysFits 136 = .ok (.getfield 335, 3) := by decide +kernel
theorem dX12_laysFits_139 : decode cX12_laysFits 139 = .ok (.iconst 1, 1) := by decide +kernel
theorem dX12_laysFits_140 : decode cX12_laysFits 140 = .ok (.iadd, 1) := by decide +kernel
theorem dX12_laysFits_141 : decode cX12_laysFits 141 = .ok (.putfield 335, 3) := by decide +kernel
theorem dX12_laysFits_144 : decode cX12_laysFits 144 = .ok (.iconst 0, 1) := by decide +kernel
theorem dX12_laysFits_145 : decode cX12_laysFits 145 = .ok (.istore 4, 2) := by decide +kernel
theorem dX12_laysFits_147 : decode cX12_laysFits 147 = .ok (.iload 4, 2) := by decide +kernel
theorem dX12_laysFits_149 : decode cX12_laysFits 149 = .ok (.aload_n 0, 1) := by decide +kernel
theorem dX12_laysFits_150 : decode cX12_laysFits 150 = .ok (.invokevirtual 241, 3) := by decide +kernel
theorem dX12_laysFits_153 : decode cX12_laysFits 153 = .ok (.if_icmp .ge 31, 3) := by decide +kernel
theorem dX12_laysFits_156 : decode cX12_laysFits 156 = .ok (.aload_n 0, 1) := by decide +kernel
theorem dX12_laysFits_157 : decode cX12_laysFits 157 = .ok (.getfield 80, 3) := by decide +kernel
theorem dX12_laysFits_160 : decode cX12_laysFits 160 = .ok (.bipush 7, 2) := by decide +kernel
theorem dX12_laysFits_162 : decode cX12_laysFits 162 = .ok (.iload 4, 2) := by decide +kernel
theorem dX12_laysFits_164 : decode cX12_laysFits 164 = .ok (.imul, 1) := by decide +kernel
theorem dX12_laysFits_165 : decode cX12_laysFits 165 = .ok (.aload_n 0, 1) := by decide +kernel
theorem dX12_laysFits_166 : decode cX12_laysFits 166 = .ok (.getfield 71, 3) := by decide +kernel
theorem dX12_laysFits_169 : decode cX12_laysFits 169 = .ok (.iload 4, 2) := by decide +kernel
theorem dX12_laysFits_171 : decode cX12_laysFits 171 = .ok (.iaload, 1) := by decide +kernel
theorem dX12_laysFits_172 : decode cX12_laysFits 172 = .ok (.iadd, 1) := by decide +kernel
theorem dX12_laysFits_173 : decode cX12_laysFits 173 = .ok (.dup2, 1) := by decide +kernel
theorem dX12_laysFits_174 : decode cX12_laysFits 174 = .ok (.iaload, 1) := by decide +kernel
theorem dX12_laysFits_175 : decode cX12_laysFits 175 = .ok (.iconst 1, 1) := by decide +kernel
theorem dX12_laysFits_176 : decode cX12_laysFits 176 = .ok (.iadd, 1) := by decide +kernel
theorem dX12_laysFits_177 : decode cX12_laysFits 177 = .ok (.iastore, 1) := by decide +kernel
theorem dX12_laysFits_178 : decode cX12_laysFits 178 = .ok (.iinc 4 1, 3) := by decide +kernel
theorem dX12_laysFits_181 : decode cX12_laysFits 181 = .ok (.goto (-34), 3) := by decide +kernel
theorem dX12_laysFits_184 : decode cX12_laysFits 184 = .ok (.iinc 2 1, 3) := by decide +kernel
theorem dX12_laysFits_187 : decode cX12_laysFits 187 = .ok (.goto (-145), 3) := by decide +kernel
theorem dX12_laysFits_190 : decode cX12_laysFits 190 = .ok (.return_, 1) := by decide +kernel
theorem dX12_fits_0 : decode cX12_fits 0 = .ok (.aload_n 0, 1) := by decide +kernel
theorem dX12_fits_1 : decode cX12_fits 1 = .ok (.iconst 0, 1) := by decide +kernel
theorem dX12_fits_2 : decode cX12_fits 2 = .ok (.putfield 89, 3) := by decide +kernel
theorem dX12_fits_5 : decode cX12_fits 5 = .ok (.aload_n 0, 1) := by decide +kernel
theorem dX12_fits_6 : decode cX12_fits 6 = .ok (.iload_n 1, 1) := by decide +kernel
theorem dX12_fits_7 : decode cX12_fits 7 = .ok (.invokevirtual 344, 3) := by decide +kernel
theorem dX12_fits_10 : decode cX12_fits 10 = .ok (.istore_n 2, 1) := by decide +kernel
theorem dX12_fits_11 : decode cX12_fits 11 = .ok (.iload_n 2, 1) := by decide +kernel
theorem dX12_fits_12 : decode cX12_fits 12 = .ok (.ifCond .eq 5, 3) := by decide +kernel
theorem dX12_fits_15 : decode cX12_fits 15 = .ok (.iload_n 2, 1) := by decide +kernel
theorem dX12_fits_16 : decode cX12_fits 16 = .ok (.ireturn, 1) := by decide +kernel
theorem dX12_fits_17 : decode cX12_fits 17 = .ok (.aload_n 0, 1) := by decide +kernel
theorem dX12_fits_18 : decode cX12_fits 18 = .ok (.iload_n 1, 1) := by decide +kernel
theorem dX12_fits_19 : decode cX12_fits 19 = .ok (.invokevirtual 347, 3) := by decide +kernel
theorem dX12_fits_22 : decode cX12_fits 22 = .ok (.aload_n 0, 1) := by decide +kernel
theorem dX12_fits_23 : decode cX12_fits 23 = .ok (.getfield 335, 3) := by decide +kernel
theorem dX12_fits_26 : decode cX12_fits 26 = .ok (.ireturn, 1) := by decide +kernel
theorem dX12_fit_0 : decode cX12_fit 0 = .ok (.aload_n 0, 1) := by decide +kernel
theorem dX12_fit_1 : decode cX12_fit 1 = .ok (.iconst 0, 1) := by decide +kernel
theorem dX12_fit_2 : decode cX12_fit 2 = .ok (.putfield 89, 3) := by decide +kernel
theorem dX12_fit_5 : decode cX12_fit 5 = .ok (.aload_n 0, 1) := by decide +kernel
theorem dX12_fit_6 : decode cX12_fit 6 = .ok (.iload_n 2, 1) := by decide +kernel
theorem dX12_fit_7 : decode cX12_fit 7 = .ok (.i2l, 1) := by decide +kernel
theorem dX12_fit_8 : decode cX12_fit 8 = .ok (.invokevirtual 263, 3) := by decide +kernel
theorem dX12_fit_11 : decode cX12_fit 11 = .ok (.ifCond .eq 11, 3) := by decide +kernel
theorem dX12_fit_14 : decode cX12_fit 14 = .ok (.aload_n 0, 1) := by decide +kernel
theorem dX12_fit_15 : decode cX12_fit 15 = .ok (.iload_n 1, 1) := by decide +kernel
theorem dX12_fit_16 : decode cX12_fit 16 = .ok (.invokevirtual 344, 3) := by decide +kernel
theorem dX12_fit_19 : decode cX12_fit 19 = .ok (.goto 5, 3) := by decide +kernel
theorem dX12_fit_22 : decode cX12_fit 22 = .ok (.bipush (-2), 2) := by decide +kernel
theorem dX12_fit_24 : decode cX12_fit 24 = .ok (.istore_n 3, 1) := by decide +kernel
theorem dX12_fit_25 : decode cX12_fit 25 = .ok (.iload_n 3, 1) := by decide +kernel
theorem dX12_fit_26 : decode cX12_fit 26 = .ok (.ifCond .eq 5, 3) := by decide +kernel
theorem dX12_fit_29 : decode cX12_fit 29 = .ok (.iload_n 3, 1) := by decide +kernel
theorem dX12_fit_30 : decode cX12_fit 30 = .ok (.ireturn, 1) := by decide +kernel
theorem dX12_fit_31 : decode cX12_fit 31 = .ok (.aload_n 0, 1) := by decide +kernel
theorem dX12_fit_32 : decode cX12_fit 32 = .ok (.iload_n 1, 1) := by decide +kernel
theorem dX12_fit_33 : decode cX12_fit 33 = .ok (.invokevirtual 347, 3) := by decide +kernel
theorem dX12_fit_36 : decode cX12_fit 36 = .ok (.aload_n 0, 1) := by decide +kernel
theorem dX12_fit_37 : decode cX12_fit 37 = .ok (.getfield 335, 3) := by decide +kernel
theorem dX12_fit_40 : decode cX12_fit 40 = .ok (.ifCond .ne 5, 3) := by decide +kernel
theorem dX12_fit_43 : decode cX12_fit 43 = .ok (.iconst (-1), 1) := by decide +kernel
theorem dX12_fit_44 : decode cX12_fit 44 = .ok (.ireturn, 1) := by decide +kernel
theorem dX12_fit_45 : decode cX12_fit 45 = .ok (.aload_n 0, 1) := by decide +kernel
theorem dX12_fit_46 : decode cX12_fit 46 = .ok (.aload_n 0, 1) := by decide +kernel
theorem dX12_fit_47 : decode cX12_fit 47 = .ok (.getfield 338, 3) := by decide +kernel
theorem dX12_fit_50 : decode cX12_fit 50 = .ok (.aload_n 0, 1) := by decide +kernel
theorem dX12_fit_51 : decode cX12_fit 51 = .ok (.getfield 71, 3) := by decide +kernel
theorem dX12_fit_54 : decode cX12_fit 54 = .ok (.invokevirtual 313, 3) := by decide +kernel
theorem dX12_fit_57 : decode cX12_fit 57 = .ok (.aload_n 0, 1) := by decide +kernel
theorem dX12_fit_58 : decode cX12_fit 58 = .ok (.getfield 71, 3) := by decide +kernel
theorem dX12_fit_61 : decode cX12_fit 61 = .ok (.iload_n 2, 1) := by decide +kernel
theorem dX12_fit_62 : decode cX12_fit 62 = .ok (.iaload, 1) := by decide +kernel
theorem dX12_fit_63 : decode cX12_fit 63 = .ok (.ireturn, 1) := by decide +kernel
theorem dX12_laysAsk_0 : decode cX12_laysAsk 0 = .ok (.aload_n 0, 1) := by decide +kernel
theorem dX12_laysAsk_1 : decode cX12_laysAsk 1 = .ok (.iload_n 1, 1) := by decide +kernel
theorem dX12_laysAsk_2 : decode cX12_laysAsk 2 = .ok (.invokevirtual 347, 3) := by decide +kernel
theorem dX12_laysAsk_5 : decode cX12_laysAsk 5 = .ok (.aload_n 0, 1) := by decide +kernel
theorem dX12_laysAsk_6 : decode cX12_laysAsk 6 = .ok (.iconst (-1), 1) := by decide +kernel
theorem dX12_laysAsk_7 : decode cX12_laysAsk 7 = .ok (.putfield 350, 3) := by decide +kernel
theorem dX12_laysAsk_10 : decode cX12_laysAsk 10 = .ok (.aload_n 0, 1) := by decide +kernel
theorem dX12_laysAsk_11 : decode cX12_laysAsk 11 = .ok (.aload_n 0, 1) := by decide +kernel
theorem dX12_laysAsk_12 : decode cX12_laysAsk 12 = .ok (.getfield 335, 3) := by decide +kernel
theorem dX12_laysAsk_15 : decode cX12_laysAsk 15 = .ok (.putfield 353, 3) := by decide +kernel
theorem dX12_laysAsk_18 : decode cX12_laysAsk 18 = .ok (.iconst 0, 1) := by decide +kernel
theorem dX12_laysAsk_19 : decode cX12_laysAsk 19 = .ok (.istore_n 2, 1) := by decide +kernel
theorem dX12_laysAsk_20 : decode cX12_laysAsk 20 = .ok (.iload_n 2, 1) := by decide +kernel
theorem dX12_laysAsk_21 : decode cX12_laysAsk 21 = .ok (.aload_n 0, 1) := by decide +kernel
theorem dX12_laysAsk_22 : decode cX12_laysAsk 22 = .ok (.invokevirtual 241, 3) := by decide +kernel
theorem dX12_laysAsk_25 : decode cX12_laysAsk 25 = .ok (.if_icmp .ge 83, 3) := by decide +kernel
theorem dX12_laysAsk_28 : decode cX12_laysAsk 28 = .ok (.iconst 0, 1) := by decide +kernel
theorem dX12_laysAsk_29 : decode cX12_laysAsk 29 = .ok (.istore_n 3, 1) := by decide +kernel
theorem dX12_laysAsk_30 : decode cX12_laysAsk 30 = .ok (.iconst 0, 1) := by decide +kernel
theorem dX12_laysAsk_31 : decode cX12_laysAsk 31 = .ok (.istore 4, 2) := by decide +kernel
theorem dX12_laysAsk_33 : decode cX12_laysAsk 33 = .ok (.iload 4, 2) := by decide +kernel
theorem dX12_laysAsk_35 : decode cX12_laysAsk 35 = .ok (.aload_n 0, 1) := by decide +kernel
theorem dX12_laysAsk_36 : decode cX12_laysAsk 36 = .ok (.invokevirtual 241, 3) := by decide +kernel
theorem dX12_laysAsk_39 : decode cX12_laysAsk 39 = .ok (.if_icmp .ge 42, 3) := by decide +kernel
theorem dX12_laysAsk_42 : decode cX12_laysAsk 42 = .ok (.aload_n 0, 1) := by decide +kernel
theorem dX12_laysAsk_43 : decode cX12_laysAsk 43 = .ok (.getfield 80, 3) := by decide +kernel
theorem dX12_laysAsk_46 : decode cX12_laysAsk 46 = .ok (.bipush 7, 2) := by decide +kernel
theorem dX12_laysAsk_48 : decode cX12_laysAsk 48 = .ok (.iload_n 2, 1) := by decide +kernel
theorem dX12_laysAsk_49 : decode cX12_laysAsk 49 = .ok (.imul, 1) := by decide +kernel
theorem dX12_laysAsk_50 : decode cX12_laysAsk 50 = .ok (.iload 4, 2) := by decide +kernel
theorem dX12_laysAsk_52 : decode cX12_laysAsk 52 = .ok (.iadd, 1) := by decide +kernel
theorem dX12_laysAsk_53 : decode cX12_laysAsk 53 = .ok (.iaload, 1) := by decide +kernel
theorem dX12_laysAsk_54 : decode cX12_laysAsk 54 = .ok (.iload_n 3, 1) := by decide +kernel
theorem dX12_laysAsk_55 : decode cX12_laysAsk 55 = .ok (.if_icmp .le 18, 3) := by decide +kernel
theorem dX12_laysAsk_58 : decode cX12_laysAsk 58 = .ok (.aload_n 0, 1) := by decide +kernel
theorem dX12_laysAsk_59 : decode cX12_laysAsk 59 = .ok (.getfield 80, 3) := by decide +kernel
theorem dX12_laysAsk_62 : decode cX12_laysAsk 62 = .ok (.bipush 7, 2) := by decide +kernel
theorem dX12_laysAsk_64 : decode cX12_laysAsk 64 = .ok (.iload_n 2, 1) := by decide +kernel
theorem dX12_laysAsk_65 : decode cX12_laysAsk 65 = .ok (.imul, 1) := by decide +kernel
theorem dX12_laysAsk_66 : decode cX12_laysAsk 66 = .ok (.iload 4, 2) := by decide +kernel
theorem dX12_laysAsk_68 : decode cX12_laysAsk 68 = .ok (.iadd, 1) := by decide +kernel
theorem dX12_laysAsk_69 : decode cX12_laysAsk 69 = .ok (.iaload, 1) := by decide +kernel
theorem dX12_laysAsk_70 : decode cX12_laysAsk 70 = .ok (.goto 4, 3) := by decide +kernel
theorem dX12_laysAsk_73 : decode cX12_laysAsk 73 = .ok (.iload_n 3, 1) := by decide +kernel
theorem dX12_laysAsk_74 : decode cX12_laysAsk 74 = .ok (.istore_n 3, 1) := by decide +kernel
theorem dX12_laysAsk_75 : decode cX12_laysAsk 75 = .ok (.iinc 4 1, 3) := by decide +kernel
theorem dX12_laysAsk_78 : decode cX12_laysAsk 78 = .ok (.goto (-45), 3) := by decide +kernel
theorem dX12_laysAsk_81 : decode cX12_laysAsk 81 = .ok (.iload_n 3, 1) := by decide +kernel
theorem dX12_laysAsk_82 : decode cX12_laysAsk 82 = .ok (.aload_n 0, 1) := by decide +kernel
theorem dX12_laysAsk_83 : decode cX12_laysAsk 83 = .ok (.getfield 353, 3) := by decide +kernel
theorem dX12_laysAsk_86 : decode cX12_laysAsk 86 = .ok (.if_icmp .lt 6, 3) := by decide +kernel
theorem dX12_laysAsk_89 : decode cX12_laysAsk 89 = .ok (.goto 13, 3) := by decide +kernel
theorem dX12_laysAsk_92 : decode cX12_laysAsk 92 = .ok (.aload_n 0, 1) := by decide +kernel
theorem dX12_laysAsk_93 : decode cX12_laysAsk 93 = .ok (.iload_n 2, 1) := by decide +kernel
theorem dX12_laysAsk_94 : decode cX12_laysAsk 94 = .ok (.putfield 350, 3) := by decide +kernel
theorem dX12_laysAsk_97 : decode cX12_laysAsk 97 = .ok (.aload_n 0, 1) := by decide +kernel
theorem dX12_laysAsk_98 : decode cX12_laysAsk 98 = .ok (.iload_n 3, 1) := by decide +kernel
theorem dX12_laysAsk_99 : decode cX12_laysAsk 99 = .ok (.putfield 353, 3) := by decide +kernel
theorem dX12_laysAsk_102 : decode cX12_laysAsk 102 = .ok (.iinc 2 1, 3) := by decide +kernel
theorem dX12_laysAsk_105 : decode cX12_laysAsk 105 = .ok (.goto (-85), 3) := by decide +kernel
theorem dX12_laysAsk_108 : decode cX12_laysAsk 108 = .ok (.return_, 1) := by decide +kernel
theorem dX12_ask_0 : decode cX12_ask 0 = .ok (.aload_n 0, 1) := by decide +kernel
theorem dX12_ask_1 : decode cX12_ask 1 = .ok (.iconst 0, 1) := by decide +kernel
theorem dX12_ask_2 : decode cX12_ask 2 = .ok (.putfield 89, 3) := by decide +kernel
theorem dX12_ask_5 : decode cX12_ask 5 = .ok (.aload_n 0, 1) := by decide +kernel
theorem dX12_ask_6 : decode cX12_ask 6 = .ok (.iload_n 1, 1) := by decide +kernel
theorem dX12_ask_7 : decode cX12_ask 7 = .ok (.invokevirtual 344, 3) := by decide +kernel
theorem dX12_ask_10 : decode cX12_ask 10 = .ok (.istore_n 2, 1) := by decide +kernel
theorem dX12_ask_11 : decode cX12_ask 11 = .ok (.iload_n 2, 1) := by decide +kernel
theorem dX12_ask_12 : decode cX12_ask 12 = .ok (.ifCond .eq 5, 3) := by decide +kernel
theorem dX12_ask_15 : decode cX12_ask 15 = .ok (.iload_n 2, 1) := by decide +kernel
theorem dX12_ask_16 : decode cX12_ask 16 = .ok (.ireturn, 1) := by decide +kernel
theorem dX12_ask_17 : decode cX12_ask 17 = .ok (.aload_n 0, 1) := by decide +kernel
theorem dX12_ask_18 : decode cX12_ask 18 = .ok (.iload_n 1, 1) := by decide +kernel
theorem dX12_ask_19 : decode cX12_ask 19 = .ok (.invokevirtual 356, 3) := by decide +kernel
theorem dX12_ask_22 : decode cX12_ask 22 = .ok (.aload_n 0, 1) := by decide +kernel
theorem dX12_ask_23 : decode cX12_ask 23 = .ok (.getfield 350, 3) := by decide +kernel
theorem dX12_ask_26 : decode cX12_ask 26 = .ok (.ireturn, 1) := by decide +kernel
theorem dX12_leaves_0 : decode cX12_leaves 0 = .ok (.aload_n 0, 1) := by decide +kernel
theorem dX12_leaves_1 : decode cX12_leaves 1 = .ok (.iconst 0, 1) := by decide +kernel
theorem dX12_leaves_2 : decode cX12_leaves 2 = .ok (.putfield 89, 3) := by decide +kernel
theorem dX12_leaves_5 : decode cX12_leaves 5 = .ok (.aload_n 0, 1) := by decide +kernel
theorem dX12_leaves_6 : decode cX12_leaves 6 = .ok (.iload_n 1, 1) := by decide +kernel
theorem dX12_leaves_7 : decode cX12_leaves 7 = .ok (.invokevirtual 344, 3) := by decide +kernel
theorem dX12_leaves_10 : decode cX12_leaves 10 = .ok (.istore_n 2, 1) := by decide +kernel
theorem dX12_leaves_11 : decode cX12_leaves 11 = .ok (.iload_n 2, 1) := by decide +kernel
theorem dX12_leaves_12 : decode cX12_leaves 12 = .ok (.ifCond .eq 5, 3) := by decide +kernel
theorem dX12_leaves_15 : decode cX12_leaves 15 = .ok (.iload_n 2, 1) := by decide +kernel
theorem dX12_leaves_16 : decode cX12_leaves 16 = .ok (.ireturn, 1) := by decide +kernel
theorem dX12_leaves_17 : decode cX12_leaves 17 = .ok (.aload_n 0, 1) := by decide +kernel
theorem dX12_leaves_18 : decode cX12_leaves 18 = .ok (.iload_n 1, 1) := by decide +kernel
theorem dX12_leaves_19 : decode cX12_leaves 19 = .ok (.invokevirtual 356, 3) := by decide +kernel
theorem dX12_leaves_22 : decode cX12_leaves 22 = .ok (.aload_n 0, 1) := by decide +kernel
theorem dX12_leaves_23 : decode cX12_leaves 23 = .ok (.getfield 353, 3) := by decide +kernel
theorem dX12_leaves_26 : decode cX12_leaves 26 = .ok (.ireturn, 1) := by decide +kernel
theorem dX12_swapsTo_0 : decode cX12_swapsTo 0 = .ok (.iconst 0, 1) := by decide +kernel
theorem dX12_swapsTo_1 : decode cX12_swapsTo 1 = .ok (.istore_n 2, 1) := by decide +kernel
theorem dX12_swapsTo_2 : decode cX12_swapsTo 2 = .ok (.iload_n 2, 1) := by decide +kernel
theorem dX12_swapsTo_3 : decode cX12_swapsTo 3 = .ok (.aload_n 0, 1) := by decide +kernel
theorem dX12_swapsTo_4 : decode cX12_swapsTo 4 = .ok (.invokevirtual 241, 3) := by decide +kernel
theorem dX12_swapsTo_7 : decode cX12_swapsTo 7 = .ok (.if_icmp .ge 36, 3) := by decide +kernel
theorem dX12_swapsTo_10 : decode cX12_swapsTo 10 = .ok (.iconst 0, 1) := by decide +kernel
theorem dX12_swapsTo_11 : decode cX12_swapsTo 11 = .ok (.istore_n 3, 1) := by decide +kernel
theorem dX12_swapsTo_12 : decode cX12_swapsTo 12 = .ok (.aload_n 1, 1) := by decide +kernel
theorem dX12_swapsTo_13 : decode cX12_swapsTo 13 = .ok (.iload_n 3, 1) := by decide +kernel
theorem dX12_swapsTo_14 : decode cX12_swapsTo 14 = .ok (.iaload, 1) := by decide +kernel
theorem dX12_swapsTo_15 : decode cX12_swapsTo 15 = .ok (.aload_n 0, 1) := by decide +kernel
theorem dX12_swapsTo_16 : decode cX12_swapsTo 16 = .ok (.getfield 59, 3) := by decide +kernel
theorem dX12_swapsTo_19 : decode cX12_swapsTo 19 = .ok (.iload_n 2, 1) := by decide +kernel
theorem dX12_swapsTo_20 : decode cX12_swapsTo 20 = .ok (.iaload, 1) := by decide +kernel
theorem dX12_swapsTo_21 : decode cX12_swapsTo 21 = .ok (.if_icmp .eq 9, 3) := by decide +kernel
theorem dX12_swapsTo_24 : decode cX12_swapsTo 24 = .ok (.iinc 3 1, 3) := by decide +kernel
theorem dX12_swapsTo_27 : decode cX12_swapsTo 27 = .ok (.goto (-15), 3) := by decide +kernel
theorem dX12_swapsTo_30 : decode cX12_swapsTo 30 = .ok (.aload_n 0, 1) := by decide +kernel
theorem dX12_swapsTo_31 : decode cX12_swapsTo 31 = .ok (.getfield 62, 3) := by decide +kernel
theorem dX12_swapsTo_34 : decode cX12_swapsTo 34 = .ok (.iload_n 2, 1) := by decide +kernel
theorem dX12_swapsTo_35 : decode cX12_swapsTo 35 = .ok (.iload_n 3, 1) := by decide +kernel
theorem dX12_swapsTo_36 : decode cX12_swapsTo 36 = .ok (.iastore, 1) := by decide +kernel
theorem dX12_swapsTo_37 : decode cX12_swapsTo 37 = .ok (.iinc 2 1, 3) := by decide +kernel
theorem dX12_swapsTo_40 : decode cX12_swapsTo 40 = .ok (.goto (-38), 3) := by decide +kernel
theorem dX12_swapsTo_43 : decode cX12_swapsTo 43 = .ok (.aload_n 0, 1) := by decide +kernel
theorem dX12_swapsTo_44 : decode cX12_swapsTo 44 = .ok (.invokevirtual 241, 3) := by decide +kernel
theorem dX12_swapsTo_47 : decode cX12_swapsTo 47 = .ok (.aload_n 0, 1) := by decide +kernel
theorem dX12_swapsTo_48 : decode cX12_swapsTo 48 = .ok (.iconst 1, 1) := by decide +kernel
theorem dX12_swapsTo_49 : decode cX12_swapsTo 49 = .ok (.invokevirtual 293, 3) := by decide +kernel
theorem dX12_swapsTo_52 : decode cX12_swapsTo 52 = .ok (.isub, 1) := by decide +kernel
theorem dX12_swapsTo_53 : decode cX12_swapsTo 53 = .ok (.ireturn, 1) := by decide +kernel
theorem dX12_changed_0 : decode cX12_changed 0 = .ok (.aload_n 0, 1) := by decide +kernel
theorem dX12_changed_1 : decode cX12_changed 1 = .ok (.iconst 0, 1) := by decide +kernel
theorem dX12_changed_2 : decode cX12_changed 2 = .ok (.putfield 89, 3) := by decide +kernel
theorem dX12_changed_5 : decode cX12_changed 5 = .ok (.aload_n 0, 1) := by decide +kernel
theorem dX12_changed_6 : decode cX12_changed 6 = .ok (.iload_n 1, 1) := by decide +kernel
theorem dX12_changed_7 : decode cX12_changed 7 = .ok (.invokevirtual 327, 3) := by decide +kernel
theorem dX12_changed_10 : decode cX12_changed 10 = .ok (.istore_n 2, 1) := by decide +kernel
theorem dX12_changed_11 : decode cX12_changed 11 = .ok (.iload_n 2, 1) := by decide +kernel
theorem dX12_changed_12 : decode cX12_changed 12 = .ok (.ifCond .eq 5, 3) := by decide +kernel
theorem dX12_changed_15 : decode cX12_changed 15 = .ok (.iload_n 2, 1) := by decide +kernel
theorem dX12_changed_16 : decode cX12_changed 16 = .ok (.ireturn, 1) := by decide +kernel
theorem dX12_changed_17 : decode cX12_changed 17 = .ok (.aload_n 0, 1) := by decide +kernel
theorem dX12_changed_18 : decode cX12_changed 18 = .ok (.invokevirtual 266, 3) := by decide +kernel

theorem dX12_changed_21 : decode cX12_changed 21 = .ok (.aload_n 0, 1) := by decide +kernel
theorem dX12_changed_22 : decode cX12_changed 22 = .ok (.aload_n 0, 1) := by decide +kernel
theorem dX12_changed_23 : decode cX12_changed 23 = .ok (.getfield 74, 3) := by decide +kernel
theorem dX12_changed_26 : decode cX12_changed 26 = .ok (.invokevirtual 359, 3) := by decide +kernel
theorem dX12_changed_29 : decode cX12_changed 29 = .ok (.ireturn, 1) := by decide +kernel
theorem dX12_same_0 : decode cX12_same 0 = .ok (.aload_n 0, 1) := by decide +kernel
theorem dX12_same_1 : decode cX12_same 1 = .ok (.iconst 0, 1) := by decide +kernel
theorem dX12_same_2 : decode cX12_same 2 = .ok (.putfield 89, 3) := by decide +kernel
theorem dX12_same_5 : decode cX12_same 5 = .ok (.aload_n 0, 1) := by decide +kernel
theorem dX12_same_6 : decode cX12_same 6 = .ok (.iload_n 1, 1) := by decide +kernel
theorem dX12_same_7 : decode cX12_same 7 = .ok (.invokevirtual 327, 3) := by decide +kernel
theorem dX12_same_10 : decode cX12_same 10 = .ok (.istore_n 2, 1) := by decide +kernel
theorem dX12_same_11 : decode cX12_same 11 = .ok (.iload_n 2, 1) := by decide +kernel
theorem dX12_same_12 : decode cX12_same 12 = .ok (.ifCond .eq 5, 3) := by decide +kernel
theorem dX12_same_15 : decode cX12_same 15 = .ok (.iload_n 2, 1) := by decide +kernel
theorem dX12_same_16 : decode cX12_same 16 = .ok (.ireturn, 1) := by decide +kernel
theorem dX12_same_17 : decode cX12_same 17 = .ok (.aload_n 0, 1) := by decide +kernel
theorem dX12_same_18 : decode cX12_same 18 = .ok (.invokevirtual 266, 3) := by decide +kernel
theorem dX12_same_21 : decode cX12_same 21 = .ok (.iconst 0, 1) := by decide +kernel
theorem dX12_same_22 : decode cX12_same 22 = .ok (.istore_n 3, 1) := by decide +kernel
theorem dX12_same_23 : decode cX12_same 23 = .ok (.iconst 0, 1) := by decide +kernel
theorem dX12_same_24 : decode cX12_same 24 = .ok (.istore 4, 2) := by decide +kernel
theorem dX12_same_26 : decode cX12_same 26 = .ok (.iload 4, 2) := by decide +kernel
theorem dX12_same_28 : decode cX12_same 28 = .ok (.aload_n 0, 1) := by decide +kernel
theorem dX12_same_29 : decode cX12_same 29 = .ok (.invokevirtual 241, 3) := by decide +kernel
theorem dX12_same_32 : decode cX12_same 32 = .ok (.if_icmp .ge 37, 3) := by decide +kernel
theorem dX12_same_35 : decode cX12_same 35 = .ok (.iload_n 3, 1) := by decide +kernel
theorem dX12_same_36 : decode cX12_same 36 = .ok (.aload_n 0, 1) := by decide +kernel
theorem dX12_same_37 : decode cX12_same 37 = .ok (.getfield 74, 3) := by decide +kernel
theorem dX12_same_40 : decode cX12_same 40 = .ok (.iload 4, 2) := by decide +kernel
theorem dX12_same_42 : decode cX12_same 42 = .ok (.iaload, 1) := by decide +kernel
theorem dX12_same_43 : decode cX12_same 43 = .ok (.aload_n 0, 1) := by decide +kernel
theorem dX12_same_44 : decode cX12_same 44 = .ok (.getfield 59, 3) := by decide +kernel
theorem dX12_same_47 : decode cX12_same 47 = .ok (.iload 4, 2) := by decide +kernel
theorem dX12_same_49 : decode cX12_same 49 = .ok (.iaload, 1) := by decide +kernel
theorem dX12_same_50 : decode cX12_same 50 = .ok (.if_icmp .ne 10, 3) := by decide +kernel
theorem dX12_same_53 : decode cX12_same 53 = .ok (.iconst 1, 1) := by decide +kernel
theorem dX12_same_54 : decode cX12_same 54 = .ok (.iload 4, 2) := by decide +kernel
theorem dX12_same_56 : decode cX12_same 56 = .ok (.ishl, 1) := by decide +kernel
theorem dX12_same_57 : decode cX12_same 57 = .ok (.goto 4, 3) := by decide +kernel
theorem dX12_same_60 : decode cX12_same 60 = .ok (.iconst 0, 1) := by decide +kernel
theorem dX12_same_61 : decode cX12_same 61 = .ok (.ior, 1) := by decide +kernel
theorem dX12_same_62 : decode cX12_same 62 = .ok (.istore_n 3, 1) := by decide +kernel
theorem dX12_same_63 : decode cX12_same 63 = .ok (.iinc 4 1, 3) := by decide +kernel
theorem dX12_same_66 : decode cX12_same 66 = .ok (.goto (-40), 3) := by decide +kernel
theorem dX12_same_69 : decode cX12_same 69 = .ok (.iload_n 3, 1) := by decide +kernel
theorem dX12_same_70 : decode cX12_same 70 = .ok (.ireturn, 1) := by decide +kernel
theorem dX12_skipped_0 : decode cX12_skipped 0 = .ok (.aload_n 0, 1) := by decide +kernel
theorem dX12_skipped_1 : decode cX12_skipped 1 = .ok (.iconst 0, 1) := by decide +kernel
theorem dX12_skipped_2 : decode cX12_skipped 2 = .ok (.putfield 89, 3) := by decide +kernel
theorem dX12_skipped_5 : decode cX12_skipped 5 = .ok (.aload_n 0, 1) := by decide +kernel
theorem dX12_skipped_6 : decode cX12_skipped 6 = .ok (.iload_n 1, 1) := by decide +kernel
theorem dX12_skipped_7 : decode cX12_skipped 7 = .ok (.invokevirtual 327, 3) := by decide +kernel
theorem dX12_skipped_10 : decode cX12_skipped 10 = .ok (.istore_n 2, 1) := by decide +kernel
theorem dX12_skipped_11 : decode cX12_skipped 11 = .ok (.iload_n 2, 1) := by decide +kernel
theorem dX12_skipped_12 : decode cX12_skipped 12 = .ok (.ifCond .eq 5, 3) := by decide +kernel
theorem dX12_skipped_15 : decode cX12_skipped 15 = .ok (.iload_n 2, 1) := by decide +kernel
theorem dX12_skipped_16 : decode cX12_skipped 16 = .ok (.ireturn, 1) := by decide +kernel
theorem dX12_skipped_17 : decode cX12_skipped 17 = .ok (.aload_n 0, 1) := by decide +kernel
theorem dX12_skipped_18 : decode cX12_skipped 18 = .ok (.invokevirtual 266, 3) := by decide +kernel
theorem dX12_skipped_21 : decode cX12_skipped 21 = .ok (.aload_n 0, 1) := by decide +kernel
theorem dX12_skipped_22 : decode cX12_skipped 22 = .ok (.aload_n 0, 1) := by decide +kernel
theorem dX12_skipped_23 : decode cX12_skipped 23 = .ok (.getfield 255, 3) := by decide +kernel
theorem dX12_skipped_26 : decode cX12_skipped 26 = .ok (.invokevirtual 287, 3) := by decide +kernel
theorem dX12_skipped_29 : decode cX12_skipped 29 = .ok (.istore_n 3, 1) := by decide +kernel
theorem dX12_skipped_30 : decode cX12_skipped 30 = .ok (.iconst (-1), 1) := by decide +kernel
theorem dX12_skipped_31 : decode cX12_skipped 31 = .ok (.istore 4, 2) := by decide +kernel
theorem dX12_skipped_33 : decode cX12_skipped 33 = .ok (.iconst 0, 1) := by decide +kernel
theorem dX12_skipped_34 : decode cX12_skipped 34 = .ok (.istore 5, 2) := by decide +kernel
theorem dX12_skipped_36 : decode cX12_skipped 36 = .ok (.iload 5, 2) := by decide +kernel
theorem dX12_skipped_38 : decode cX12_skipped 38 = .ok (.iload_n 3, 1) := by decide +kernel
theorem dX12_skipped_39 : decode cX12_skipped 39 = .ok (.if_icmp .gt 143, 3) := by decide +kernel
theorem dX12_skipped_42 : decode cX12_skipped 42 = .ok (.iload 5, 2) := by decide +kernel
theorem dX12_skipped_44 : decode cX12_skipped 44 = .ok (.iload_n 3, 1) := by decide +kernel
theorem dX12_skipped_45 : decode cX12_skipped 45 = .ok (.iconst (-1), 1) := by decide +kernel
theorem dX12_skipped_46 : decode cX12_skipped 46 = .ok (.ixor, 1) := by decide +kernel
theorem dX12_skipped_47 : decode cX12_skipped 47 = .ok (.iand, 1) := by decide +kernel
theorem dX12_skipped_48 : decode cX12_skipped 48 = .ok (.ifCond .ne 128, 3) := by decide +kernel
theorem dX12_skipped_51 : decode cX12_skipped 51 = .ok (.iload 4, 2) := by decide +kernel
theorem dX12_skipped_53 : decode cX12_skipped 53 = .ok (.iconst (-1), 1) := by decide +kernel
theorem dX12_skipped_54 : decode cX12_skipped 54 = .ok (.if_icmp .eq 16, 3) := by decide +kernel
theorem dX12_skipped_57 : decode cX12_skipped 57 = .ok (.iload 5, 2) := by decide +kernel
theorem dX12_skipped_59 : decode cX12_skipped 59 = .ok (.invokestatic 284, 3) := by decide +kernel
theorem dX12_skipped_62 : decode cX12_skipped 62 = .ok (.iload 4, 2) := by decide +kernel
theorem dX12_skipped_64 : decode cX12_skipped 64 = .ok (.if_icmp .lt 6, 3) := by decide +kernel
theorem dX12_skipped_67 : decode cX12_skipped 67 = .ok (.goto 109, 3) := by decide +kernel
theorem dX12_skipped_70 : decode cX12_skipped 70 = .ok (.iconst 0, 1) := by decide +kernel
theorem dX12_skipped_71 : decode cX12_skipped 71 = .ok (.istore 6, 2) := by decide +kernel
theorem dX12_skipped_73 : decode cX12_skipped 73 = .ok (.iload 6, 2) := by decide +kernel
theorem dX12_skipped_75 : decode cX12_skipped 75 = .ok (.aload_n 0, 1) := by decide +kernel
theorem dX12_skipped_76 : decode cX12_skipped 76 = .ok (.invokevirtual 241, 3) := by decide +kernel
theorem dX12_skipped_79 : decode cX12_skipped 79 = .ok (.if_icmp .ge 23, 3) := by decide +kernel
theorem dX12_skipped_82 : decode cX12_skipped 82 = .ok (.aload_n 0, 1) := by decide +kernel
theorem dX12_skipped_83 : decode cX12_skipped 83 = .ok (.getfield 71, 3) := by decide +kernel
theorem dX12_skipped_86 : decode cX12_skipped 86 = .ok (.iload 6, 2) := by decide +kernel
theorem dX12_skipped_88 : decode cX12_skipped 88 = .ok (.aload_n 0, 1) := by decide +kernel
theorem dX12_skipped_89 : decode cX12_skipped 89 = .ok (.getfield 59, 3) := by decide +kernel
theorem dX12_skipped_92 : decode cX12_skipped 92 = .ok (.iload 6, 2) := by decide +kernel
theorem dX12_skipped_94 : decode cX12_skipped 94 = .ok (.iaload, 1) := by decide +kernel
theorem dX12_skipped_95 : decode cX12_skipped 95 = .ok (.iastore, 1) := by decide +kernel
theorem dX12_skipped_96 : decode cX12_skipped 96 = .ok (.iinc 6 1, 3) := by decide +kernel
theorem dX12_skipped_99 : decode cX12_skipped 99 = .ok (.goto (-26), 3) := by decide +kernel
theorem dX12_skipped_102 : decode cX12_skipped 102 = .ok (.aload_n 0, 1) := by decide +kernel
theorem dX12_skipped_103 : decode cX12_skipped 103 = .ok (.aload_n 0, 1) := by decide +kernel
theorem dX12_skipped_104 : decode cX12_skipped 104 = .ok (.getfield 71, 3) := by decide +kernel
theorem dX12_skipped_107 : decode cX12_skipped 107 = .ok (.aload_n 0, 1) := by decide +kernel
theorem dX12_skipped_108 : decode cX12_skipped 108 = .ok (.getfield 255, 3) := by decide +kernel
theorem dX12_skipped_111 : decode cX12_skipped 111 = .ok (.iload 5, 2) := by decide +kernel
theorem dX12_skipped_113 : decode cX12_skipped 113 = .ok (.invokevirtual 258, 3) := by decide +kernel
theorem dX12_skipped_116 : decode cX12_skipped 116 = .ok (.iconst 1, 1) := by decide +kernel
theorem dX12_skipped_117 : decode cX12_skipped 117 = .ok (.istore 6, 2) := by decide +kernel
theorem dX12_skipped_119 : decode cX12_skipped 119 = .ok (.iconst 0, 1) := by decide +kernel
theorem dX12_skipped_120 : decode cX12_skipped 120 = .ok (.istore 7, 2) := by decide +kernel
theorem dX12_skipped_122 : decode cX12_skipped 122 = .ok (.iload 7, 2) := by decide +kernel
theorem dX12_skipped_124 : decode cX12_skipped 124 = .ok (.aload_n 0, 1) := by decide +kernel
theorem dX12_skipped_125 : decode cX12_skipped 125 = .ok (.invokevirtual 241, 3) := by decide +kernel
theorem dX12_skipped_128 : decode cX12_skipped 128 = .ok (.if_icmp .ge 36, 3) := by decide +kernel
theorem dX12_skipped_131 : decode cX12_skipped 131 = .ok (.iload 6, 2) := by decide +kernel
theorem dX12_skipped_133 : decode cX12_skipped 133 = .ok (.aload_n 0, 1) := by decide +kernel
theorem dX12_skipped_134 : decode cX12_skipped 134 = .ok (.getfield 71, 3) := by decide +kernel
theorem dX12_skipped_137 : decode cX12_skipped 137 = .ok (.iload 7, 2) := by decide +kernel
theorem dX12_skipped_139 : decode cX12_skipped 139 = .ok (.iaload, 1) := by decide +kernel
theorem dX12_skipped_140 : decode cX12_skipped 140 = .ok (.aload_n 0, 1) := by decide +kernel
theorem dX12_skipped_141 : decode cX12_skipped 141 = .ok (.getfield 74, 3) := by decide +kernel
theorem dX12_skipped_144 : decode cX12_skipped 144 = .ok (.iload 7, 2) := by decide +kernel
theorem dX12_skipped_146 : decode cX12_skipped 146 = .ok (.iaload, 1) := by decide +kernel
theorem dX12_skipped_147 : decode cX12_skipped 147 = .ok (.if_icmp .ne 7, 3) := by decide +kernel
theorem dX12_skipped_150 : decode cX12_skipped 150 = .ok (.iconst 1, 1) := by decide +kernel
theorem dX12_skipped_151 : decode cX12_skipped 151 = .ok (.goto 4, 3) := by decide +kernel
theorem dX12_skipped_154 : decode cX12_skipped 154 = .ok (.iconst 0, 1) := by decide +kernel
theorem dX12_skipped_155 : decode cX12_skipped 155 = .ok (.iand, 1) := by decide +kernel
theorem dX12_skipped_156 : decode cX12_skipped 156 = .ok (.istore 6, 2) := by decide +kernel
theorem dX12_skipped_158 : decode cX12_skipped 158 = .ok (.iinc 7 1, 3) := by decide +kernel
theorem dX12_skipped_161 : decode cX12_skipped 161 = .ok (.goto (-39), 3) := by decide +kernel
theorem dX12_skipped_164 : decode cX12_skipped 164 = .ok (.iload 6, 2) := by decide +kernel
theorem dX12_skipped_166 : decode cX12_skipped 166 = .ok (.ifCond .eq 10, 3) := by decide +kernel
theorem dX12_skipped_169 : decode cX12_skipped 169 = .ok (.iload 5, 2) := by decide +kernel
theorem dX12_skipped_171 : decode cX12_skipped 171 = .ok (.invokestatic 284, 3) := by decide +kernel
theorem dX12_skipped_174 : decode cX12_skipped 174 = .ok (.istore 4, 2) := by decide +kernel
theorem dX12_skipped_176 : decode cX12_skipped 176 = .ok (.iinc 5 1, 3) := by decide +kernel
theorem dX12_skipped_179 : decode cX12_skipped 179 = .ok (.goto (-143), 3) := by decide +kernel
theorem dX12_skipped_182 : decode cX12_skipped 182 = .ok (.iload 4, 2) := by decide +kernel
theorem dX12_skipped_184 : decode cX12_skipped 184 = .ok (.ireturn, 1) := by decide +kernel
theorem dX12_isApart_0 : decode cX12_isApart 0 = .ok (.iconst 0, 1) := by decide +kernel
theorem dX12_isApart_1 : decode cX12_isApart 1 = .ok (.istore_n 2, 1) := by decide +kernel
theorem dX12_isApart_2 : decode cX12_isApart 2 = .ok (.iload_n 2, 1) := by decide +kernel
theorem dX12_isApart_3 : decode cX12_isApart 3 = .ok (.iconst 1, 1) := by decide +kernel
theorem dX12_isApart_4 : decode cX12_isApart 4 = .ok (.iadd, 1) := by decide +kernel
theorem dX12_isApart_5 : decode cX12_isApart 5 = .ok (.aload_n 0, 1) := by decide +kernel
theorem dX12_isApart_6 : decode cX12_isApart 6 = .ok (.invokevirtual 241, 3) := by decide +kernel
theorem dX12_isApart_9 : decode cX12_isApart 9 = .ok (.if_icmp .ge 30, 3) := by decide +kernel
theorem dX12_isApart_12 : decode cX12_isApart 12 = .ok (.aload_n 0, 1) := by decide +kernel
theorem dX12_isApart_13 : decode cX12_isApart 13 = .ok (.getfield 46, 3) := by decide +kernel
theorem dX12_isApart_16 : decode cX12_isApart 16 = .ok (.aload_n 1, 1) := by decide +kernel
theorem dX12_isApart_17 : decode cX12_isApart 17 = .ok (.iload_n 2, 1) := by decide +kernel
theorem dX12_isApart_18 : decode cX12_isApart 18 = .ok (.iaload, 1) := by decide +kernel
theorem dX12_isApart_19 : decode cX12_isApart 19 = .ok (.iaload, 1) := by decide +kernel
theorem dX12_isApart_20 : decode cX12_isApart 20 = .ok (.aload_n 1, 1) := by decide +kernel
theorem dX12_isApart_21 : decode cX12_isApart 21 = .ok (.iload_n 2, 1) := by decide +kernel
theorem dX12_isApart_22 : decode cX12_isApart 22 = .ok (.iconst 1, 1) := by decide +kernel
theorem dX12_isApart_23 : decode cX12_isApart 23 = .ok (.iadd, 1) := by decide +kernel
theorem dX12_isApart_24 : decode cX12_isApart 24 = .ok (.iaload, 1) := by decide +kernel
theorem dX12_isApart_25 : decode cX12_isApart 25 = .ok (.invokestatic 244, 3) := by decide +kernel
theorem dX12_isApart_28 : decode cX12_isApart 28 = .ok (.ifCond .eq 5, 3) := by decide +kernel
theorem dX12_isApart_31 : decode cX12_isApart 31 = .ok (.iconst 0, 1) := by decide +kernel
theorem dX12_isApart_32 : decode cX12_isApart 32 = .ok (.ireturn, 1) := by decide +kernel
theorem dX12_isApart_33 : decode cX12_isApart 33 = .ok (.iinc 2 1, 3) := by decide +kernel
theorem dX12_isApart_36 : decode cX12_isApart 36 = .ok (.goto (-34), 3) := by decide +kernel
theorem dX12_isApart_39 : decode cX12_isApart 39 = .ok (.iconst 1, 1) := by decide +kernel
theorem dX12_isApart_40 : decode cX12_isApart 40 = .ok (.ireturn, 1) := by decide +kernel
theorem dX12_hangs_0 : decode cX12_hangs 0 = .ok (.aload_n 0, 1) := by decide +kernel
theorem dX12_hangs_1 : decode cX12_hangs 1 = .ok (.iconst 0, 1) := by decide +kernel
theorem dX12_hangs_2 : decode cX12_hangs 2 = .ok (.putfield 89, 3) := by decide +kernel
theorem dX12_hangs_5 : decode cX12_hangs 5 = .ok (.aload_n 0, 1) := by decide +kernel
theorem dX12_hangs_6 : decode cX12_hangs 6 = .ok (.invokevirtual 278, 3) := by decide +kernel
theorem dX12_hangs_9 : decode cX12_hangs 9 = .ok (.ifCond .ne 6, 3) := by decide +kernel
theorem dX12_hangs_12 : decode cX12_hangs 12 = .ok (.bipush (-2), 2) := by decide +kernel
theorem dX12_hangs_14 : decode cX12_hangs 14 = .ok (.ireturn, 1) := by decide +kernel
theorem dX12_hangs_15 : decode cX12_hangs 15 = .ok (.iconst 0, 1) := by decide +kernel
theorem dX12_hangs_16 : decode cX12_hangs 16 = .ok (.istore_n 1, 1) := by decide +kernel
theorem dX12_hangs_17 : decode cX12_hangs 17 = .ok (.iconst 0, 1) := by decide +kernel
theorem dX12_hangs_18 : decode cX12_hangs 18 = .ok (.istore_n 2, 1) := by decide +kernel
theorem dX12_hangs_19 : decode cX12_hangs 19 = .ok (.iload_n 2, 1) := by decide +kernel
theorem dX12_hangs_20 : decode cX12_hangs 20 = .ok (.aload_n 0, 1) := by decide +kernel
theorem dX12_hangs_21 : decode cX12_hangs 21 = .ok (.invokevirtual 307, 3) := by decide +kernel
theorem dX12_hangs_24 : decode cX12_hangs 24 = .ok (.if_icmp .ge 37, 3) := by decide +kernel
theorem dX12_hangs_27 : decode cX12_hangs 27 = .ok (.aload_n 0, 1) := by decide +kernel
theorem dX12_hangs_28 : decode cX12_hangs 28 = .ok (.iload_n 2, 1) := by decide +kernel
theorem dX12_hangs_29 : decode cX12_hangs 29 = .ok (.aload_n 0, 1) := by decide +kernel
theorem dX12_hangs_30 : decode cX12_hangs 30 = .ok (.getfield 71, 3) := by decide +kernel
theorem dX12_hangs_33 : decode cX12_hangs 33 = .ok (.invokevirtual 313, 3) := by decide +kernel
theorem dX12_hangs_36 : decode cX12_hangs 36 = .ok (.iload_n 1, 1) := by decide +kernel
theorem dX12_hangs_37 : decode cX12_hangs 37 = .ok (.aload_n 0, 1) := by decide +kernel
theorem dX12_hangs_38 : decode cX12_hangs 38 = .ok (.aload_n 0, 1) := by decide +kernel
theorem dX12_hangs_39 : decode cX12_hangs 39 = .ok (.getfield 71, 3) := by decide +kernel
theorem dX12_hangs_42 : decode cX12_hangs 42 = .ok (.invokevirtual 362, 3) := by decide +kernel
theorem dX12_hangs_45 : decode cX12_hangs 45 = .ok (.ifCond .eq 7, 3) := by decide +kernel
theorem dX12_hangs_48 : decode cX12_hangs 48 = .ok (.iconst 1, 1) := by decide +kernel
theorem dX12_hangs_49 : decode cX12_hangs 49 = .ok (.goto 4, 3) := by decide +kernel
theorem dX12_hangs_52 : decode cX12_hangs 52 = .ok (.iconst 0, 1) := by decide +kernel
theorem dX12_hangs_53 : decode cX12_hangs 53 = .ok (.iadd, 1) := by decide +kernel
theorem dX12_hangs_54 : decode cX12_hangs 54 = .ok (.istore_n 1, 1) := by decide +kernel
theorem dX12_hangs_55 : decode cX12_hangs 55 = .ok (.iinc 2 1, 3) := by decide +kernel
theorem dX12_hangs_58 : decode cX12_hangs 58 = .ok (.goto (-39), 3) := by decide +kernel
theorem dX12_hangs_61 : decode cX12_hangs 61 = .ok (.iload_n 1, 1) := by decide +kernel
theorem dX12_hangs_62 : decode cX12_hangs 62 = .ok (.ireturn, 1) := by decide +kernel
theorem dX12_hang_0 : decode cX12_hang 0 = .ok (.aload_n 0, 1) := by decide +kernel
theorem dX12_hang_1 : decode cX12_hang 1 = .ok (.iconst 0, 1) := by decide +kernel
theorem dX12_hang_2 : decode cX12_hang 2 = .ok (.putfield 89, 3) := by decide +kernel
theorem dX12_hang_5 : decode cX12_hang 5 = .ok (.aload_n 0, 1) := by decide +kernel
theorem dX12_hang_6 : decode cX12_hang 6 = .ok (.iload_n 1, 1) := by decide +kernel
theorem dX12_hang_7 : decode cX12_hang 7 = .ok (.i2l, 1) := by decide +kernel
theorem dX12_hang_8 : decode cX12_hang 8 = .ok (.invokevirtual 263, 3) := by decide +kernel
theorem dX12_hang_11 : decode cX12_hang 11 = .ok (.ifCond .ne 6, 3) := by decide +kernel
theorem dX12_hang_14 : decode cX12_hang 14 = .ok (.bipush (-2), 2) := by decide +kernel
theorem dX12_hang_16 : decode cX12_hang 16 = .ok (.ireturn, 1) := by decide +kernel
theorem dX12_hang_17 : decode cX12_hang 17 = .ok (.iconst 0, 1) := by decide +kernel
theorem dX12_hang_18 : decode cX12_hang 18 = .ok (.istore_n 2, 1) := by decide +kernel
theorem dX12_hang_19 : decode cX12_hang 19 = .ok (.iload_n 2, 1) := by decide +kernel
theorem dX12_hang_20 : decode cX12_hang 20 = .ok (.aload_n 0, 1) := by decide +kernel
theorem dX12_hang_21 : decode cX12_hang 21 = .ok (.invokevirtual 307, 3) := by decide +kernel
theorem dX12_hang_24 : decode cX12_hang 24 = .ok (.if_icmp .ge 36, 3) := by decide +kernel
theorem dX12_hang_27 : decode cX12_hang 27 = .ok (.aload_n 0, 1) := by decide +kernel
theorem dX12_hang_28 : decode cX12_hang 28 = .ok (.iload_n 2, 1) := by decide +kernel
theorem dX12_hang_29 : decode cX12_hang 29 = .ok (.aload_n 0, 1) := by decide +kernel
theorem dX12_hang_30 : decode cX12_hang 30 = .ok (.getfield 71, 3) := by decide +kernel
theorem dX12_hang_33 : decode cX12_hang 33 = .ok (.invokevirtual 313, 3) := by decide +kernel
theorem dX12_hang_36 : decode cX12_hang 36 = .ok (.aload_n 0, 1) := by decide +kernel
theorem dX12_hang_37 : decode cX12_hang 37 = .ok (.aload_n 0, 1) := by decide +kernel
theorem dX12_hang_38 : decode cX12_hang 38 = .ok (.getfield 71, 3) := by decide +kernel
theorem dX12_hang_41 : decode cX12_hang 41 = .ok (.invokevirtual 362, 3) := by decide +kernel
theorem dX12_hang_44 : decode cX12_hang 44 = .ok (.ifCond .eq 10, 3) := by decide +kernel
theorem dX12_hang_47 : decode cX12_hang 47 = .ok (.aload_n 0, 1) := by decide +kernel
theorem dX12_hang_48 : decode cX12_hang 48 = .ok (.getfield 71, 3) := by decide +kernel
theorem dX12_hang_51 : decode cX12_hang 51 = .ok (.iload_n 1, 1) := by decide +kernel
theorem dX12_hang_52 : decode cX12_hang 52 = .ok (.iaload, 1) := by decide +kernel
theorem dX12_hang_53 : decode cX12_hang 53 = .ok (.ireturn, 1) := by decide +kernel
theorem dX12_hang_54 : decode cX12_hang 54 = .ok (.iinc 2 1, 3) := by decide +kernel
theorem dX12_hang_57 : decode cX12_hang 57 = .ok (.goto (-38), 3) := by decide +kernel
theorem dX12_hang_60 : decode cX12_hang 60 = .ok (.iconst (-1), 1) := by decide +kernel
theorem dX12_hang_61 : decode cX12_hang 61 = .ok (.ireturn, 1) := by decide +kernel
theorem dX12_parts_0 : decode cX12_parts 0 = .ok (.aload_n 0, 1) := by decide +kernel
theorem dX12_parts_1 : decode cX12_parts 1 = .ok (.iconst 0, 1) := by decide +kernel
theorem dX12_parts_2 : decode cX12_parts 2 = .ok (.putfield 89, 3) := by decide +kernel
theorem dX12_parts_5 : decode cX12_parts 5 = .ok (.aload_n 0, 1) := by decide +kernel
theorem dX12_parts_6 : decode cX12_parts 6 = .ok (.invokevirtual 278, 3) := by decide +kernel
theorem dX12_parts_9 : decode cX12_parts 9 = .ok (.ifCond .ne 6, 3) := by decide +kernel
theorem dX12_parts_12 : decode cX12_parts 12 = .ok (.bipush (-2), 2) := by decide +kernel
theorem dX12_parts_14 : decode cX12_parts 14 = .ok (.ireturn, 1) := by decide +kernel
theorem dX12_parts_15 : decode cX12_parts 15 = .ok (.aload_n 0, 1) := by decide +kernel
theorem dX12_parts_16 : decode cX12_parts 16 = .ok (.invokevirtual 266, 3) := by decide +kernel
theorem dX12_parts_19 : decode cX12_parts 19 = .ok (.iconst (-1), 1) := by decide +kernel
theorem dX12_parts_20 : decode cX12_parts 20 = .ok (.istore_n 1, 1) := by decide +kernel
theorem dX12_parts_21 : decode cX12_parts 21 = .ok (.iconst 0, 1) := by decide +kernel
theorem dX12_parts_22 : decode cX12_parts 22 = .ok (.istore_n 2, 1) := by decide +kernel
theorem dX12_parts_23 : decode cX12_parts 23 = .ok (.iload_n 2, 1) := by decide +kernel
theorem dX12_parts_24 : decode cX12_parts 24 = .ok (.aload_n 0, 1) := by decide +kernel
theorem dX12_parts_25 : decode cX12_parts 25 = .ok (.invokevirtual 307, 3) := by decide +kernel
theorem dX12_parts_28 : decode cX12_parts 28 = .ok (.if_icmp .ge 57, 3) := by decide +kernel
theorem dX12_parts_31 : decode cX12_parts 31 = .ok (.aload_n 0, 1) := by decide +kernel
theorem dX12_parts_32 : decode cX12_parts 32 = .ok (.iload_n 2, 1) := by decide +kernel
theorem dX12_parts_33 : decode cX12_parts 33 = .ok (.aload_n 0, 1) := by decide +kernel
theorem dX12_parts_34 : decode cX12_parts 34 = .ok (.getfield 71, 3) := by decide +kernel
theorem dX12_parts_37 : decode cX12_parts 37 = .ok (.invokevirtual 313, 3) := by decide +kernel
theorem dX12_parts_40 : decode cX12_parts 40 = .ok (.aload_n 0, 1) := by decide +kernel
theorem dX12_parts_41 : decode cX12_parts 41 = .ok (.aload_n 0, 1) := by decide +kernel
theorem dX12_parts_42 : decode cX12_parts 42 = .ok (.getfield 71, 3) := by decide +kernel
theorem dX12_parts_45 : decode cX12_parts 45 = .ok (.invokevirtual 362, 3) := by decide +kernel
theorem dX12_parts_48 : decode cX12_parts 48 = .ok (.ifCond .ne 6, 3) := by decide +kernel
theorem dX12_parts_51 : decode cX12_parts 51 = .ok (.goto 28, 3) := by decide +kernel
theorem dX12_parts_54 : decode cX12_parts 54 = .ok (.aload_n 0, 1) := by decide +kernel
theorem dX12_parts_55 : decode cX12_parts 55 = .ok (.aload_n 0, 1) := by decide +kernel
theorem dX12_parts_56 : decode cX12_parts 56 = .ok (.getfield 71, 3) := by decide +kernel
theorem dX12_parts_59 : decode cX12_parts 59 = .ok (.invokevirtual 359, 3) := by decide +kernel
theorem dX12_parts_62 : decode cX12_parts 62 = .ok (.istore_n 3, 1) := by decide +kernel
theorem dX12_parts_63 : decode cX12_parts 63 = .ok (.iload_n 1, 1) := by decide +kernel
theorem dX12_parts_64 : decode cX12_parts 64 = .ok (.iconst (-1), 1) := by decide +kernel
theorem dX12_parts_65 : decode cX12_parts 65 = .ok (.if_icmp .eq 8, 3) := by decide +kernel
theorem dX12_parts_68 : decode cX12_parts 68 = .ok (.iload_n 3, 1) := by decide +kernel
theorem dX12_parts_69 : decode cX12_parts 69 = .ok (.iload_n 1, 1) := by decide +kernel
theorem dX12_parts_70 : decode cX12_parts 70 = .ok (.if_icmp .ge 7, 3) := by decide +kernel
theorem dX12_parts_73 : decode cX12_parts 73 = .ok (.iload_n 3, 1) := by decide +kernel
theorem dX12_parts_74 : decode cX12_parts 74 = .ok (.goto 4, 3) := by decide +kernel
theorem dX12_parts_77 : decode cX12_parts 77 = .ok (.iload_n 1, 1) := by decide +kernel
theorem dX12_parts_78 : decode cX12_parts 78 = .ok (.istore_n 1, 1) := by decide +kernel
theorem dX12_parts_79 : decode cX12_parts 79 = .ok (.iinc 2 1, 3) := by decide +kernel
theorem dX12_parts_82 : decode cX12_parts 82 = .ok (.goto (-59), 3) := by decide +kernel
theorem dX12_parts_85 : decode cX12_parts 85 = .ok (.iload_n 1, 1) := by decide +kernel
theorem dX12_parts_86 : decode cX12_parts 86 = .ok (.ireturn, 1) := by decide +kernel
theorem dX12_suitOf_0 : decode cX12_suitOf 0 = .ok (.iconst 0, 1) := by decide +kernel
theorem dX12_suitOf_1 : decode cX12_suitOf 1 = .ok (.istore_n 2, 1) := by decide +kernel
theorem dX12_suitOf_2 : decode cX12_suitOf 2 = .ok (.iconst 0, 1) := by decide +kernel
theorem dX12_suitOf_3 : decode cX12_suitOf 3 = .ok (.istore_n 3, 1) := by decide +kernel
theorem dX12_suitOf_4 : decode cX12_suitOf 4 = .ok (.iload_n 3, 1) := by decide +kernel
theorem dX12_suitOf_5 : decode cX12_suitOf 5 = .ok (.aload_n 0, 1) := by decide +kernel
theorem dX12_suitOf_6 : decode cX12_suitOf 6 = .ok (.invokevirtual 241, 3) := by decide +kernel
theorem dX12_suitOf_9 : decode cX12_suitOf 9 = .ok (.if_icmp .ge 25, 3) := by decide +kernel
theorem dX12_suitOf_12 : decode cX12_suitOf 12 = .ok (.iload_n 2, 1) := by decide +kernel
theorem dX12_suitOf_13 : decode cX12_suitOf 13 = .ok (.aload_n 0, 1) := by decide +kernel
theorem dX12_suitOf_14 : decode cX12_suitOf 14 = .ok (.getfield 43, 3) := by decide +kernel
theorem dX12_suitOf_17 : decode cX12_suitOf 17 = .ok (.bipush 7, 2) := by decide +kernel
theorem dX12_suitOf_19 : decode cX12_suitOf 19 = .ok (.aload_n 1, 1) := by decide +kernel
theorem dX12_suitOf_20 : decode cX12_suitOf 20 = .ok (.iload_n 3, 1) := by decide +kernel
theorem dX12_suitOf_21 : decode cX12_suitOf 21 = .ok (.iaload, 1) := by decide +kernel
theorem dX12_suitOf_22 : decode cX12_suitOf 22 = .ok (.imul, 1) := by decide +kernel
theorem dX12_suitOf_23 : decode cX12_suitOf 23 = .ok (.iload_n 3, 1) := by decide +kernel
theorem dX12_suitOf_24 : decode cX12_suitOf 24 = .ok (.iadd, 1) := by decide +kernel
theorem dX12_suitOf_25 : decode cX12_suitOf 25 = .ok (.iaload, 1) := by decide +kernel
theorem dX12_suitOf_26 : decode cX12_suitOf 26 = .ok (.iadd, 1) := by decide +kernel
theorem dX12_suitOf_27 : decode cX12_suitOf 27 = .ok (.istore_n 2, 1) := by decide +kernel
theorem dX12_suitOf_28 : decode cX12_suitOf 28 = .ok (.iinc 3 1, 3) := by decide +kernel
theorem dX12_suitOf_31 : decode cX12_suitOf 31 = .ok (.goto (-27), 3) := by decide +kernel
theorem dX12_suitOf_34 : decode cX12_suitOf 34 = .ok (.iload_n 2, 1) := by decide +kernel
theorem dX12_suitOf_35 : decode cX12_suitOf 35 = .ok (.ireturn, 1) := by decide +kernel
theorem dX12_bestOf_0 : decode cX12_bestOf 0 = .ok (.iconst (-1), 1) := by decide +kernel
theorem dX12_bestOf_1 : decode cX12_bestOf 1 = .ok (.istore_n 1, 1) := by decide +kernel
theorem dX12_bestOf_2 : decode cX12_bestOf 2 = .ok (.aload_n 0, 1) := by decide +kernel
theorem dX12_bestOf_3 : decode cX12_bestOf 3 = .ok (.iconst 0, 1) := by decide +kernel
theorem dX12_bestOf_4 : decode cX12_bestOf 4 = .ok (.putfield 366, 3) := by decide +kernel
theorem dX12_bestOf_7 : decode cX12_bestOf 7 = .ok (.iconst 0, 1) := by decide +kernel
theorem dX12_bestOf_8 : decode cX12_bestOf 8 = .ok (.istore_n 2, 1) := by decide +kernel
theorem dX12_bestOf_9 : decode cX12_bestOf 9 = .ok (.iload_n 2, 1) := by decide +kernel
theorem dX12_bestOf_10 : decode cX12_bestOf 10 = .ok (.aload_n 0, 1) := by decide +kernel
theorem dX12_bestOf_11 : decode cX12_bestOf 11 = .ok (.invokevirtual 307, 3) := by decide +kernel
theorem dX12_bestOf_14 : decode cX12_bestOf 14 = .ok (.if_icmp .ge 63, 3) := by decide +kernel
theorem dX12_bestOf_17 : decode cX12_bestOf 17 = .ok (.aload_n 0, 1) := by decide +kernel
theorem dX12_bestOf_18 : decode cX12_bestOf 18 = .ok (.iload_n 2, 1) := by decide +kernel
theorem dX12_bestOf_19 : decode cX12_bestOf 19 = .ok (.aload_n 0, 1) := by decide +kernel
theorem dX12_bestOf_20 : decode cX12_bestOf 20 = .ok (.getfield 71, 3) := by decide +kernel
theorem dX12_bestOf_23 : decode cX12_bestOf 23 = .ok (.invokevirtual 313, 3) := by decide +kernel
theorem dX12_bestOf_26 : decode cX12_bestOf 26 = .ok (.aload_n 0, 1) := by decide +kernel
theorem dX12_bestOf_27 : decode cX12_bestOf 27 = .ok (.aload_n 0, 1) := by decide +kernel
theorem dX12_bestOf_28 : decode cX12_bestOf 28 = .ok (.getfield 71, 3) := by decide +kernel
theorem dX12_bestOf_31 : decode cX12_bestOf 31 = .ok (.invokevirtual 369, 3) := by decide +kernel
theorem dX12_bestOf_34 : decode cX12_bestOf 34 = .ok (.istore_n 3, 1) := by decide +kernel
theorem dX12_bestOf_35 : decode cX12_bestOf 35 = .ok (.iload_n 3, 1) := by decide +kernel
theorem dX12_bestOf_36 : decode cX12_bestOf 36 = .ok (.iload_n 1, 1) := by decide +kernel
theorem dX12_bestOf_37 : decode cX12_bestOf 37 = .ok (.if_icmp .le 15, 3) := by decide +kernel
theorem dX12_bestOf_40 : decode cX12_bestOf 40 = .ok (.iload_n 3, 1) := by decide +kernel
theorem dX12_bestOf_41 : decode cX12_bestOf 41 = .ok (.istore_n 1, 1) := by decide +kernel
theorem dX12_bestOf_42 : decode cX12_bestOf 42 = .ok (.aload_n 0, 1) := by decide +kernel
theorem dX12_bestOf_43 : decode cX12_bestOf 43 = .ok (.iload_n 2, 1) := by decide +kernel
theorem dX12_bestOf_44 : decode cX12_bestOf 44 = .ok (.putfield 372, 3) := by decide +kernel
theorem dX12_bestOf_47 : decode cX12_bestOf 47 = .ok (.aload_n 0, 1) := by decide +kernel
theorem dX12_bestOf_48 : decode cX12_bestOf 48 = .ok (.iconst 0, 1) := by decide +kernel
theorem dX12_bestOf_49 : decode cX12_bestOf 49 = .ok (.putfield 366, 3) := by decide +kernel
theorem dX12_bestOf_52 : decode cX12_bestOf 52 = .ok (.aload_n 0, 1) := by decide +kernel
theorem dX12_bestOf_53 : decode cX12_bestOf 53 = .ok (.dup, 1) := by decide +kernel
theorem dX12_bestOf_54 : decode cX12_bestOf 54 = .ok (.getfield 366, 3) := by decide +kernel
theorem dX12_bestOf_57 : decode cX12_bestOf 57 = .ok (.iload_n 3, 1) := by decide +kernel
theorem dX12_bestOf_58 : decode cX12_bestOf 58 = .ok (.iload_n 1, 1) := by decide +kernel
theorem dX12_bestOf_59 : decode cX12_bestOf 59 = .ok (.if_icmp .ne 7, 3) := by decide +kernel
theorem dX12_bestOf_62 : decode cX12_bestOf 62 = .ok (.iconst 1, 1) := by decide +kernel
theorem dX12_bestOf_63 : decode cX12_bestOf 63 = .ok (.goto 4, 3) := by decide +kernel
theorem dX12_bestOf_66 : decode cX12_bestOf 66 = .ok (.iconst 0, 1) := by decide +kernel
theorem dX12_bestOf_67 : decode cX12_bestOf 67 = .ok (.iadd, 1) := by decide +kernel
theorem dX12_bestOf_68 : decode cX12_bestOf 68 = .ok (.putfield 366, 3) := by decide +kernel
theorem dX12_bestOf_71 : decode cX12_bestOf 71 = .ok (.iinc 2 1, 3) := by decide +kernel
theorem dX12_bestOf_74 : decode cX12_bestOf 74 = .ok (.goto (-65), 3) := by decide +kernel
theorem dX12_bestOf_77 : decode cX12_bestOf 77 = .ok (.iload_n 1, 1) := by decide +kernel
theorem dX12_bestOf_78 : decode cX12_bestOf 78 = .ok (.ireturn, 1) := by decide +kernel
theorem dX12_best_0 : decode cX12_best 0 = .ok (.aload_n 0, 1) := by decide +kernel
theorem dX12_best_1 : decode cX12_best 1 = .ok (.iconst 0, 1) := by decide +kernel
theorem dX12_best_2 : decode cX12_best 2 = .ok (.putfield 89, 3) := by decide +kernel
theorem dX12_best_5 : decode cX12_best 5 = .ok (.aload_n 0, 1) := by decide +kernel
theorem dX12_best_6 : decode cX12_best 6 = .ok (.invokevirtual 278, 3) := by decide +kernel
theorem dX12_best_9 : decode cX12_best 9 = .ok (.ifCond .eq 10, 3) := by decide +kernel
theorem dX12_best_12 : decode cX12_best 12 = .ok (.aload_n 0, 1) := by decide +kernel
theorem dX12_best_13 : decode cX12_best 13 = .ok (.invokevirtual 375, 3) := by decide +kernel
theorem dX12_best_16 : decode cX12_best 16 = .ok (.goto 5, 3) := by decide +kernel
theorem dX12_best_19 : decode cX12_best 19 = .ok (.bipush (-2), 2) := by decide +kernel
theorem dX12_best_21 : decode cX12_best 21 = .ok (.ireturn, 1) := by decide +kernel
theorem dX12_bests_0 : decode cX12_bests 0 = .ok (.aload_n 0, 1) := by decide +kernel
theorem dX12_bests_1 : decode cX12_bests 1 = .ok (.iconst 0, 1) := by decide +kernel
theorem dX12_bests_2 : decode cX12_bests 2 = .ok (.putfield 89, 3) := by decide +kernel
theorem dX12_bests_5 : decode cX12_bests 5 = .ok (.aload_n 0, 1) := by decide +kernel
theorem dX12_bests_6 : decode cX12_bests 6 = .ok (.iload_n 1, 1) := by decide +kernel
theorem dX12_bests_7 : decode cX12_bests 7 = .ok (.i2l, 1) := by decide +kernel
theorem dX12_bests_8 : decode cX12_bests 8 = .ok (.invokevirtual 263, 3) := by decide +kernel
theorem dX12_bests_11 : decode cX12_bests 11 = .ok (.ifCond .ne 6, 3) := by decide +kernel
theorem dX12_bests_14 : decode cX12_bests 14 = .ok (.bipush (-2), 2) := by decide +kernel
theorem dX12_bests_16 : decode cX12_bests 16 = .ok (.ireturn, 1) := by decide +kernel
theorem dX12_bests_17 : decode cX12_bests 17 = .ok (.aload_n 0, 1) := by decide +kernel
theorem dX12_bests_18 : decode cX12_bests 18 = .ok (.invokevirtual 375, 3) := by decide +kernel
theorem dX12_bests_21 : decode cX12_bests 21 = .ok (.pop, 1) := by decide +kernel
theorem dX12_bests_22 : decode cX12_bests 22 = .ok (.aload_n 0, 1) := by decide +kernel
theorem dX12_bests_23 : decode cX12_bests 23 = .ok (.aload_n 0, 1) := by decide +kernel
theorem dX12_bests_24 : decode cX12_bests 24 = .ok (.getfield 372, 3) := by decide +kernel
theorem dX12_bests_27 : decode cX12_bests 27 = .ok (.aload_n 0, 1) := by decide +kernel
theorem dX12_bests_28 : decode cX12_bests 28 = .ok (.getfield 71, 3) := by decide +kernel
theorem dX12_bests_31 : decode cX12_bests 31 = .ok (.invokevirtual 313, 3) := by decide +kernel
theorem dX12_bests_34 : decode cX12_bests 34 = .ok (.aload_n 0, 1) := by decide +kernel
theorem dX12_bests_35 : decode cX12_bests 35 = .ok (.getfield 71, 3) := by decide +kernel
theorem dX12_bests_38 : decode cX12_bests 38 = .ok (.iload_n 1, 1) := by decide +kernel
theorem dX12_bests_39 : decode cX12_bests 39 = .ok (.iaload, 1) := by decide +kernel
theorem dX12_bests_40 : decode cX12_bests 40 = .ok (.ireturn, 1) := by decide +kernel
theorem dX12_ways__0 : decode cX12_ways_ 0 = .ok (.aload_n 0, 1) := by decide +kernel
theorem dX12_ways__1 : decode cX12_ways_ 1 = .ok (.iconst 0, 1) := by decide +kernel
theorem dX12_ways__2 : decode cX12_ways_ 2 = .ok (.putfield 89, 3) := by decide +kernel
theorem dX12_ways__5 : decode cX12_ways_ 5 = .ok (.aload_n 0, 1) := by decide +kernel
theorem dX12_ways__6 : decode cX12_ways_ 6 = .ok (.invokevirtual 278, 3) := by decide +kernel
theorem dX12_ways__9 : decode cX12_ways_ 9 = .ok (.ifCond .ne 6, 3) := by decide +kernel
theorem dX12_ways__12 : decode cX12_ways_ 12 = .ok (.bipush (-2), 2) := by decide +kernel
theorem dX12_ways__14 : decode cX12_ways_ 14 = .ok (.ireturn, 1) := by decide +kernel
theorem dX12_ways__15 : decode cX12_ways_ 15 = .ok (.aload_n 0, 1) := by decide +kernel
theorem dX12_ways__16 : decode cX12_ways_ 16 = .ok (.invokevirtual 375, 3) := by decide +kernel
theorem dX12_ways__19 : decode cX12_ways_ 19 = .ok (.pop, 1) := by decide +kernel
theorem dX12_ways__20 : decode cX12_ways_ 20 = .ok (.aload_n 0, 1) := by decide +kernel
theorem dX12_ways__21 : decode cX12_ways_ 21 = .ok (.getfield 366, 3) := by decide +kernel
theorem dX12_ways__24 : decode cX12_ways_ 24 = .ok (.ireturn, 1) := by decide +kernel
theorem dX12_suit_0 : decode cX12_suit 0 = .ok (.aload_n 0, 1) := by decide +kernel
theorem dX12_suit_1 : decode cX12_suit 1 = .ok (.iconst 0, 1) := by decide +kernel
theorem dX12_suit_2 : decode cX12_suit 2 = .ok (.putfield 89, 3) := by decide +kernel
theorem dX12_suit_5 : decode cX12_suit 5 = .ok (.aload_n 0, 1) := by decide +kernel
theorem dX12_suit_6 : decode cX12_suit 6 = .ok (.invokevirtual 278, 3) := by decide +kernel
theorem dX12_suit_9 : decode cX12_suit 9 = .ok (.ifCond .ne 6, 3) := by decide +kernel
theorem dX12_suit_12 : decode cX12_suit 12 = .ok (.bipush (-2), 2) := by decide +kernel
theorem dX12_suit_14 : decode cX12_suit 14 = .ok (.ireturn, 1) := by decide +kernel
theorem dX12_suit_15 : decode cX12_suit 15 = .ok (.aload_n 0, 1) := by decide +kernel
theorem dX12_suit_16 : decode cX12_suit 16 = .ok (.invokevirtual 266, 3) := by decide +kernel
theorem dX12_suit_19 : decode cX12_suit 19 = .ok (.aload_n 0, 1) := by decide +kernel
theorem dX12_suit_20 : decode cX12_suit 20 = .ok (.aload_n 0, 1) := by decide +kernel
theorem dX12_suit_21 : decode cX12_suit 21 = .ok (.getfield 59, 3) := by decide +kernel
theorem dX12_suit_24 : decode cX12_suit 24 = .ok (.invokevirtual 369, 3) := by decide +kernel
theorem dX12_suit_27 : decode cX12_suit 27 = .ok (.ireturn, 1) := by decide +kernel
theorem dX12_trade_0 : decode cX12_trade 0 = .ok (.aload_n 0, 1) := by decide +kernel
theorem dX12_trade_1 : decode cX12_trade 1 = .ok (.iconst 0, 1) := by decide +kernel
theorem dX12_trade_2 : decode cX12_trade 2 = .ok (.putfield 89, 3) := by decide +kernel
theorem dX12_trade_5 : decode cX12_trade 5 = .ok (.aload_n 0, 1) := by decide +kernel
theorem dX12_trade_6 : decode cX12_trade 6 = .ok (.invokevirtual 278, 3) := by decide +kernel
theorem dX12_trade_9 : decode cX12_trade 9 = .ok (.ifCond .ne 6, 3) := by decide +kernel
theorem dX12_trade_12 : decode cX12_trade 12 = .ok (.bipush (-2), 2) := by decide +kernel
theorem dX12_trade_14 : decode cX12_trade 14 = .ok (.ireturn, 1) := by decide +kernel
theorem dX12_trade_15 : decode cX12_trade 15 = .ok (.aload_n 0, 1) := by decide +kernel
theorem dX12_trade_16 : decode cX12_trade 16 = .ok (.invokevirtual 266, 3) := by decide +kernel
theorem dX12_trade_19 : decode cX12_trade 19 = .ok (.iconst (-1), 1) := by decide +kernel
theorem dX12_trade_20 : decode cX12_trade 20 = .ok (.istore_n 1, 1) := by decide +kernel
theorem dX12_trade_21 : decode cX12_trade 21 = .ok (.aload_n 0, 1) := by decide +kernel
theorem dX12_trade_22 : decode cX12_trade 22 = .ok (.aload_n 0, 1) := by decide +kernel
theorem dX12_trade_23 : decode cX12_trade 23 = .ok (.getfield 59, 3) := by decide +kernel
theorem dX12_trade_26 : decode cX12_trade 26 = .ok (.invokevirtual 369, 3) := by decide +kernel
theorem dX12_trade_29 : decode cX12_trade 29 = .ok (.istore_n 2, 1) := by decide +kernel
theorem dX12_trade_30 : decode cX12_trade 30 = .ok (.iconst 0, 1) := by decide +kernel
theorem dX12_trade_31 : decode cX12_trade 31 = .ok (.istore_n 3, 1) := by decide +kernel
theorem dX12_trade_32 : decode cX12_trade 32 = .ok (.iload_n 3, 1) := by decide +kernel
theorem dX12_trade_33 : decode cX12_trade 33 = .ok (.aload_n 0, 1) := by decide +kernel
theorem dX12_trade_34 : decode cX12_trade 34 = .ok (.invokevirtual 241, 3) := by decide +kernel
theorem dX12_trade_37 : decode cX12_trade 37 = .ok (.if_icmp .ge 79, 3) := by decide +kernel
theorem dX12_trade_40 : decode cX12_trade 40 = .ok (.iload_n 3, 1) := by decide +kernel
theorem dX12_trade_41 : decode cX12_trade 41 = .ok (.iconst 1, 1) := by decide +kernel
theorem dX12_trade_42 : decode cX12_trade 42 = .ok (.iadd, 1) := by decide +kernel
theorem dX12_trade_43 : decode cX12_trade 43 = .ok (.istore 4, 2) := by decide +kernel
theorem dX12_trade_45 : decode cX12_trade 45 = .ok (.iload 4, 2) := by decide +kernel
theorem dX12_trade_47 : decode cX12_trade 47 = .ok (.aload_n 0, 1) := by decide +kernel
theorem dX12_trade_48 : decode cX12_trade 48 = .ok (.invokevirtual 241, 3) := by decide +kernel
theorem dX12_trade_51 : decode cX12_trade 51 = .ok (.if_icmp .ge 59, 3) := by decide +kernel
theorem dX12_trade_54 : decode cX12_trade 54 = .ok (.aload_n 0, 1) := by decide +kernel
theorem dX12_trade_55 : decode cX12_trade 55 = .ok (.getfield 59, 3) := by decide +kernel
theorem dX12_trade_58 : decode cX12_trade 58 = .ok (.iload_n 3, 1) := by decide +kernel
theorem dX12_trade_59 : decode cX12_trade 59 = .ok (.iload 4, 2) := by decide +kernel
theorem dX12_trade_61 : decode cX12_trade 61 = .ok (.invokestatic 251, 3) := by decide +kernel
theorem dX12_trade_64 : decode cX12_trade 64 = .ok (.aload_n 0, 1) := by decide +kernel
theorem dX12_trade_65 : decode cX12_trade 65 = .ok (.aload_n 0, 1) := by decide +kernel
theorem dX12_trade_66 : decode cX12_trade 66 = .ok (.getfield 59, 3) := by decide +kernel
theorem dX12_trade_69 : decode cX12_trade 69 = .ok (.invokevirtual 369, 3) := by decide +kernel
theorem dX12_trade_72 : decode cX12_trade 72 = .ok (.istore 5, 2) := by decide +kernel
theorem dX12_trade_74 : decode cX12_trade 74 = .ok (.aload_n 0, 1) := by decide +kernel
theorem dX12_trade_75 : decode cX12_trade 75 = .ok (.getfield 59, 3) := by decide +kernel
theorem dX12_trade_78 : decode cX12_trade 78 = .ok (.iload_n 3, 1) := by decide +kernel
theorem dX12_trade_79 : decode cX12_trade 79 = .ok (.iload 4, 2) := by decide +kernel
theorem dX12_trade_81 : decode cX12_trade 81 = .ok (.invokestatic 251, 3) := by decide +kernel
theorem dX12_trade_84 : decode cX12_trade 84 = .ok (.iload 5, 2) := by decide +kernel
theorem dX12_trade_86 : decode cX12_trade 86 = .ok (.iload_n 2, 1) := by decide +kernel
theorem dX12_trade_87 : decode cX12_trade 87 = .ok (.if_icmp .gt 6, 3) := by decide +kernel
theorem dX12_trade_90 : decode cX12_trade 90 = .ok (.goto 14, 3) := by decide +kernel
theorem dX12_trade_93 : decode cX12_trade 93 = .ok (.bipush 10, 2) := by decide +kernel
theorem dX12_trade_95 : decode cX12_trade 95 = .ok (.iload_n 3, 1) := by decide +kernel
theorem dX12_trade_96 : decode cX12_trade 96 = .ok (.imul, 1) := by decide +kernel
theorem dX12_trade_97 : decode cX12_trade 97 = .ok (.iload 4, 2) := by decide +kernel
theorem dX12_trade_99 : decode cX12_trade 99 = .ok (.iadd, 1) := by decide +kernel
theorem dX12_trade_100 : decode cX12_trade 100 = .ok (.istore_n 1, 1) := by decide +kernel
theorem dX12_trade_101 : decode cX12_trade 101 = .ok (.iload 5, 2) := by decide +kernel
theorem dX12_trade_103 : decode cX12_trade 103 = .ok (.istore_n 2, 1) := by decide +kernel
theorem dX12_trade_104 : decode cX12_trade 104 = .ok (.iinc 4 1, 3) := by decide +kernel
theorem dX12_trade_107 : decode cX12_trade 107 = .ok (.goto (-62), 3) := by decide +kernel
theorem dX12_trade_110 : decode cX12_trade 110 = .ok (.iinc 3 1, 3) := by decide +kernel
theorem dX12_trade_113 : decode cX12_trade 113 = .ok (.goto (-81), 3) := by decide +kernel
theorem dX12_trade_116 : decode cX12_trade 116 = .ok (.iload_n 1, 1) := by decide +kernel
theorem dX12_trade_117 : decode cX12_trade 117 = .ok (.ireturn, 1) := by decide +kernel
theorem dX12_winsFrom_0 : decode cX12_winsFrom 0 = .ok (.iconst 0, 1) := by decide +kernel
theorem dX12_winsFrom_1 : decode cX12_winsFrom 1 = .ok (.istore_n 3, 1) := by decide +kernel
theorem dX12_winsFrom_2 : decode cX12_winsFrom 2 = .ok (.iload_n 3, 1) := by decide +kernel
theorem dX12_winsFrom_3 : decode cX12_winsFrom 3 = .ok (.aload_n 0, 1) := by decide +kernel
theorem dX12_winsFrom_4 : decode cX12_winsFrom 4 = .ok (.invokevirtual 241, 3) := by decide +kernel
theorem dX12_winsFrom_7 : decode cX12_winsFrom 7 = .ok (.if_icmp .ge 41, 3) := by decide +kernel
theorem dX12_winsFrom_10 : decode cX12_winsFrom 10 = .ok (.iload_n 2, 1) := by decide +kernel
theorem dX12_winsFrom_11 : decode cX12_winsFrom 11 = .ok (.iload_n 3, 1) := by decide +kernel
theorem dX12_winsFrom_12 : decode cX12_winsFrom 12 = .ok (.invokestatic 244, 3) := by decide +kernel
theorem dX12_winsFrom_15 : decode cX12_winsFrom 15 = .ok (.ifCond .ne 27, 3) := by decide +kernel
theorem dX12_winsFrom_18 : decode cX12_winsFrom 18 = .ok (.aload_n 0, 1) := by decide +kernel
theorem dX12_winsFrom_19 : decode cX12_winsFrom 19 = .ok (.iload_n 1, 1) := by decide +kernel
theorem dX12_winsFrom_20 : decode cX12_winsFrom 20 = .ok (.iload_n 3, 1) := by decide +kernel
theorem dX12_winsFrom_21 : decode cX12_winsFrom 21 = .ok (.invokevirtual 321, 3) := by decide +kernel
theorem dX12_winsFrom_24 : decode cX12_winsFrom 24 = .ok (.ifCond .eq 18, 3) := by decide +kernel
theorem dX12_winsFrom_27 : decode cX12_winsFrom 27 = .ok (.aload_n 0, 1) := by decide +kernel
theorem dX12_winsFrom_28 : decode cX12_winsFrom 28 = .ok (.iload_n 3, 1) := by decide +kernel
theorem dX12_winsFrom_29 : decode cX12_winsFrom 29 = .ok (.iload_n 2, 1) := by decide +kernel
theorem dX12_winsFrom_30 : decode cX12_winsFrom 30 = .ok (.iconst 1, 1) := by decide +kernel
theorem dX12_winsFrom_31 : decode cX12_winsFrom 31 = .ok (.iload_n 3, 1) := by decide +kernel
theorem dX12_winsFrom_32 : decode cX12_winsFrom 32 = .ok (.ishl, 1) := by decide +kernel
theorem dX12_winsFrom_33 : decode cX12_winsFrom 33 = .ok (.ior, 1) := by decide +kernel
theorem dX12_winsFrom_34 : decode cX12_winsFrom 34 = .ok (.invokevirtual 378, 3) := by decide +kernel
theorem dX12_winsFrom_37 : decode cX12_winsFrom 37 = .ok (.ifCond .ne 5, 3) := by decide +kernel
theorem dX12_winsFrom_40 : decode cX12_winsFrom 40 = .ok (.iconst 1, 1) := by decide +kernel
theorem dX12_winsFrom_41 : decode cX12_winsFrom 41 = .ok (.ireturn, 1) := by decide +kernel
theorem dX12_winsFrom_42 : decode cX12_winsFrom 42 = .ok (.iinc 3 1, 3) := by decide +kernel
theorem dX12_winsFrom_45 : decode cX12_winsFrom 45 = .ok (.goto (-43), 3) := by decide +kernel
theorem dX12_winsFrom_48 : decode cX12_winsFrom 48 = .ok (.iconst 0, 1) := by decide +kernel
theorem dX12_winsFrom_49 : decode cX12_winsFrom 49 = .ok (.ireturn, 1) := by decide +kernel
theorem dX12_wins_0 : decode cX12_wins 0 = .ok (.aload_n 0, 1) := by decide +kernel
theorem dX12_wins_1 : decode cX12_wins 1 = .ok (.iconst 0, 1) := by decide +kernel
theorem dX12_wins_2 : decode cX12_wins 2 = .ok (.putfield 89, 3) := by decide +kernel
theorem dX12_wins_5 : decode cX12_wins 5 = .ok (.aload_n 0, 1) := by decide +kernel
theorem dX12_wins_6 : decode cX12_wins 6 = .ok (.iload_n 1, 1) := by decide +kernel
theorem dX12_wins_7 : decode cX12_wins 7 = .ok (.i2l, 1) := by decide +kernel
theorem dX12_wins_8 : decode cX12_wins 8 = .ok (.invokevirtual 263, 3) := by decide +kernel
theorem dX12_wins_11 : decode cX12_wins 11 = .ok (.ifCond .ne 8, 3) := by decide +kernel
theorem dX12_wins_14 : decode cX12_wins 14 = .ok (.bipush (-2), 2) := by decide +kernel
theorem dX12_wins_16 : decode cX12_wins 16 = .ok (.goto 19, 3) := by decide +kernel
theorem dX12_wins_19 : decode cX12_wins 19 = .ok (.aload_n 0, 1) := by decide +kernel
theorem dX12_wins_20 : decode cX12_wins 20 = .ok (.iload_n 1, 1) := by decide +kernel
theorem dX12_wins_21 : decode cX12_wins 21 = .ok (.iconst 1, 1) := by decide +kernel
theorem dX12_wins_22 : decode cX12_wins 22 = .ok (.iload_n 1, 1) := by decide +kernel
theorem dX12_wins_23 : decode cX12_wins 23 = .ok (.ishl, 1) := by decide +kernel
theorem dX12_wins_24 : decode cX12_wins 24 = .ok (.invokevirtual 378, 3) := by decide +kernel
theorem dX12_wins_27 : decode cX12_wins 27 = .ok (.ifCond .eq 7, 3) := by decide +kernel
theorem dX12_wins_30 : decode cX12_wins 30 = .ok (.iconst 1, 1) := by decide +kernel
theorem dX12_wins_31 : decode cX12_wins 31 = .ok (.goto 4, 3) := by decide +kernel
theorem dX12_wins_34 : decode cX12_wins 34 = .ok (.iconst 0, 1) := by decide +kernel
theorem dX12_wins_35 : decode cX12_wins 35 = .ok (.ireturn, 1) := by decide +kernel
theorem dX12_takes__0 : decode cX12_takes_ 0 = .ok (.aload_n 0, 1) := by decide +kernel
theorem dX12_takes__1 : decode cX12_takes_ 1 = .ok (.iconst 0, 1) := by decide +kernel
theorem dX12_takes__2 : decode cX12_takes_ 2 = .ok (.putfield 89, 3) := by decide +kernel
theorem dX12_takes__5 : decode cX12_takes_ 5 = .ok (.aload_n 0, 1) := by decide +kernel
theorem dX12_takes__6 : decode cX12_takes_ 6 = .ok (.iload_n 1, 1) := by decide +kernel
theorem dX12_takes__7 : decode cX12_takes_ 7 = .ok (.i2l, 1) := by decide +kernel
theorem dX12_takes__8 : decode cX12_takes_ 8 = .ok (.invokevirtual 263, 3) := by decide +kernel
theorem dX12_takes__11 : decode cX12_takes_ 11 = .ok (.ifCond .ne 6, 3) := by decide +kernel
theorem dX12_takes__14 : decode cX12_takes_ 14 = .ok (.bipush (-2), 2) := by decide +kernel
theorem dX12_takes__16 : decode cX12_takes_ 16 = .ok (.ireturn, 1) := by decide +kernel
theorem dX12_takes__17 : decode cX12_takes_ 17 = .ok (.iconst 0, 1) := by decide +kernel
theorem dX12_takes__18 : decode cX12_takes_ 18 = .ok (.istore_n 2, 1) := by decide +kernel
theorem dX12_takes__19 : decode cX12_takes_ 19 = .ok (.iload_n 2, 1) := by decide +kernel
theorem dX12_takes__20 : decode cX12_takes_ 20 = .ok (.aload_n 0, 1) := by decide +kernel
theorem dX12_takes__21 : decode cX12_takes_ 21 = .ok (.invokevirtual 241, 3) := by decide +kernel
theorem dX12_takes__24 : decode cX12_takes_ 24 = .ok (.if_icmp .ge 40, 3) := by decide +kernel
theorem dX12_takes__27 : decode cX12_takes_ 27 = .ok (.iload_n 2, 1) := by decide +kernel
theorem dX12_takes__28 : decode cX12_takes_ 28 = .ok (.iload_n 1, 1) := by decide +kernel
theorem dX12_takes__29 : decode cX12_takes_ 29 = .ok (.if_icmp .eq 29, 3) := by decide +kernel
theorem dX12_takes__32 : decode cX12_takes_ 32 = .ok (.aload_n 0, 1) := by decide +kernel
theorem dX12_takes__33 : decode cX12_takes_ 33 = .ok (.iload_n 1, 1) := by decide +kernel
theorem dX12_takes__34 : decode cX12_takes_ 34 = .ok (.iload_n 2, 1) := by decide +kernel
theorem dX12_takes__35 : decode cX12_takes_ 35 = .ok (.invokevirtual 321, 3) := by decide +kernel
theorem dX12_takes__38 : decode cX12_takes_ 38 = .ok (.ifCond .eq 20, 3) := by decide +kernel
theorem dX12_takes__41 : decode cX12_takes_ 41 = .ok (.aload_n 0, 1) := by decide +kernel
theorem dX12_takes__42 : decode cX12_takes_ 42 = .ok (.iload_n 2, 1) := by decide +kernel
theorem dX12_takes__43 : decode cX12_takes_ 43 = .ok (.iconst 1, 1) := by decide +kernel
theorem dX12_takes__44 : decode cX12_takes_ 44 = .ok (.iload_n 1, 1) := by decide +kernel
theorem dX12_takes__45 : decode cX12_takes_ 45 = .ok (.ishl, 1) := by decide +kernel
theorem dX12_takes__46 : decode cX12_takes_ 46 = .ok (.iconst 1, 1) := by decide +kernel
theorem dX12_takes__47 : decode cX12_takes_ 47 = .ok (.iload_n 2, 1) := by decide +kernel
theorem dX12_takes__48 : decode cX12_takes_ 48 = .ok (.ishl, 1) := by decide +kernel
theorem dX12_takes__49 : decode cX12_takes_ 49 = .ok (.ior, 1) := by decide +kernel
theorem dX12_takes__50 : decode cX12_takes_ 50 = .ok (.invokevirtual 378, 3) := by decide +kernel
theorem dX12_takes__53 : decode cX12_takes_ 53 = .ok (.ifCond .ne 5, 3) := by decide +kernel
theorem dX12_takes__56 : decode cX12_takes_ 56 = .ok (.iload_n 2, 1) := by decide +kernel
theorem dX12_takes__57 : decode cX12_takes_ 57 = .ok (.ireturn, 1) := by decide +kernel
theorem dX12_takes__58 : decode cX12_takes_ 58 = .ok (.iinc 2 1, 3) := by decide +kernel
theorem dX12_takes__61 : decode cX12_takes_ 61 = .ok (.goto (-42), 3) := by decide +kernel
theorem dX12_takes__64 : decode cX12_takes_ 64 = .ok (.iconst (-1), 1) := by decide +kernel
theorem dX12_takes__65 : decode cX12_takes_ 65 = .ok (.ireturn, 1) := by decide +kernel
theorem dX12_laysLots_0 : decode cX12_laysLots 0 = .ok (.aload_n 0, 1) := by decide +kernel
theorem dX12_laysLots_1 : decode cX12_laysLots 1 = .ok (.invokevirtual 266, 3) := by decide +kernel
theorem dX12_laysLots_4 : decode cX12_laysLots 4 = .ok (.iconst 0, 1) := by decide +kernel
theorem dX12_laysLots_5 : decode cX12_laysLots 5 = .ok (.istore_n 2, 1) := by decide +kernel
theorem dX12_laysLots_6 : decode cX12_laysLots 6 = .ok (.iload_n 2, 1) := by decide +kernel
theorem dX12_laysLots_7 : decode cX12_laysLots 7 = .ok (.aload_n 0, 1) := by decide +kernel
theorem dX12_laysLots_8 : decode cX12_laysLots 8 = .ok (.invokevirtual 241, 3) := by decide +kernel
theorem dX12_laysLots_11 : decode cX12_laysLots 11 = .ok (.if_icmp .ge 35, 3) := by decide +kernel
theorem dX12_laysLots_14 : decode cX12_laysLots 14 = .ok (.aload_n 0, 1) := by decide +kernel
theorem dX12_laysLots_15 : decode cX12_laysLots 15 = .ok (.getfield 83, 3) := by decide +kernel
theorem dX12_laysLots_18 : decode cX12_laysLots 18 = .ok (.iload_n 2, 1) := by decide +kernel
theorem dX12_laysLots_19 : decode cX12_laysLots 19 = .ok (.aload_n 0, 1) := by decide +kernel
theorem dX12_laysLots_20 : decode cX12_laysLots 20 = .ok (.getfield 59, 3) := by decide +kernel
theorem dX12_laysLots_23 : decode cX12_laysLots 23 = .ok (.iload_n 2, 1) := by decide +kernel
theorem dX12_laysLots_24 : decode cX12_laysLots 24 = .ok (.iaload, 1) := by decide +kernel
theorem dX12_laysLots_25 : decode cX12_laysLots 25 = .ok (.aload_n 0, 1) := by decide +kernel
theorem dX12_laysLots_26 : decode cX12_laysLots 26 = .ok (.invokevirtual 241, 3) := by decide +kernel
theorem dX12_laysLots_29 : decode cX12_laysLots 29 = .ok (.iconst 1, 1) := by decide +kernel
theorem dX12_laysLots_30 : decode cX12_laysLots 30 = .ok (.isub, 1) := by decide +kernel
theorem dX12_laysLots_31 : decode cX12_laysLots 31 = .ok (.if_icmp .ne 7, 3) := by decide +kernel
theorem dX12_laysLots_34 : decode cX12_laysLots 34 = .ok (.lconst 1, 1) := by decide +kernel
theorem dX12_laysLots_35 : decode cX12_laysLots 35 = .ok (.goto 4, 3) := by decide +kernel
theorem dX12_laysLots_38 : decode cX12_laysLots 38 = .ok (.lconst 0, 1) := by decide +kernel
theorem dX12_laysLots_39 : decode cX12_laysLots 39 = .ok (.lastore, 1) := by decide +kernel
theorem dX12_laysLots_40 : decode cX12_laysLots 40 = .ok (.iinc 2 1, 3) := by decide +kernel
theorem dX12_laysLots_43 : decode cX12_laysLots 43 = .ok (.goto (-37), 3) := by decide +kernel
theorem dX12_laysLots_46 : decode cX12_laysLots 46 = .ok (.aload_n 0, 1) := by decide +kernel
theorem dX12_laysLots_47 : decode cX12_laysLots 47 = .ok (.lconst 1, 1) := by decide +kernel
theorem dX12_laysLots_48 : decode cX12_laysLots 48 = .ok (.putfield 381, 3) := by decide +kernel
theorem dX12_laysLots_51 : decode cX12_laysLots 51 = .ok (.iconst 0, 1) := by decide +kernel
theorem dX12_laysLots_52 : decode cX12_laysLots 52 = .ok (.istore_n 2, 1) := by decide +kernel
theorem dX12_laysLots_53 : decode cX12_laysLots 53 = .ok (.iload_n 2, 1) := by decide +kernel
theorem dX12_laysLots_54 : decode cX12_laysLots 54 = .ok (.iload_n 1, 1) := by decide +kernel
theorem dX12_laysLots_55 : decode cX12_laysLots 55 = .ok (.if_icmp .ge 159, 3) := by decide +kernel
theorem dX12_laysLots_58 : decode cX12_laysLots 58 = .ok (.iconst 0, 1) := by decide +kernel
theorem dX12_laysLots_59 : decode cX12_laysLots 59 = .ok (.istore_n 3, 1) := by decide +kernel
theorem dX12_laysLots_60 : decode cX12_laysLots 60 = .ok (.iload_n 3, 1) := by decide +kernel
theorem dX12_laysLots_61 : decode cX12_laysLots 61 = .ok (.aload_n 0, 1) := by decide +kernel
theorem dX12_laysLots_62 : decode cX12_laysLots 62 = .ok (.invokevirtual 241, 3) := by decide +kernel
theorem dX12_laysLots_65 : decode cX12_laysLots 65 = .ok (.if_icmp .ge 99, 3) := by decide +kernel
theorem dX12_laysLots_68 : decode cX12_laysLots 68 = .ok (.iload_n 3, 1) := by decide +kernel
theorem dX12_laysLots_69 : decode cX12_laysLots 69 = .ok (.ifCond .le 7, 3) := by decide +kernel
theorem dX12_laysLots_72 : decode cX12_laysLots 72 = .ok (.iconst 1, 1) := by decide +kernel
theorem dX12_laysLots_73 : decode cX12_laysLots 73 = .ok (.goto 4, 3) := by decide +kernel
theorem dX12_laysLots_76 : decode cX12_laysLots 76 = .ok (.iconst 0, 1) := by decide +kernel
theorem dX12_laysLots_77 : decode cX12_laysLots 77 = .ok (.iload_n 3, 1) := by decide +kernel
theorem dX12_laysLots_78 : decode cX12_laysLots 78 = .ok (.iconst 1, 1) := by decide +kernel
theorem dX12_laysLots_79 : decode cX12_laysLots 79 = .ok (.iadd, 1) := by decide +kernel
theorem dX12_laysLots_80 : decode cX12_laysLots 80 = .ok (.aload_n 0, 1) := by decide +kernel
theorem dX12_laysLots_81 : decode cX12_laysLots 81 = .ok (.invokevirtual 241, 3) := by decide +kernel
theorem dX12_laysLots_84 : decode cX12_laysLots 84 = .ok (.if_icmp .ge 7, 3) := by decide +kernel
theorem dX12_laysLots_87 : decode cX12_laysLots 87 = .ok (.iconst 1, 1) := by decide +kernel
theorem dX12_laysLots_88 : decode cX12_laysLots 88 = .ok (.goto 4, 3) := by decide +kernel
theorem dX12_laysLots_91 : decode cX12_laysLots 91 = .ok (.iconst 0, 1) := by decide +kernel
theorem dX12_laysLots_92 : decode cX12_laysLots 92 = .ok (.iadd, 1) := by decide +kernel
theorem dX12_laysLots_93 : decode cX12_laysLots 93 = .ok (.istore 4, 2) := by decide +kernel
theorem dX12_laysLots_95 : decode cX12_laysLots 95 = .ok (.aload_n 0, 1) := by decide +kernel
theorem dX12_laysLots_96 : decode cX12_laysLots 96 = .ok (.getfield 86, 3) := by decide +kernel
theorem dX12_laysLots_99 : decode cX12_laysLots 99 = .ok (.iload_n 3, 1) := by decide +kernel
theorem dX12_laysLots_100 : decode cX12_laysLots 100 = .ok (.aload_n 0, 1) := by decide +kernel
theorem dX12_laysLots_101 : decode cX12_laysLots 101 = .ok (.getfield 83, 3) := by decide +kernel
theorem dX12_laysLots_104 : decode cX12_laysLots 104 = .ok (.iload_n 3, 1) := by decide +kernel
theorem dX12_laysLots_105 : decode cX12_laysLots 105 = .ok (.laload, 1) := by decide +kernel
theorem dX12_laysLots_106 : decode cX12_laysLots 106 = .ok (.aload_n 0, 1) := by decide +kernel
theorem dX12_laysLots_107 : decode cX12_laysLots 107 = .ok (.invokevirtual 241, 3) := by decide +kernel
theorem dX12_laysLots_110 : decode cX12_laysLots 110 = .ok (.iconst 1, 1) := by decide +kernel
theorem dX12_laysLots_111 : decode cX12_laysLots 111 = .ok (.isub, 1) := by decide +kernel
theorem dX12_laysLots_112 : decode cX12_laysLots 112 = .ok (.iload 4, 2) := by decide +kernel
theorem dX12_laysLots_114 : decode cX12_laysLots 114 = .ok (.isub, 1) := by decide +kernel
theorem dX12_laysLots_115 : decode cX12_laysLots 115 = .ok (.i2l, 1) := by decide +kernel
theorem dX12_laysLots_116 : decode cX12_laysLots 116 = .ok (.lmul, 1) := by decide +kernel
theorem dX12_laysLots_117 : decode cX12_laysLots 117 = .ok (.iload_n 3, 1) := by decide +kernel
theorem dX12_laysLots_118 : decode cX12_laysLots 118 = .ok (.ifCond .le 14, 3) := by decide +kernel
theorem dX12_laysLots_121 : decode cX12_laysLots 121 = .ok (.aload_n 0, 1) := by decide +kernel
theorem dX12_laysLots_122 : decode cX12_laysLots 122 = .ok (.getfield 83, 3) := by decide +kernel
theorem dX12_laysLots_125 : decode cX12_laysLots 125 = .ok (.iload_n 3, 1) := by decide +kernel
theorem dX12_laysLots_126 : decode cX12_laysLots 126 = .ok (.iconst 1, 1) := by decide +kernel
theorem dX12_laysLots_127 : decode cX12_laysLots 127 = .ok (.isub, 1) := by decide +kernel
theorem dX12_laysLots_128 : decode cX12_laysLots 128 = .ok (.laload, 1) := by decide +kernel
theorem dX12_laysLots_129 : decode cX12_laysLots 129 = .ok (.goto 4, 3) := by decide +kernel
theorem dX12_laysLots_132 : decode cX12_laysLots 132 = .ok (.lconst 0, 1) := by decide +kernel
theorem dX12_laysLots_133 : decode cX12_laysLots 133 = .ok (.ladd, 1) := by decide +kernel
theorem dX12_laysLots_134 : decode cX12_laysLots 134 = .ok (.iload_n 3, 1) := by decide +kernel
theorem dX12_laysLots_135 : decode cX12_laysLots 135 = .ok (.iconst 1, 1) := by decide +kernel
theorem dX12_laysLots_136 : decode cX12_laysLots 136 = .ok (.iadd, 1) := by decide +kernel
theorem dX12_laysLots_137 : decode cX12_laysLots 137 = .ok (.aload_n 0, 1) := by decide +kernel
theorem dX12_laysLots_138 : decode cX12_laysLots 138 = .ok (.invokevirtual 241, 3) := by decide +kernel
theorem dX12_laysLots_141 : decode cX12_laysLots 141 = .ok (.if_icmp .ge 14, 3) := by decide +kernel
theorem dX12_laysLots_144 : decode cX12_laysLots 144 = .ok (.aload_n 0, 1) := by decide +kernel
theorem dX12_laysLots_145 : decode cX12_laysLots 145 = .ok (.getfield 83, 3) := by decide +kernel
theorem dX12_laysLots_148 : decode cX12_laysLots 148 = .ok (.iload_n 3, 1) := by decide +kernel
theorem dX12_laysLots_149 : decode cX12_laysLots 149 = .ok (.iconst 1, 1) := by decide +kernel
theorem dX12_laysLots_150 : decode cX12_laysLots 150 = .ok (.iadd, 1) := by decide +kernel
theorem dX12_laysLots_151 : decode cX12_laysLots 151 = .ok (.laload, 1) := by decide +kernel
theorem dX12_laysLots_152 : decode cX12_laysLots 152 = .ok (.goto 4, 3) := by decide +kernel
theorem dX12_laysLots_155 : decode cX12_laysLots 155 = .ok (.lconst 0, 1) := by decide +kernel
theorem dX12_laysLots_156 : decode cX12_laysLots 156 = .ok (.ladd, 1) := by decide +kernel
theorem dX12_laysLots_157 : decode cX12_laysLots 157 = .ok (.lastore, 1) := by decide +kernel
theorem dX12_laysLots_158 : decode cX12_laysLots 158 = .ok (.iinc 3 1, 3) := by decide +kernel
theorem dX12_laysLots_161 : decode cX12_laysLots 161 = .ok (.goto (-101), 3) := by decide +kernel
theorem dX12_laysLots_164 : decode cX12_laysLots 164 = .ok (.iconst 0, 1) := by decide +kernel
theorem dX12_laysLots_165 : decode cX12_laysLots 165 = .ok (.istore_n 3, 1) := by decide +kernel
theorem dX12_laysLots_166 : decode cX12_laysLots 166 = .ok (.iload_n 3, 1) := by decide +kernel
theorem dX12_laysLots_167 : decode cX12_laysLots 167 = .ok (.aload_n 0, 1) := by decide +kernel
theorem dX12_laysLots_168 : decode cX12_laysLots 168 = .ok (.invokevirtual 241, 3) := by decide +kernel
theorem dX12_laysLots_171 : decode cX12_laysLots 171 = .ok (.if_icmp .ge 21, 3) := by decide +kernel
theorem dX12_laysLots_174 : decode cX12_laysLots 174 = .ok (.aload_n 0, 1) := by decide +kernel
theorem dX12_laysLots_175 : decode cX12_laysLots 175 = .ok (.getfield 83, 3) := by decide +kernel
theorem dX12_laysLots_178 : decode cX12_laysLots 178 = .ok (.iload_n 3, 1) := by decide +kernel
theorem dX12_laysLots_179 : decode cX12_laysLots 179 = .ok (.aload_n 0, 1) := by decide +kernel
theorem dX12_laysLots_180 : decode cX12_laysLots 180 = .ok (.getfield 86, 3) := by decide +kernel
theorem dX12_laysLots_183 : decode cX12_laysLots 183 = .ok (.iload_n 3, 1) := by decide +kernel
theorem dX12_laysLots_184 : decode cX12_laysLots 184 = .ok (.laload, 1) := by decide +kernel
theorem dX12_laysLots_185 : decode cX12_laysLots 185 = .ok (.lastore, 1) := by decide +kernel
theorem dX12_laysLots_186 : decode cX12_laysLots 186 = .ok (.iinc 3 1, 3) := by decide +kernel
theorem dX12_laysLots_189 : decode cX12_laysLots 189 = .ok (.goto (-23), 3) := by decide +kernel
theorem dX12_laysLots_192 : decode cX12_laysLots 192 = .ok (.aload_n 0, 1) := by decide +kernel
theorem dX12_laysLots_193 : decode cX12_laysLots 193 = .ok (.dup, 1) := by decide +kernel
theorem dX12_laysLots_194 : decode cX12_laysLots 194 = .ok (.getfield 381, 3) := by decide +kernel
theorem dX12_laysLots_197 : decode cX12_laysLots 197 = .ok (.aload_n 0, 1) := by decide +kernel
theorem dX12_laysLots_198 : decode cX12_laysLots 198 = .ok (.invokevirtual 241, 3) := by decide +kernel
theorem dX12_laysLots_201 : decode cX12_laysLots 201 = .ok (.iconst 1, 1) := by decide +kernel
theorem dX12_laysLots_202 : decode cX12_laysLots 202 = .ok (.isub, 1) := by decide +kernel
theorem dX12_laysLots_203 : decode cX12_laysLots 203 = .ok (.i2l, 1) := by decide +kernel
theorem dX12_laysLots_204 : decode cX12_laysLots 204 = .ok (.lmul, 1) := by decide +kernel
theorem dX12_laysLots_205 : decode cX12_laysLots 205 = .ok (.putfield 381, 3) := by decide +kernel
theorem dX12_laysLots_208 : decode cX12_laysLots 208 = .ok (.iinc 2 1, 3) := by decide +kernel
theorem dX12_laysLots_211 : decode cX12_laysLots 211 = .ok (.goto (-158), 3) := by decide +kernel
theorem dX12_laysLots_214 : decode cX12_laysLots 214 = .ok (.return_, 1) := by decide +kernel
theorem dX12_common_0 : decode cX12_common 0 = .ok (.lload_n 2, 1) := by decide +kernel
theorem dX12_common_1 : decode cX12_common 1 = .ok (.lconst 0, 1) := by decide +kernel
theorem dX12_common_2 : decode cX12_common 2 = .ok (.lcmp, 1) := by decide +kernel
theorem dX12_common_3 : decode cX12_common 3 = .ok (.ifCond .ne 7, 3) := by decide +kernel
theorem dX12_common_6 : decode cX12_common 6 = .ok (.lload_n 0, 1) := by decide +kernel
theorem dX12_common_7 : decode cX12_common 7 = .ok (.goto 10, 3) := by decide +kernel
theorem dX12_common_10 : decode cX12_common 10 = .ok (.lload_n 2, 1) := by decide +kernel
theorem dX12_common_11 : decode cX12_common 11 = .ok (.lload_n 0, 1) := by decide +kernel
theorem dX12_common_12 : decode cX12_common 12 = .ok (.lload_n 2, 1) := by decide +kernel
theorem dX12_common_13 : decode cX12_common 13 = .ok (.lrem, 1) := by decide +kernel
theorem dX12_common_14 : decode cX12_common 14 = .ok (.invokestatic 384, 3) := by decide +kernel
theorem dX12_common_17 : decode cX12_common 17 = .ok (.lreturn, 1) := by decide +kernel
theorem dX12_isLots_0 : decode cX12_isLots 0 = .ok (.aload_n 0, 1) := by decide +kernel
theorem dX12_isLots_1 : decode cX12_isLots 1 = .ok (.invokevirtual 278, 3) := by decide +kernel
theorem dX12_isLots_4 : decode cX12_isLots 4 = .ok (.ifCond .eq 19, 3) := by decide +kernel
theorem dX12_isLots_7 : decode cX12_isLots 7 = .ok (.iload_n 1, 1) := by decide +kernel
theorem dX12_isLots_8 : decode cX12_isLots 8 = .ok (.i2l, 1) := by decide +kernel
theorem dX12_isLots_9 : decode cX12_isLots 9 = .ok (.lconst 0, 1) := by decide +kernel
theorem dX12_isLots_10 : decode cX12_isLots 10 = .ok (.ldc2_w 388, 3) := by decide +kernel
theorem dX12_isLots_13 : decode cX12_isLots 13 = .ok (.invokestatic 94, 3) := by decide +kernel
theorem dX12_isLots_16 : decode cX12_isLots 16 = .ok (.ifCond .eq 7, 3) := by decide +kernel
theorem dX12_isLots_19 : decode cX12_isLots 19 = .ok (.iconst 1, 1) := by decide +kernel
theorem dX12_isLots_20 : decode cX12_isLots 20 = .ok (.goto 4, 3) := by decide +kernel
theorem dX12_isLots_23 : decode cX12_isLots 23 = .ok (.iconst 0, 1) := by decide +kernel
theorem dX12_isLots_24 : decode cX12_isLots 24 = .ok (.ireturn, 1) := by decide +kernel
theorem dX12_chance_0 : decode cX12_chance 0 = .ok (.aload_n 0, 1) := by decide +kernel
theorem dX12_chance_1 : decode cX12_chance 1 = .ok (.iconst 0, 1) := by decide +kernel
theorem dX12_chance_2 : decode cX12_chance 2 = .ok (.putfield 89, 3) := by decide +kernel
theorem dX12_chance_5 : decode cX12_chance 5 = .ok (.aload_n 0, 1) := by decide +kernel
theorem dX12_chance_6 : decode cX12_chance 6 = .ok (.iload_n 1, 1) := by decide +kernel
theorem dX12_chance_7 : decode cX12_chance 7 = .ok (.i2l, 1) := by decide +kernel
theorem dX12_chance_8 : decode cX12_chance 8 = .ok (.invokevirtual 263, 3) := by decide +kernel
theorem dX12_chance_11 : decode cX12_chance 11 = .ok (.ifCond .eq 18, 3) := by decide +kernel
theorem dX12_chance_14 : decode cX12_chance 14 = .ok (.aload_n 0, 1) := by decide +kernel
theorem dX12_chance_15 : decode cX12_chance 15 = .ok (.iload_n 2, 1) := by decide +kernel
theorem dX12_chance_16 : decode cX12_chance 16 = .ok (.invokevirtual 390, 3) := by decide +kernel
theorem dX12_chance_19 : decode cX12_chance 19 = .ok (.ifCond .eq 10, 3) := by decide +kernel
theorem dX12_chance_22 : decode cX12_chance 22 = .ok (.iload_n 3, 1) := by decide +kernel
theorem dX12_chance_23 : decode cX12_chance 23 = .ok (.invokestatic 393, 3) := by decide +kernel
theorem dX12_chance_26 : decode cX12_chance 26 = .ok (.ifCond .ne 7, 3) := by decide +kernel
theorem dX12_chance_29 : decode cX12_chance 29 = .ok (.ldc2_w 396, 3) := by decide +kernel
theorem dX12_chance_32 : decode cX12_chance 32 = .ok (.lreturn, 1) := by decide +kernel
theorem dX12_chance_33 : decode cX12_chance 33 = .ok (.aload_n 0, 1) := by decide +kernel
theorem dX12_chance_34 : decode cX12_chance 34 = .ok (.iload_n 2, 1) := by decide +kernel
theorem dX12_chance_35 : decode cX12_chance 35 = .ok (.invokevirtual 398, 3) := by decide +kernel
theorem dX12_chance_38 : decode cX12_chance 38 = .ok (.iload_n 3, 1) := by decide +kernel
theorem dX12_chance_39 : decode cX12_chance 39 = .ok (.ifCond .ne 12, 3) := by decide +kernel
theorem dX12_chance_42 : decode cX12_chance 42 = .ok (.aload_n 0, 1) := by decide +kernel
theorem dX12_chance_43 : decode cX12_chance 43 = .ok (.getfield 83, 3) := by decide +kernel
theorem dX12_chance_46 : decode cX12_chance 46 = .ok (.iload_n 1, 1) := by decide +kernel
theorem dX12_chance_47 : decode cX12_chance 47 = .ok (.laload, 1) := by decide +kernel
theorem dX12_chance_48 : decode cX12_chance 48 = .ok (.goto 7, 3) := by decide +kernel
theorem dX12_chance_51 : decode cX12_chance 51 = .ok (.aload_n 0, 1) := by decide +kernel
theorem dX12_chance_52 : decode cX12_chance 52 = .ok (.getfield 381, 3) := by decide +kernel
theorem dX12_chance_55 : decode cX12_chance 55 = .ok (.aload_n 0, 1) := by decide +kernel
theorem dX12_chance_56 : decode cX12_chance 56 = .ok (.getfield 83, 3) := by decide +kernel
theorem dX12_chance_59 : decode cX12_chance 59 = .ok (.iload_n 1, 1) := by decide +kernel
theorem dX12_chance_60 : decode cX12_chance 60 = .ok (.laload, 1) := by decide +kernel
theorem dX12_chance_61 : decode cX12_chance 61 = .ok (.aload_n 0, 1) := by decide +kernel
theorem dX12_chance_62 : decode cX12_chance 62 = .ok (.getfield 381, 3) := by decide +kernel
theorem dX12_chance_65 : decode cX12_chance 65 = .ok (.invokestatic 384, 3) := by decide +kernel
theorem dX12_chance_68 : decode cX12_chance 68 = .ok (.ldiv, 1) := by decide +kernel
theorem dX12_chance_69 : decode cX12_chance 69 = .ok (.lreturn, 1) := by decide +kernel
theorem dX12_likely_0 : decode cX12_likely 0 = .ok (.aload_n 0, 1) := by decide +kernel
theorem dX12_likely_1 : decode cX12_likely 1 = .ok (.iconst 0, 1) := by decide +kernel
theorem dX12_likely_2 : decode cX12_likely 2 = .ok (.putfield 89, 3) := by decide +kernel
theorem dX12_likely_5 : decode cX12_likely 5 = .ok (.aload_n 0, 1) := by decide +kernel
theorem dX12_likely_6 : decode cX12_likely 6 = .ok (.iload_n 1, 1) := by decide +kernel
theorem dX12_likely_7 : decode cX12_likely 7 = .ok (.invokevirtual 390, 3) := by decide +kernel
theorem dX12_likely_10 : decode cX12_likely 10 = .ok (.ifCond .ne 6, 3) := by decide +kernel
theorem dX12_likely_13 : decode cX12_likely 13 = .ok (.bipush (-2), 2) := by decide +kernel
theorem dX12_likely_15 : decode cX12_likely 15 = .ok (.ireturn, 1) := by decide +kernel
theorem dX12_likely_16 : decode cX12_likely 16 = .ok (.aload_n 0, 1) := by decide +kernel
theorem dX12_likely_17 : decode cX12_likely 17 = .ok (.iload_n 1, 1) := by decide +kernel
theorem dX12_likely_18 : decode cX12_likely 18 = .ok (.invokevirtual 398, 3) := by decide +kernel
theorem dX12_likely_21 : decode cX12_likely 21 = .ok (.iconst 0, 1) := by decide +kernel
theorem dX12_likely_22 : decode cX12_likely 22 = .ok (.istore_n 2, 1) := by decide +kernel
theorem dX12_likely_23 : decode cX12_likely 23 = .ok (.iconst 1, 1) := by decide +kernel
theorem dX12_likely_24 : decode cX12_likely 24 = .ok (.istore_n 3, 1) := by decide +kernel
theorem dX12_likely_25 : decode cX12_likely 25 = .ok (.iload_n 3, 1) := by decide +kernel
theorem dX12_likely_26 : decode cX12_likely 26 = .ok (.aload_n 0, 1) := by decide +kernel
theorem dX12_likely_27 : decode cX12_likely 27 = .ok (.invokevirtual 241, 3) := by decide +kernel
theorem dX12_likely_30 : decode cX12_likely 30 = .ok (.if_icmp .ge 27, 3) := by decide +kernel
theorem dX12_likely_33 : decode cX12_likely 33 = .ok (.aload_n 0, 1) := by decide +kernel
theorem dX12_likely_34 : decode cX12_likely 34 = .ok (.getfield 83, 3) := by decide +kernel
theorem dX12_likely_37 : decode cX12_likely 37 = .ok (.iload_n 3, 1) := by decide +kernel
theorem dX12_likely_38 : decode cX12_likely 38 = .ok (.laload, 1) := by decide +kernel
theorem dX12_likely_39 : decode cX12_likely 39 = .ok (.aload_n 0, 1) := by decide +kernel
theorem dX12_likely_40 : decode cX12_likely 40 = .ok (.getfield 83, 3) := by decide +kernel
theorem dX12_likely_43 : decode cX12_likely 43 = .ok (.iload_n 2, 1) := by decide +kernel
theorem dX12_likely_44 : decode cX12_likely 44 = .ok (.laload, 1) := by decide +kernel
theorem dX12_likely_45 : decode cX12_likely 45 = .ok (.lcmp, 1) := by decide +kernel
theorem dX12_likely_46 : decode cX12_likely 46 = .ok (.ifCond .le 5, 3) := by decide +kernel
theorem dX12_likely_49 : decode cX12_likely 49 = .ok (.iload_n 3, 1) := by decide +kernel
theorem dX12_likely_50 : decode cX12_likely 50 = .ok (.istore_n 2, 1) := by decide +kernel
theorem dX12_likely_51 : decode cX12_likely 51 = .ok (.iinc 3 1, 3) := by decide +kernel
theorem dX12_likely_54 : decode cX12_likely 54 = .ok (.goto (-29), 3) := by decide +kernel
theorem dX12_likely_57 : decode cX12_likely 57 = .ok (.iload_n 2, 1) := by decide +kernel
theorem dX12_likely_58 : decode cX12_likely 58 = .ok (.ireturn, 1) := by decide +kernel
theorem dX12_isFull_0 : decode cX12_isFull 0 = .ok (.aload_n 0, 1) := by decide +kernel
theorem dX12_isFull_1 : decode cX12_isFull 1 = .ok (.getfield 34, 3) := by decide +kernel
theorem dX12_isFull_4 : decode cX12_isFull 4 = .ok (.iconst 3, 1) := by decide +kernel
theorem dX12_isFull_5 : decode cX12_isFull 5 = .ok (.iaload, 1) := by decide +kernel
theorem dX12_isFull_6 : decode cX12_isFull 6 = .ok (.bipush 40, 2) := by decide +kernel
theorem dX12_isFull_8 : decode cX12_isFull 8 = .ok (.if_icmp .ne 7, 3) := by decide +kernel
theorem dX12_isFull_11 : decode cX12_isFull 11 = .ok (.iconst 1, 1) := by decide +kernel
theorem dX12_isFull_12 : decode cX12_isFull 12 = .ok (.goto 4, 3) := by decide +kernel
theorem dX12_isFull_15 : decode cX12_isFull 15 = .ok (.iconst 0, 1) := by decide +kernel
theorem dX12_isFull_16 : decode cX12_isFull 16 = .ok (.ireturn, 1) := by decide +kernel
theorem dX12_acts_0 : decode cX12_acts 0 = .ok (.aload_n 0, 1) := by decide +kernel
theorem dX12_acts_1 : decode cX12_acts 1 = .ok (.getfield 49, 3) := by decide +kernel
theorem dX12_acts_4 : decode cX12_acts 4 = .ok (.iconst 2, 1) := by decide +kernel
theorem dX12_acts_5 : decode cX12_acts 5 = .ok (.aload_n 0, 1) := by decide +kernel
theorem dX12_acts_6 : decode cX12_acts 6 = .ok (.getfield 34, 3) := by decide +kernel
theorem dX12_acts_9 : decode cX12_acts 9 = .ok (.iconst 3, 1) := by decide +kernel
theorem dX12_acts_10 : decode cX12_acts 10 = .ok (.iaload, 1) := by decide +kernel
theorem dX12_acts_11 : decode cX12_acts 11 = .ok (.imul, 1) := by decide +kernel
theorem dX12_acts_12 : decode cX12_acts 12 = .ok (.iload_n 1, 1) := by decide +kernel
theorem dX12_acts_13 : decode cX12_acts 13 = .ok (.iastore, 1) := by decide +kernel
theorem dX12_acts_14 : decode cX12_acts 14 = .ok (.aload_n 0, 1) := by decide +kernel
theorem dX12_acts_15 : decode cX12_acts 15 = .ok (.getfield 49, 3) := by decide +kernel
theorem dX12_acts_18 : decode cX12_acts 18 = .ok (.iconst 2, 1) := by decide +kernel
theorem dX12_acts_19 : decode cX12_acts 19 = .ok (.aload_n 0, 1) := by decide +kernel
theorem dX12_acts_20 : decode cX12_acts 20 = .ok (.getfield 34, 3) := by decide +kernel
theorem dX12_acts_23 : decode cX12_acts 23 = .ok (.iconst 3, 1) := by decide +kernel
theorem dX12_acts_24 : decode cX12_acts 24 = .ok (.iaload, 1) := by decide +kernel
theorem dX12_acts_25 : decode cX12_acts 25 = .ok (.imul, 1) := by decide +kernel
theorem dX12_acts_26 : decode cX12_acts 26 = .ok (.iconst 1, 1) := by decide +kernel
theorem dX12_acts_27 : decode cX12_acts 27 = .ok (.iadd, 1) := by decide +kernel
theorem dX12_acts_28 : decode cX12_acts 28 = .ok (.iload_n 2, 1) := by decide +kernel
theorem dX12_acts_29 : decode cX12_acts 29 = .ok (.iastore, 1) := by decide +kernel
theorem dX12_acts_30 : decode cX12_acts 30 = .ok (.aload_n 0, 1) := by decide +kernel
theorem dX12_acts_31 : decode cX12_acts 31 = .ok (.getfield 34, 3) := by decide +kernel
theorem dX12_acts_34 : decode cX12_acts 34 = .ok (.iconst 3, 1) := by decide +kernel
theorem dX12_acts_35 : decode cX12_acts 35 = .ok (.dup2, 1) := by decide +kernel
theorem dX12_acts_36 : decode cX12_acts 36 = .ok (.iaload, 1) := by decide +kernel
theorem dX12_acts_37 : decode cX12_acts 37 = .ok (.iconst 1, 1) := by decide +kernel
theorem dX12_acts_38 : decode cX12_acts 38 = .ok (.iadd, 1) := by decide +kernel
theorem dX12_acts_39 : decode cX12_acts 39 = .ok (.iastore, 1) := by decide +kernel
theorem dX12_acts_40 : decode cX12_acts 40 = .ok (.aload_n 0, 1) := by decide +kernel
theorem dX12_acts_41 : decode cX12_acts 41 = .ok (.invokevirtual 266, 3) := by decide +kernel
theorem dX12_acts_44 : decode cX12_acts 44 = .ok (.aload_n 0, 1) := by decide +kernel
theorem dX12_acts_45 : decode cX12_acts 45 = .ok (.invokevirtual 281, 3) := by decide +kernel
theorem dX12_acts_48 : decode cX12_acts 48 = .ok (.invokestatic 284, 3) := by decide +kernel
theorem dX12_acts_51 : decode cX12_acts 51 = .ok (.ireturn, 1) := by decide +kernel
theorem dX12_swap_0 : decode cX12_swap 0 = .ok (.aload_n 0, 1) := by decide +kernel
theorem dX12_swap_1 : decode cX12_swap 1 = .ok (.iconst 0, 1) := by decide +kernel
theorem dX12_swap_2 : decode cX12_swap 2 = .ok (.putfield 89, 3) := by decide +kernel
theorem dX12_swap_5 : decode cX12_swap 5 = .ok (.aload_n 0, 1) := by decide +kernel
theorem dX12_swap_6 : decode cX12_swap 6 = .ok (.iload_n 1, 1) := by decide +kernel
theorem dX12_swap_7 : decode cX12_swap 7 = .ok (.i2l, 1) := by decide +kernel
theorem dX12_swap_8 : decode cX12_swap 8 = .ok (.invokevirtual 263, 3) := by decide +kernel
theorem dX12_swap_11 : decode cX12_swap 11 = .ok (.ifCond .eq 17, 3) := by decide +kernel
theorem dX12_swap_14 : decode cX12_swap 14 = .ok (.aload_n 0, 1) := by decide +kernel
theorem dX12_swap_15 : decode cX12_swap 15 = .ok (.iload_n 2, 1) := by decide +kernel
theorem dX12_swap_16 : decode cX12_swap 16 = .ok (.i2l, 1) := by decide +kernel
theorem dX12_swap_17 : decode cX12_swap 17 = .ok (.invokevirtual 263, 3) := by decide +kernel
theorem dX12_swap_20 : decode cX12_swap 20 = .ok (.ifCond .eq 8, 3) := by decide +kernel
theorem dX12_swap_23 : decode cX12_swap 23 = .ok (.iload_n 1, 1) := by decide +kernel
theorem dX12_swap_24 : decode cX12_swap 24 = .ok (.iload_n 2, 1) := by decide +kernel
theorem dX12_swap_25 : decode cX12_swap 25 = .ok (.if_icmp .ne 6, 3) := by decide +kernel
theorem dX12_swap_28 : decode cX12_swap 28 = .ok (.bipush (-2), 2) := by decide +kernel
theorem dX12_swap_30 : decode cX12_swap 30 = .ok (.ireturn, 1) := by decide +kernel
theorem dX12_swap_31 : decode cX12_swap 31 = .ok (.aload_n 0, 1) := by decide +kernel
theorem dX12_swap_32 : decode cX12_swap 32 = .ok (.invokevirtual 401, 3) := by decide +kernel
theorem dX12_swap_35 : decode cX12_swap 35 = .ok (.ifCond .eq 8, 3) := by decide +kernel
theorem dX12_swap_38 : decode cX12_swap 38 = .ok (.bipush (-5), 2) := by decide +kernel
theorem dX12_swap_40 : decode cX12_swap 40 = .ok (.goto 9, 3) := by decide +kernel
theorem dX12_swap_43 : decode cX12_swap 43 = .ok (.aload_n 0, 1) := by decide +kernel
theorem dX12_swap_44 : decode cX12_swap 44 = .ok (.iload_n 1, 1) := by decide +kernel
theorem dX12_swap_45 : decode cX12_swap 45 = .ok (.iload_n 2, 1) := by decide +kernel
theorem dX12_swap_46 : decode cX12_swap 46 = .ok (.invokevirtual 404, 3) := by decide +kernel
theorem dX12_swap_49 : decode cX12_swap 49 = .ok (.ireturn, 1) := by decide +kernel
theorem dX12_night_0 : decode cX12_night 0 = .ok (.aload_n 0, 1) := by decide +kernel
theorem dX12_night_1 : decode cX12_night 1 = .ok (.iconst 0, 1) := by decide +kernel
theorem dX12_night_2 : decode cX12_night 2 = .ok (.putfield 89, 3) := by decide +kernel
theorem dX12_night_5 : decode cX12_night 5 = .ok (.aload_n 0, 1) := by decide +kernel
theorem dX12_night_6 : decode cX12_night 6 = .ok (.invokevirtual 278, 3) := by decide +kernel
theorem dX12_night_9 : decode cX12_night 9 = .ok (.ifCond .ne 6, 3) := by decide +kernel
theorem dX12_night_12 : decode cX12_night 12 = .ok (.bipush (-2), 2) := by decide +kernel
theorem dX12_night_14 : decode cX12_night 14 = .ok (.ireturn, 1) := by decide +kernel
theorem dX12_night_15 : decode cX12_night 15 = .ok (.aload_n 0, 1) := by decide +kernel
theorem dX12_night_16 : decode cX12_night 16 = .ok (.invokevirtual 401, 3) := by decide +kernel
theorem dX12_night_19 : decode cX12_night 19 = .ok (.ifCond .eq 8, 3) := by decide +kernel
theorem dX12_night_22 : decode cX12_night 22 = .ok (.bipush (-5), 2) := by decide +kernel
theorem dX12_night_24 : decode cX12_night 24 = .ok (.goto 9, 3) := by decide +kernel
theorem dX12_night_27 : decode cX12_night 27 = .ok (.aload_n 0, 1) := by decide +kernel
theorem dX12_night_28 : decode cX12_night 28 = .ok (.iconst (-1), 1) := by decide +kernel
theorem dX12_night_29 : decode cX12_night 29 = .ok (.iconst (-1), 1) := by decide +kernel
theorem dX12_night_30 : decode cX12_night 30 = .ok (.invokevirtual 404, 3) := by decide +kernel
theorem dX12_night_33 : decode cX12_night 33 = .ok (.ireturn, 1) := by decide +kernel
theorem dX12_undo_0 : decode cX12_undo 0 = .ok (.aload_n 0, 1) := by decide +kernel
theorem dX12_undo_1 : decode cX12_undo 1 = .ok (.iconst 0, 1) := by decide +kernel
theorem dX12_undo_2 : decode cX12_undo 2 = .ok (.putfield 89, 3) := by decide +kernel
theorem dX12_undo_5 : decode cX12_undo 5 = .ok (.aload_n 0, 1) := by decide +kernel
theorem dX12_undo_6 : decode cX12_undo 6 = .ok (.invokevirtual 278, 3) := by decide +kernel
theorem dX12_undo_9 : decode cX12_undo 9 = .ok (.ifCond .ne 6, 3) := by decide +kernel
theorem dX12_undo_12 : decode cX12_undo 12 = .ok (.bipush (-2), 2) := by decide +kernel
theorem dX12_undo_14 : decode cX12_undo 14 = .ok (.ireturn, 1) := by decide +kernel
theorem dX12_undo_15 : decode cX12_undo 15 = .ok (.aload_n 0, 1) := by decide +kernel
theorem dX12_undo_16 : decode cX12_undo 16 = .ok (.getfield 34, 3) := by decide +kernel
theorem dX12_undo_19 : decode cX12_undo 19 = .ok (.iconst 3, 1) := by decide +kernel
theorem dX12_undo_20 : decode cX12_undo 20 = .ok (.iaload, 1) := by decide +kernel
theorem dX12_undo_21 : decode cX12_undo 21 = .ok (.ifCond .ne 6, 3) := by decide +kernel
theorem dX12_undo_24 : decode cX12_undo 24 = .ok (.bipush (-5), 2) := by decide +kernel
theorem dX12_undo_26 : decode cX12_undo 26 = .ok (.ireturn, 1) := by decide +kernel
theorem dX12_undo_27 : decode cX12_undo 27 = .ok (.aload_n 0, 1) := by decide +kernel
theorem dX12_undo_28 : decode cX12_undo 28 = .ok (.getfield 34, 3) := by decide +kernel
theorem dX12_undo_31 : decode cX12_undo 31 = .ok (.iconst 3, 1) := by decide +kernel
theorem dX12_undo_32 : decode cX12_undo 32 = .ok (.dup2, 1) := by decide +kernel
theorem dX12_undo_33 : decode cX12_undo 33 = .ok (.iaload, 1) := by decide +kernel
theorem dX12_undo_34 : decode cX12_undo 34 = .ok (.iconst 1, 1) := by decide +kernel
theorem dX12_undo_35 : decode cX12_undo 35 = .ok (.isub, 1) := by decide +kernel
theorem dX12_undo_36 : decode cX12_undo 36 = .ok (.iastore, 1) := by decide +kernel
theorem dX12_undo_37 : decode cX12_undo 37 = .ok (.aload_n 0, 1) := by decide +kernel
theorem dX12_undo_38 : decode cX12_undo 38 = .ok (.getfield 34, 3) := by decide +kernel
theorem dX12_undo_41 : decode cX12_undo 41 = .ok (.iconst 3, 1) := by decide +kernel
theorem dX12_undo_42 : decode cX12_undo 42 = .ok (.iaload, 1) := by decide +kernel
theorem dX12_undo_43 : decode cX12_undo 43 = .ok (.ireturn, 1) := by decide +kernel
theorem dX12_anew_0 : decode cX12_anew 0 = .ok (.aload_n 0, 1) := by decide +kernel
theorem dX12_anew_1 : decode cX12_anew 1 = .ok (.iconst 0, 1) := by decide +kernel
theorem dX12_anew_2 : decode cX12_anew 2 = .ok (.putfield 89, 3) := by decide +kernel
theorem dX12_anew_5 : decode cX12_anew 5 = .ok (.aload_n 0, 1) := by decide +kernel
theorem dX12_anew_6 : decode cX12_anew 6 = .ok (.invokevirtual 278, 3) := by decide +kernel
theorem dX12_anew_9 : decode cX12_anew 9 = .ok (.ifCond .ne 6, 3) := by decide +kernel
theorem dX12_anew_12 : decode cX12_anew 12 = .ok (.bipush (-2), 2) := by decide +kernel
theorem dX12_anew_14 : decode cX12_anew 14 = .ok (.ireturn, 1) := by decide +kernel
theorem dX12_anew_15 : decode cX12_anew 15 = .ok (.aload_n 0, 1) := by decide +kernel
theorem dX12_anew_16 : decode cX12_anew 16 = .ok (.getfield 34, 3) := by decide +kernel
theorem dX12_anew_19 : decode cX12_anew 19 = .ok (.iconst 3, 1) := by decide +kernel
theorem dX12_anew_20 : decode cX12_anew 20 = .ok (.iaload, 1) := by decide +kernel
theorem dX12_anew_21 : decode cX12_anew 21 = .ok (.istore_n 1, 1) := by decide +kernel
theorem dX12_anew_22 : decode cX12_anew 22 = .ok (.aload_n 0, 1) := by decide +kernel
theorem dX12_anew_23 : decode cX12_anew 23 = .ok (.getfield 34, 3) := by decide +kernel
theorem dX12_anew_26 : decode cX12_anew 26 = .ok (.iconst 3, 1) := by decide +kernel
theorem dX12_anew_27 : decode cX12_anew 27 = .ok (.iconst 0, 1) := by decide +kernel
theorem dX12_anew_28 : decode cX12_anew 28 = .ok (.iastore, 1) := by decide +kernel
theorem dX12_anew_29 : decode cX12_anew 29 = .ok (.iload_n 1, 1) := by decide +kernel
theorem dX12_anew_30 : decode cX12_anew 30 = .ok (.ireturn, 1) := by decide +kernel
theorem dX12_nights_0 : decode cX12_nights 0 = .ok (.aload_n 0, 1) := by decide +kernel
theorem dX12_nights_1 : decode cX12_nights 1 = .ok (.iconst 0, 1) := by decide +kernel
theorem dX12_nights_2 : decode cX12_nights 2 = .ok (.putfield 89, 3) := by decide +kernel
theorem dX12_nights_5 : decode cX12_nights 5 = .ok (.aload_n 0, 1) := by decide +kernel
theorem dX12_nights_6 : decode cX12_nights 6 = .ok (.invokevirtual 278, 3) := by decide +kernel
theorem dX12_nights_9 : decode cX12_nights 9 = .ok (.ifCond .ne 6, 3) := by decide +kernel
theorem dX12_nights_12 : decode cX12_nights 12 = .ok (.bipush (-2), 2) := by decide +kernel
theorem dX12_nights_14 : decode cX12_nights 14 = .ok (.ireturn, 1) := by decide +kernel
theorem dX12_nights_15 : decode cX12_nights 15 = .ok (.aload_n 0, 1) := by decide +kernel
theorem dX12_nights_16 : decode cX12_nights 16 = .ok (.invokevirtual 266, 3) := by decide +kernel
theorem dX12_nights_19 : decode cX12_nights 19 = .ok (.aload_n 0, 1) := by decide +kernel
theorem dX12_nights_20 : decode cX12_nights 20 = .ok (.getfield 255, 3) := by decide +kernel
theorem dX12_nights_23 : decode cX12_nights 23 = .ok (.ireturn, 1) := by decide +kernel
theorem dX12_draws_0 : decode cX12_draws 0 = .ok (.aload_n 0, 1) := by decide +kernel
theorem dX12_draws_1 : decode cX12_draws 1 = .ok (.invokevirtual 266, 3) := by decide +kernel
theorem dX12_draws_4 : decode cX12_draws 4 = .ok (.lload_n 1, 1) := by decide +kernel
theorem dX12_draws_5 : decode cX12_draws 5 = .ok (.lstore 4, 2) := by decide +kernel
theorem dX12_draws_7 : decode cX12_draws 7 = .ok (.iconst 0, 1) := by decide +kernel
theorem dX12_draws_8 : decode cX12_draws 8 = .ok (.istore 6, 2) := by decide +kernel
theorem dX12_draws_10 : decode cX12_draws 10 = .ok (.iload 6, 2) := by decide +kernel
theorem dX12_draws_12 : decode cX12_draws 12 = .ok (.iload_n 3, 1) := by decide +kernel
theorem dX12_draws_13 : decode cX12_draws 13 = .ok (.if_icmp .ge 55, 3) := by decide +kernel
theorem dX12_draws_16 : decode cX12_draws 16 = .ok (.ldc2_w 407, 3) := by decide +kernel
theorem dX12_draws_19 : decode cX12_draws 19 = .ok (.lload 4, 2) := by decide +kernel
theorem dX12_draws_21 : decode cX12_draws 21 = .ok (.lmul, 1) := by decide +kernel
theorem dX12_draws_22 : decode cX12_draws 22 = .ok (.ldc2_w 409, 3) := by decide +kernel
theorem dX12_draws_25 : decode cX12_draws 25 = .ok (.ladd, 1) := by decide +kernel
theorem dX12_draws_26 : decode cX12_draws 26 = .ok (.ldc2_w 411, 3) := by decide +kernel
theorem dX12_draws_29 : decode cX12_draws 29 = .ok (.lrem, 1) := by decide +kernel
theorem dX12_draws_30 : decode cX12_draws 30 = .ok (.lstore 4, 2) := by decide +kernel
theorem dX12_draws_32 : decode cX12_draws 32 = .ok (.lload 4, 2) := by decide +kernel
theorem dX12_draws_34 : decode cX12_draws 34 = .ok (.ldc2_w 413, 3) := by decide +kernel
theorem dX12_draws_37 : decode cX12_draws 37 = .ok (.ldiv, 1) := by decide +kernel
theorem dX12_draws_38 : decode cX12_draws 38 = .ok (.aload_n 0, 1) := by decide +kernel
theorem dX12_draws_39 : decode cX12_draws 39 = .ok (.invokevirtual 241, 3) := by decide +kernel
theorem dX12_draws_42 : decode cX12_draws 42 = .ok (.iconst 1, 1) := by decide +kernel
theorem dX12_draws_43 : decode cX12_draws 43 = .ok (.isub, 1) := by decide +kernel
theorem dX12_draws_44 : decode cX12_draws 44 = .ok (.i2l, 1) := by decide +kernel
theorem dX12_draws_45 : decode cX12_draws 45 = .ok (.lrem, 1) := by decide +kernel
theorem dX12_draws_46 : decode cX12_draws 46 = .ok (.l2i, 1) := by decide +kernel
theorem dX12_draws_47 : decode cX12_draws 47 = .ok (.istore 7, 2) := by decide +kernel
theorem dX12_draws_49 : decode cX12_draws 49 = .ok (.aload_n 0, 1) := by decide +kernel
theorem dX12_draws_50 : decode cX12_draws 50 = .ok (.getfield 59, 3) := by decide +kernel
theorem dX12_draws_53 : decode cX12_draws 53 = .ok (.iload 7, 2) := by decide +kernel
theorem dX12_draws_55 : decode cX12_draws 55 = .ok (.iload 7, 2) := by decide +kernel
theorem dX12_draws_57 : decode cX12_draws 57 = .ok (.iconst 1, 1) := by decide +kernel
theorem dX12_draws_58 : decode cX12_draws 58 = .ok (.iadd, 1) := by decide +kernel
theorem dX12_draws_59 : decode cX12_draws 59 = .ok (.invokestatic 251, 3) := by decide +kernel
theorem dX12_draws_62 : decode cX12_draws 62 = .ok (.iinc 6 1, 3) := by decide +kernel
theorem dX12_draws_65 : decode cX12_draws 65 = .ok (.goto (-55), 3) := by decide +kernel
theorem dX12_draws_68 : decode cX12_draws 68 = .ok (.return_, 1) := by decide +kernel
theorem dX12_isDraw_0 : decode cX12_isDraw 0 = .ok (.iload_n 1, 1) := by decide +kernel
theorem dX12_isDraw_1 : decode cX12_isDraw 1 = .ok (.i2l, 1) := by decide +kernel
theorem dX12_isDraw_2 : decode cX12_isDraw 2 = .ok (.lconst 0, 1) := by decide +kernel
theorem dX12_isDraw_3 : decode cX12_isDraw 3 = .ok (.ldc2_w 415, 3) := by decide +kernel
theorem dX12_isDraw_6 : decode cX12_isDraw 6 = .ok (.invokestatic 94, 3) := by decide +kernel
theorem dX12_isDraw_9 : decode cX12_isDraw 9 = .ok (.ifCond .eq 28, 3) := by decide +kernel
theorem dX12_isDraw_12 : decode cX12_isDraw 12 = .ok (.iload_n 2, 1) := by decide +kernel
theorem dX12_isDraw_13 : decode cX12_isDraw 13 = .ok (.i2l, 1) := by decide +kernel
theorem dX12_isDraw_14 : decode cX12_isDraw 14 = .ok (.lconst 0, 1) := by decide +kernel
theorem dX12_isDraw_15 : decode cX12_isDraw 15 = .ok (.ldc2_w 417, 3) := by decide +kernel
theorem dX12_isDraw_18 : decode cX12_isDraw 18 = .ok (.invokestatic 94, 3) := by decide +kernel
theorem dX12_isDraw_21 : decode cX12_isDraw 21 = .ok (.ifCond .eq 16, 3) := by decide +kernel
theorem dX12_isDraw_24 : decode cX12_isDraw 24 = .ok (.aload_n 0, 1) := by decide +kernel
theorem dX12_isDraw_25 : decode cX12_isDraw 25 = .ok (.iload_n 3, 1) := by decide +kernel
theorem dX12_isDraw_26 : decode cX12_isDraw 26 = .ok (.i2l, 1) := by decide +kernel
theorem dX12_isDraw_27 : decode cX12_isDraw 27 = .ok (.invokevirtual 263, 3) := by decide +kernel
theorem dX12_isDraw_30 : decode cX12_isDraw 30 = .ok (.ifCond .eq 7, 3) := by decide +kernel
theorem dX12_isDraw_33 : decode cX12_isDraw 33 = .ok (.iconst 1, 1) := by decide +kernel
theorem dX12_isDraw_34 : decode cX12_isDraw 34 = .ok (.goto 4, 3) := by decide +kernel
theorem dX12_isDraw_37 : decode cX12_isDraw 37 = .ok (.iconst 0, 1) := by decide +kernel
theorem dX12_isDraw_38 : decode cX12_isDraw 38 = .ok (.ireturn, 1) := by decide +kernel
theorem dX12_drawn_0 : decode cX12_drawn 0 = .ok (.aload_n 0, 1) := by decide +kernel
theorem dX12_drawn_1 : decode cX12_drawn 1 = .ok (.iconst 0, 1) := by decide +kernel
theorem dX12_drawn_2 : decode cX12_drawn 2 = .ok (.putfield 89, 3) := by decide +kernel
theorem dX12_drawn_5 : decode cX12_drawn 5 = .ok (.aload_n 0, 1) := by decide +kernel
theorem dX12_drawn_6 : decode cX12_drawn 6 = .ok (.iload_n 1, 1) := by decide +kernel
theorem dX12_drawn_7 : decode cX12_drawn 7 = .ok (.iload_n 2, 1) := by decide +kernel
theorem dX12_drawn_8 : decode cX12_drawn 8 = .ok (.iload_n 3, 1) := by decide +kernel
theorem dX12_drawn_9 : decode cX12_drawn 9 = .ok (.invokevirtual 419, 3) := by decide +kernel
theorem dX12_drawn_12 : decode cX12_drawn 12 = .ok (.ifCond .ne 6, 3) := by decide +kernel
theorem dX12_drawn_15 : decode cX12_drawn 15 = .ok (.bipush (-2), 2) := by decide +kernel
theorem dX12_drawn_17 : decode cX12_drawn 17 = .ok (.ireturn, 1) := by decide +kernel
theorem dX12_drawn_18 : decode cX12_drawn 18 = .ok (.aload_n 0, 1) := by decide +kernel
theorem dX12_drawn_19 : decode cX12_drawn 19 = .ok (.iload_n 1, 1) := by decide +kernel
theorem dX12_drawn_20 : decode cX12_drawn 20 = .ok (.i2l, 1) := by decide +kernel
theorem dX12_drawn_21 : decode cX12_drawn 21 = .ok (.iload_n 2, 1) := by decide +kernel
theorem dX12_drawn_22 : decode cX12_drawn 22 = .ok (.invokevirtual 422, 3) := by decide +kernel
theorem dX12_drawn_25 : decode cX12_drawn 25 = .ok (.aload_n 0, 1) := by decide +kernel
theorem dX12_drawn_26 : decode cX12_drawn 26 = .ok (.iload_n 3, 1) := by decide +kernel
theorem dX12_drawn_27 : decode cX12_drawn 27 = .ok (.invokevirtual 269, 3) := by decide +kernel
theorem dX12_drawn_30 : decode cX12_drawn 30 = .ok (.ireturn, 1) := by decide +kernel
theorem dX12_luck_0 : decode cX12_luck 0 = .ok (.aload_n 0, 1) := by decide +kernel
theorem dX12_luck_1 : decode cX12_luck 1 = .ok (.iconst 0, 1) := by decide +kernel
theorem dX12_luck_2 : decode cX12_luck 2 = .ok (.putfield 89, 3) := by decide +kernel
theorem dX12_luck_5 : decode cX12_luck 5 = .ok (.aload_n 0, 1) := by decide +kernel
theorem dX12_luck_6 : decode cX12_luck 6 = .ok (.iload_n 1, 1) := by decide +kernel
theorem dX12_luck_7 : decode cX12_luck 7 = .ok (.iload_n 3, 1) := by decide +kernel
theorem dX12_luck_8 : decode cX12_luck 8 = .ok (.iload 4, 2) := by decide +kernel
theorem dX12_luck_10 : decode cX12_luck 10 = .ok (.invokevirtual 419, 3) := by decide +kernel
theorem dX12_luck_13 : decode cX12_luck 13 = .ok (.ifCond .eq 15, 3) := by decide +kernel
theorem dX12_luck_16 : decode cX12_luck 16 = .ok (.iload_n 2, 1) := by decide +kernel
theorem dX12_luck_17 : decode cX12_luck 17 = .ok (.i2l, 1) := by decide +kernel
theorem dX12_luck_18 : decode cX12_luck 18 = .ok (.lconst 1, 1) := by decide +kernel
theorem dX12_luck_19 : decode cX12_luck 19 = .ok (.ldc2_w 426, 3) := by decide +kernel
theorem dX12_luck_22 : decode cX12_luck 22 = .ok (.invokestatic 94, 3) := by decide +kernel
theorem dX12_luck_25 : decode cX12_luck 25 = .ok (.ifCond .ne 6, 3) := by decide +kernel
theorem dX12_luck_28 : decode cX12_luck 28 = .ok (.bipush (-2), 2) := by decide +kernel
theorem dX12_luck_30 : decode cX12_luck 30 = .ok (.ireturn, 1) := by decide +kernel
theorem dX12_luck_31 : decode cX12_luck 31 = .ok (.iconst 0, 1) := by decide +kernel
theorem dX12_luck_32 : decode cX12_luck 32 = .ok (.istore 5, 2) := by decide +kernel
theorem dX12_luck_34 : decode cX12_luck 34 = .ok (.iconst 0, 1) := by decide +kernel
theorem dX12_luck_35 : decode cX12_luck 35 = .ok (.istore 6, 2) := by decide +kernel
theorem dX12_luck_37 : decode cX12_luck 37 = .ok (.iload 6, 2) := by decide +kernel
theorem dX12_luck_39 : decode cX12_luck 39 = .ok (.iload_n 2, 1) := by decide +kernel
theorem dX12_luck_40 : decode cX12_luck 40 = .ok (.if_icmp .ge 42, 3) := by decide +kernel
theorem dX12_luck_43 : decode cX12_luck 43 = .ok (.aload_n 0, 1) := by decide +kernel
theorem dX12_luck_44 : decode cX12_luck 44 = .ok (.iload_n 1, 1) := by decide +kernel
theorem dX12_luck_45 : decode cX12_luck 45 = .ok (.i2l, 1) := by decide +kernel
theorem dX12_luck_46 : decode cX12_luck 46 = .ok (.iload 6, 2) := by decide +kernel
theorem dX12_luck_48 : decode cX12_luck 48 = .ok (.i2l, 1) := by decide +kernel
theorem dX12_luck_49 : decode cX12_luck 49 = .ok (.ladd, 1) := by decide +kernel
theorem dX12_luck_50 : decode cX12_luck 50 = .ok (.iload_n 3, 1) := by decide +kernel
theorem dX12_luck_51 : decode cX12_luck 51 = .ok (.invokevirtual 422, 3) := by decide +kernel
theorem dX12_luck_54 : decode cX12_luck 54 = .ok (.iload 5, 2) := by decide +kernel
theorem dX12_luck_56 : decode cX12_luck 56 = .ok (.aload_n 0, 1) := by decide +kernel
theorem dX12_luck_57 : decode cX12_luck 57 = .ok (.getfield 59, 3) := by decide +kernel
theorem dX12_luck_60 : decode cX12_luck 60 = .ok (.iload 4, 2) := by decide +kernel
theorem dX12_luck_62 : decode cX12_luck 62 = .ok (.iaload, 1) := by decide +kernel
theorem dX12_luck_63 : decode cX12_luck 63 = .ok (.iload 4, 2) := by decide +kernel
theorem dX12_luck_65 : decode cX12_luck 65 = .ok (.if_icmp .ne 7, 3) := by decide +kernel
theorem dX12_luck_68 : decode cX12_luck 68 = .ok (.iconst 1, 1) := by decide +kernel
theorem dX12_luck_69 : decode cX12_luck 69 = .ok (.goto 4, 3) := by decide +kernel
theorem dX12_luck_72 : decode cX12_luck 72 = .ok (.iconst 0, 1) := by decide +kernel
theorem dX12_luck_73 : decode cX12_luck 73 = .ok (.iadd, 1) := by decide +kernel
theorem dX12_luck_74 : decode cX12_luck 74 = .ok (.istore 5, 2) := by decide +kernel
theorem dX12_luck_76 : decode cX12_luck 76 = .ok (.iinc 6 1, 3) := by decide +kernel
theorem dX12_luck_79 : decode cX12_luck 79 = .ok (.goto (-42), 3) := by decide +kernel
theorem dX12_luck_82 : decode cX12_luck 82 = .ok (.iload 5, 2) := by decide +kernel
theorem dX12_luck_84 : decode cX12_luck 84 = .ok (.ireturn, 1) := by decide +kernel
theorem dX12_tell_0 : decode cX12_tell 0 = .ok (.aload_n 0, 1) := by decide +kernel
theorem dX12_tell_1 : decode cX12_tell 1 = .ok (.iconst 0, 1) := by decide +kernel
theorem dX12_tell_2 : decode cX12_tell 2 = .ok (.putfield 89, 3) := by decide +kernel
theorem dX12_tell_5 : decode cX12_tell 5 = .ok (.aload_n 0, 1) := by decide +kernel
theorem dX12_tell_6 : decode cX12_tell 6 = .ok (.iload_n 1, 1) := by decide +kernel
theorem dX12_tell_7 : decode cX12_tell 7 = .ok (.i2l, 1) := by decide +kernel
theorem dX12_tell_8 : decode cX12_tell 8 = .ok (.invokevirtual 263, 3) := by decide +kernel
theorem dX12_tell_11 : decode cX12_tell 11 = .ok (.ifCond .eq 24, 3) := by decide +kernel
theorem dX12_tell_14 : decode cX12_tell 14 = .ok (.aload_n 0, 1) := by decide +kernel
theorem dX12_tell_15 : decode cX12_tell 15 = .ok (.iload_n 2, 1) := by decide +kernel
theorem dX12_tell_16 : decode cX12_tell 16 = .ok (.i2l, 1) := by decide +kernel
theorem dX12_tell_17 : decode cX12_tell 17 = .ok (.invokevirtual 263, 3) := by decide +kernel
theorem dX12_tell_20 : decode cX12_tell 20 = .ok (.ifCond .eq 15, 3) := by decide +kernel
theorem dX12_tell_23 : decode cX12_tell 23 = .ok (.iload_n 3, 1) := by decide +kernel
theorem dX12_tell_24 : decode cX12_tell 24 = .ok (.i2l, 1) := by decide +kernel
theorem dX12_tell_25 : decode cX12_tell 25 = .ok (.lconst 0, 1) := by decide +kernel
theorem dX12_tell_26 : decode cX12_tell 26 = .ok (.ldc2_w 428, 3) := by decide +kernel
theorem dX12_tell_29 : decode cX12_tell 29 = .ok (.invokestatic 94, 3) := by decide +kernel
theorem dX12_tell_32 : decode cX12_tell 32 = .ok (.ifCond .ne 6, 3) := by decide +kernel
theorem dX12_tell_35 : decode cX12_tell 35 = .ok (.bipush (-2), 2) := by decide +kernel
theorem dX12_tell_37 : decode cX12_tell 37 = .ok (.ireturn, 1) := by decide +kernel
theorem dX12_tell_38 : decode cX12_tell 38 = .ok (.aload_n 0, 1) := by decide +kernel
theorem dX12_tell_39 : decode cX12_tell 39 = .ok (.getfield 34, 3) := by decide +kernel
theorem dX12_tell_42 : decode cX12_tell 42 = .ok (.iconst 3, 1) := by decide +kernel
theorem dX12_tell_43 : decode cX12_tell 43 = .ok (.iaload, 1) := by decide +kernel
theorem dX12_tell_44 : decode cX12_tell 44 = .ok (.ifCond .le 6, 3) := by decide +kernel
theorem dX12_tell_47 : decode cX12_tell 47 = .ok (.bipush (-5), 2) := by decide +kernel
theorem dX12_tell_49 : decode cX12_tell 49 = .ok (.ireturn, 1) := by decide +kernel
theorem dX12_tell_50 : decode cX12_tell 50 = .ok (.aload_n 0, 1) := by decide +kernel
theorem dX12_tell_51 : decode cX12_tell 51 = .ok (.getfield 43, 3) := by decide +kernel
theorem dX12_tell_54 : decode cX12_tell 54 = .ok (.bipush 7, 2) := by decide +kernel
theorem dX12_tell_56 : decode cX12_tell 56 = .ok (.iload_n 1, 1) := by decide +kernel
theorem dX12_tell_57 : decode cX12_tell 57 = .ok (.imul, 1) := by decide +kernel
theorem dX12_tell_58 : decode cX12_tell 58 = .ok (.iload_n 2, 1) := by decide +kernel
theorem dX12_tell_59 : decode cX12_tell 59 = .ok (.iadd, 1) := by decide +kernel
theorem dX12_tell_60 : decode cX12_tell 60 = .ok (.iaload, 1) := by decide +kernel
theorem dX12_tell_61 : decode cX12_tell 61 = .ok (.istore 4, 2) := by decide +kernel
theorem dX12_tell_63 : decode cX12_tell 63 = .ok (.aload_n 0, 1) := by decide +kernel
theorem dX12_tell_64 : decode cX12_tell 64 = .ok (.getfield 43, 3) := by decide +kernel
theorem dX12_tell_67 : decode cX12_tell 67 = .ok (.bipush 7, 2) := by decide +kernel
theorem dX12_tell_69 : decode cX12_tell 69 = .ok (.iload_n 1, 1) := by decide +kernel
theorem dX12_tell_70 : decode cX12_tell 70 = .ok (.imul, 1) := by decide +kernel
theorem dX12_tell_71 : decode cX12_tell 71 = .ok (.iload_n 2, 1) := by decide +kernel
theorem dX12_tell_72 : decode cX12_tell 72 = .ok (.iadd, 1) := by decide +kernel
theorem dX12_tell_73 : decode cX12_tell 73 = .ok (.iload_n 3, 1) := by decide +kernel
theorem dX12_tell_74 : decode cX12_tell 74 = .ok (.iastore, 1) := by decide +kernel
theorem dX12_tell_75 : decode cX12_tell 75 = .ok (.iload 4, 2) := by decide +kernel
theorem dX12_tell_77 : decode cX12_tell 77 = .ok (.ireturn, 1) := by decide +kernel
theorem dX12_count_0 : decode cX12_count 0 = .ok (.aload_n 0, 1) := by decide +kernel
theorem dX12_count_1 : decode cX12_count 1 = .ok (.iconst 0, 1) := by decide +kernel
theorem dX12_count_2 : decode cX12_count 2 = .ok (.putfield 89, 3) := by decide +kernel
theorem dX12_count_5 : decode cX12_count 5 = .ok (.iconst 0, 1) := by decide +kernel
theorem dX12_count_6 : decode cX12_count 6 = .ok (.istore_n 2, 1) := by decide +kernel
theorem dX12_count_7 : decode cX12_count 7 = .ok (.iload_n 1, 1) := by decide +kernel
theorem dX12_count_8 : decode cX12_count 8 = .ok (.tableswitch 149 0 6 #[44, 51, 58, 97, 104, 111, 116], 44) := by decide +kernel
theorem dX12_count_52 : decode cX12_count 52 = .ok (.aload_n 0, 1) := by decide +kernel
theorem dX12_count_53 : decode cX12_count 53 = .ok (.getfield 34, 3) := by decide +kernel
theorem dX12_count_56 : decode cX12_count 56 = .ok (.iconst 0, 1) := by decide +kernel
theorem dX12_count_57 : decode cX12_count 57 = .ok (.iaload, 1) := by decide +kernel
theorem dX12_count_58 : decode cX12_count 58 = .ok (.ireturn, 1) := by decide +kernel
theorem dX12_count_59 : decode cX12_count 59 = .ok (.aload_n 0, 1) := by decide +kernel
theorem dX12_count_60 : decode cX12_count 60 = .ok (.getfield 34, 3) := by decide +kernel
theorem dX12_count_63 : decode cX12_count 63 = .ok (.iconst 1, 1) := by decide +kernel
theorem dX12_count_64 : decode cX12_count 64 = .ok (.iaload, 1) := by decide +kernel
theorem dX12_count_65 : decode cX12_count 65 = .ok (.ireturn, 1) := by decide +kernel
theorem dX12_count_66 : decode cX12_count 66 = .ok (.aload_n 0, 1) := by decide +kernel
theorem dX12_count_67 : decode cX12_count 67 = .ok (.invokevirtual 278, 3) := by decide +kernel
theorem dX12_count_70 : decode cX12_count 70 = .ok (.ifCond .eq 31, 3) := by decide +kernel
theorem dX12_count_73 : decode cX12_count 73 = .ok (.iconst 0, 1) := by decide +kernel
theorem dX12_count_74 : decode cX12_count 74 = .ok (.istore_n 3, 1) := by decide +kernel
theorem dX12_count_75 : decode cX12_count 75 = .ok (.iload_n 3, 1) := by decide +kernel
theorem dX12_count_76 : decode cX12_count 76 = .ok (.aload_n 0, 1) := by decide +kernel
theorem dX12_count_77 : decode cX12_count 77 = .ok (.invokevirtual 241, 3) := by decide +kernel
theorem dX12_count_80 : decode cX12_count 80 = .ok (.if_icmp .ge 21, 3) := by decide +kernel
theorem dX12_count_83 : decode cX12_count 83 = .ok (.iload_n 2, 1) := by decide +kernel
theorem dX12_count_84 : decode cX12_count 84 = .ok (.aload_n 0, 1) := by decide +kernel
theorem dX12_count_85 : decode cX12_count 85 = .ok (.getfield 46, 3) := by decide +kernel
theorem dX12_count_88 : decode cX12_count 88 = .ok (.iload_n 3, 1) := by decide +kernel
theorem dX12_count_89 : decode cX12_count 89 = .ok (.iaload, 1) := by decide +kernel
theorem dX12_count_90 : decode cX12_count 90 = .ok (.invokestatic 284, 3) := by decide +kernel
theorem dX12_count_93 : decode cX12_count 93 = .ok (.iadd, 1) := by decide +kernel
theorem dX12_count_94 : decode cX12_count 94 = .ok (.istore_n 2, 1) := by decide +kernel
theorem dX12_count_95 : decode cX12_count 95 = .ok (.iinc 3 1, 3) := by decide +kernel
theorem dX12_count_98 : decode cX12_count 98 = .ok (.goto (-23), 3) := by decide +kernel
theorem dX12_count_101 : decode cX12_count 101 = .ok (.iload_n 2, 1) := by decide +kernel
theorem dX12_count_102 : decode cX12_count 102 = .ok (.iconst 2, 1) := by decide +kernel
theorem dX12_count_103 : decode cX12_count 103 = .ok (.idiv, 1) := by decide +kernel
theorem dX12_count_104 : decode cX12_count 104 = .ok (.ireturn, 1) := by decide +kernel
theorem dX12_count_105 : decode cX12_count 105 = .ok (.aload_n 0, 1) := by decide +kernel
theorem dX12_count_106 : decode cX12_count 106 = .ok (.getfield 34, 3) := by decide +kernel
theorem dX12_count_109 : decode cX12_count 109 = .ok (.iconst 3, 1) := by decide +kernel
theorem dX12_count_110 : decode cX12_count 110 = .ok (.iaload, 1) := by decide +kernel
theorem dX12_count_111 : decode cX12_count 111 = .ok (.ireturn, 1) := by decide +kernel
theorem dX12_count_112 : decode cX12_count 112 = .ok (.aload_n 0, 1) := by decide +kernel
theorem dX12_count_113 : decode cX12_count 113 = .ok (.getfield 31, 3) := by decide +kernel
theorem dX12_count_116 : decode cX12_count 116 = .ok (.iconst 0, 1) := by decide +kernel
theorem dX12_count_117 : decode cX12_count 117 = .ok (.iaload, 1) := by decide +kernel
theorem dX12_count_118 : decode cX12_count 118 = .ok (.ireturn, 1) := by decide +kernel
theorem dX12_count_119 : decode cX12_count 119 = .ok (.aload_n 0, 1) := by decide +kernel
theorem dX12_count_120 : decode cX12_count 120 = .ok (.getfield 106, 3) := by decide +kernel
theorem dX12_count_123 : decode cX12_count 123 = .ok (.ireturn, 1) := by decide +kernel
theorem dX12_count_124 : decode cX12_count 124 = .ok (.iconst 0, 1) := by decide +kernel
theorem dX12_count_125 : decode cX12_count 125 = .ok (.istore_n 3, 1) := by decide +kernel
theorem dX12_count_126 : decode cX12_count 126 = .ok (.iload_n 3, 1) := by decide +kernel
theorem dX12_count_127 : decode cX12_count 127 = .ok (.iconst 4, 1) := by decide +kernel
theorem dX12_count_128 : decode cX12_count 128 = .ok (.if_icmp .ge 27, 3) := by decide +kernel
theorem dX12_count_131 : decode cX12_count 131 = .ok (.iload_n 2, 1) := by decide +kernel
theorem dX12_count_132 : decode cX12_count 132 = .ok (.aload_n 0, 1) := by decide +kernel
theorem dX12_count_133 : decode cX12_count 133 = .ok (.getfield 7, 3) := by decide +kernel
theorem dX12_count_136 : decode cX12_count 136 = .ok (.iload_n 3, 1) := by decide +kernel
theorem dX12_count_137 : decode cX12_count 137 = .ok (.iaload, 1) := by decide +kernel
theorem dX12_count_138 : decode cX12_count 138 = .ok (.iconst (-1), 1) := by decide +kernel
theorem dX12_count_139 : decode cX12_count 139 = .ok (.if_icmp .ne 7, 3) := by decide +kernel
theorem dX12_count_142 : decode cX12_count 142 = .ok (.iconst 0, 1) := by decide +kernel
theorem dX12_count_143 : decode cX12_count 143 = .ok (.goto 4, 3) := by decide +kernel
theorem dX12_count_146 : decode cX12_count 146 = .ok (.iconst 1, 1) := by decide +kernel
theorem dX12_count_147 : decode cX12_count 147 = .ok (.iadd, 1) := by decide +kernel
theorem dX12_count_148 : decode cX12_count 148 = .ok (.istore_n 2, 1) := by decide +kernel
theorem dX12_count_149 : decode cX12_count 149 = .ok (.iinc 3 1, 3) := by decide +kernel
theorem dX12_count_152 : decode cX12_count 152 = .ok (.goto (-26), 3) := by decide +kernel
theorem dX12_count_155 : decode cX12_count 155 = .ok (.iload_n 2, 1) := by decide +kernel
theorem dX12_count_156 : decode cX12_count 156 = .ok (.ireturn, 1) := by decide +kernel
theorem dX12_count_157 : decode cX12_count 157 = .ok (.iconst (-1), 1) := by decide +kernel
theorem dX12_count_158 : decode cX12_count 158 = .ok (.ireturn, 1) := by decide +kernel
theorem dX12_image_0 : decode cX12_image 0 = .ok (.aload_n 0, 1) := by decide +kernel
theorem dX12_image_1 : decode cX12_image 1 = .ok (.iconst 0, 1) := by decide +kernel
theorem dX12_image_2 : decode cX12_image 2 = .ok (.putfield 89, 3) := by decide +kernel
theorem dX12_image_5 : decode cX12_image 5 = .ok (.iload_n 1, 1) := by decide +kernel
theorem dX12_image_6 : decode cX12_image 6 = .ok (.i2l, 1) := by decide +kernel
theorem dX12_image_7 : decode cX12_image 7 = .ok (.lconst 0, 1) := by decide +kernel
theorem dX12_image_8 : decode cX12_image 8 = .ok (.ldc2_w 430, 3) := by decide +kernel
theorem dX12_image_11 : decode cX12_image 11 = .ok (.invokestatic 94, 3) := by decide +kernel
theorem dX12_image_14 : decode cX12_image 14 = .ok (.ifCond .ne 6, 3) := by decide +kernel
theorem dX12_image_17 : decode cX12_image 17 = .ok (.bipush (-2), 2) := by decide +kernel
theorem dX12_image_19 : decode cX12_image 19 = .ok (.ireturn, 1) := by decide +kernel
theorem dX12_image_20 : decode cX12_image 20 = .ok (.aload_n 0, 1) := by decide +kernel
theorem dX12_image_21 : decode cX12_image 21 = .ok (.iconst 0, 1) := by decide +kernel
theorem dX12_image_22 : decode cX12_image 22 = .ok (.iconst 1, 1) := by decide +kernel
theorem dX12_image_23 : decode cX12_image 23 = .ok (.iload_n 1, 1) := by decide +kernel
theorem dX12_image_24 : decode cX12_image 24 = .ok (.iadd, 1) := by decide +kernel
theorem dX12_image_25 : decode cX12_image 25 = .ok (.invokevirtual 234, 3) := by decide +kernel
theorem dX12_image_28 : decode cX12_image 28 = .ok (.aload_n 0, 1) := by decide +kernel
theorem dX12_image_29 : decode cX12_image 29 = .ok (.getfield 52, 3) := by decide +kernel
theorem dX12_image_32 : decode cX12_image 32 = .ok (.iload_n 1, 1) := by decide +kernel
theorem dX12_image_33 : decode cX12_image 33 = .ok (.iconst 1, 1) := by decide +kernel
theorem dX12_image_34 : decode cX12_image 34 = .ok (.bastore, 1) := by decide +kernel
theorem dX12_image_35 : decode cX12_image 35 = .ok (.iconst 0, 1) := by decide +kernel
theorem dX12_image_36 : decode cX12_image 36 = .ok (.ireturn, 1) := by decide +kernel
theorem dX12_back_0 : decode cX12_back 0 = .ok (.aload_n 0, 1) := by decide +kernel
theorem dX12_back_1 : decode cX12_back 1 = .ok (.iconst 0, 1) := by decide +kernel
theorem dX12_back_2 : decode cX12_back 2 = .ok (.putfield 89, 3) := by decide +kernel
theorem dX12_back_5 : decode cX12_back 5 = .ok (.iload_n 1, 1) := by decide +kernel
theorem dX12_back_6 : decode cX12_back 6 = .ok (.i2l, 1) := by decide +kernel
theorem dX12_back_7 : decode cX12_back 7 = .ok (.lconst 0, 1) := by decide +kernel
theorem dX12_back_8 : decode cX12_back 8 = .ok (.ldc2_w 430, 3) := by decide +kernel
theorem dX12_back_11 : decode cX12_back 11 = .ok (.invokestatic 94, 3) := by decide +kernel
theorem dX12_back_14 : decode cX12_back 14 = .ok (.ifCond .ne 6, 3) := by decide +kernel
theorem dX12_back_17 : decode cX12_back 17 = .ok (.bipush (-2), 2) := by decide +kernel
theorem dX12_back_19 : decode cX12_back 19 = .ok (.ireturn, 1) := by decide +kernel
theorem dX12_back_20 : decode cX12_back 20 = .ok (.aload_n 0, 1) := by decide +kernel
theorem dX12_back_21 : decode cX12_back 21 = .ok (.getfield 52, 3) := by decide +kernel
theorem dX12_back_24 : decode cX12_back 24 = .ok (.iload_n 1, 1) := by decide +kernel
theorem dX12_back_25 : decode cX12_back 25 = .ok (.baload, 1) := by decide +kernel
theorem dX12_back_26 : decode cX12_back 26 = .ok (.ifCond .ne 6, 3) := by decide +kernel
theorem dX12_back_29 : decode cX12_back 29 = .ok (.bipush (-6), 2) := by decide +kernel
theorem dX12_back_31 : decode cX12_back 31 = .ok (.ireturn, 1) := by decide +kernel
theorem dX12_back_32 : decode cX12_back 32 = .ok (.aload_n 0, 1) := by decide +kernel
theorem dX12_back_33 : decode cX12_back 33 = .ok (.iconst 1, 1) := by decide +kernel
theorem dX12_back_34 : decode cX12_back 34 = .ok (.iload_n 1, 1) := by decide +kernel
theorem dX12_back_35 : decode cX12_back 35 = .ok (.iadd, 1) := by decide +kernel
theorem dX12_back_36 : decode cX12_back 36 = .ok (.iconst 0, 1) := by decide +kernel
theorem dX12_back_37 : decode cX12_back 37 = .ok (.invokevirtual 234, 3) := by decide +kernel
theorem dX12_back_40 : decode cX12_back 40 = .ok (.iconst 0, 1) := by decide +kernel
theorem dX12_back_41 : decode cX12_back 41 = .ok (.ireturn, 1) := by decide +kernel
theorem dJ6_bitCount_0f7a4_0 : decode cJ6_bitCount_0f7a4 0 = .ok (.iload_n 0, 1) := by decide +kernel
theorem dJ6_bitCount_0f7a4_1 : decode cJ6_bitCount_0f7a4 1 = .ok (.iload_n 0, 1) := by decide +kernel
theorem dJ6_bitCount_0f7a4_2 : decode cJ6_bitCount_0f7a4 2 = .ok (.iconst 1, 1) := by decide +kernel
theorem dJ6_bitCount_0f7a4_3 : decode cJ6_bitCount_0f7a4 3 = .ok (.iushr, 1) := by decide +kernel
theorem dJ6_bitCount_0f7a4_4 : decode cJ6_bitCount_0f7a4 4 = .ok (.ldc_w 265, 3) := by decide +kernel
theorem dJ6_bitCount_0f7a4_7 : decode cJ6_bitCount_0f7a4 7 = .ok (.iand, 1) := by decide +kernel
theorem dJ6_bitCount_0f7a4_8 : decode cJ6_bitCount_0f7a4 8 = .ok (.isub, 1) := by decide +kernel
theorem dJ6_bitCount_0f7a4_9 : decode cJ6_bitCount_0f7a4 9 = .ok (.istore_n 0, 1) := by decide +kernel
theorem dJ6_bitCount_0f7a4_10 : decode cJ6_bitCount_0f7a4 10 = .ok (.iload_n 0, 1) := by decide +kernel
theorem dJ6_bitCount_0f7a4_11 : decode cJ6_bitCount_0f7a4 11 = .ok (.ldc_w 266, 3) := by decide +kernel
theorem dJ6_bitCount_0f7a4_14 : decode cJ6_bitCount_0f7a4 14 = .ok (.iand, 1) := by decide +kernel
theorem dJ6_bitCount_0f7a4_15 : decode cJ6_bitCount_0f7a4 15 = .ok (.iload_n 0, 1) := by decide +kernel
theorem dJ6_bitCount_0f7a4_16 : decode cJ6_bitCount_0f7a4 16 = .ok (.iconst 2, 1) := by decide +kernel
theorem dJ6_bitCount_0f7a4_17 : decode cJ6_bitCount_0f7a4 17 = .ok (.iushr, 1) := by decide +kernel
theorem dJ6_bitCount_0f7a4_18 : decode cJ6_bitCount_0f7a4 18 = .ok (.ldc_w 266, 3) := by decide +kernel
theorem dJ6_bitCount_0f7a4_21 : decode cJ6_bitCount_0f7a4 21 = .ok (.iand, 1) := by decide +kernel
theorem dJ6_bitCount_0f7a4_22 : decode cJ6_bitCount_0f7a4 22 = .ok (.iadd, 1) := by decide +kernel
theorem dJ6_bitCount_0f7a4_23 : decode cJ6_bitCount_0f7a4 23 = .ok (.istore_n 0, 1) := by decide +kernel
theorem dJ6_bitCount_0f7a4_24 : decode cJ6_bitCount_0f7a4 24 = .ok (.iload_n 0, 1) := by decide +kernel
theorem dJ6_bitCount_0f7a4_25 : decode cJ6_bitCount_0f7a4 25 = .ok (.iload_n 0, 1) := by decide +kernel
theorem dJ6_bitCount_0f7a4_26 : decode cJ6_bitCount_0f7a4 26 = .ok (.iconst 4, 1) := by decide +kernel
theorem dJ6_bitCount_0f7a4_27 : decode cJ6_bitCount_0f7a4 27 = .ok (.iushr, 1) := by decide +kernel
theorem dJ6_bitCount_0f7a4_28 : decode cJ6_bitCount_0f7a4 28 = .ok (.iadd, 1) := by decide +kernel
theorem dJ6_bitCount_0f7a4_29 : decode cJ6_bitCount_0f7a4 29 = .ok (.ldc_w 267, 3) := by decide +kernel
theorem dJ6_bitCount_0f7a4_32 : decode cJ6_bitCount_0f7a4 32 = .ok (.iand, 1) := by decide +kernel
theorem dJ6_bitCount_0f7a4_33 : decode cJ6_bitCount_0f7a4 33 = .ok (.istore_n 0, 1) := by decide +kernel
theorem dJ6_bitCount_0f7a4_34 : decode cJ6_bitCount_0f7a4 34 = .ok (.iload_n 0, 1) := by decide +kernel
theorem dJ6_bitCount_0f7a4_35 : decode cJ6_bitCount_0f7a4 35 = .ok (.iload_n 0, 1) := by decide +kernel
theorem dJ6_bitCount_0f7a4_36 : decode cJ6_bitCount_0f7a4 36 = .ok (.bipush 8, 2) := by decide +kernel
theorem dJ6_bitCount_0f7a4_38 : decode cJ6_bitCount_0f7a4 38 = .ok (.iushr, 1) := by decide +kernel
theorem dJ6_bitCount_0f7a4_39 : decode cJ6_bitCount_0f7a4 39 = .ok (.iadd, 1) := by decide +kernel
theorem dJ6_bitCount_0f7a4_40 : decode cJ6_bitCount_0f7a4 40 = .ok (.istore_n 0, 1) := by decide +kernel
theorem dJ6_bitCount_0f7a4_41 : decode cJ6_bitCount_0f7a4 41 = .ok (.iload_n 0, 1) := by decide +kernel
theorem dJ6_bitCount_0f7a4_42 : decode cJ6_bitCount_0f7a4 42 = .ok (.iload_n 0, 1) := by decide +kernel
theorem dJ6_bitCount_0f7a4_43 : decode cJ6_bitCount_0f7a4 43 = .ok (.bipush 16, 2) := by decide +kernel
theorem dJ6_bitCount_0f7a4_45 : decode cJ6_bitCount_0f7a4 45 = .ok (.iushr, 1) := by decide +kernel
theorem dJ6_bitCount_0f7a4_46 : decode cJ6_bitCount_0f7a4 46 = .ok (.iadd, 1) := by decide +kernel
theorem dJ6_bitCount_0f7a4_47 : decode cJ6_bitCount_0f7a4 47 = .ok (.istore_n 0, 1) := by decide +kernel
theorem dJ6_bitCount_0f7a4_48 : decode cJ6_bitCount_0f7a4 48 = .ok (.iload_n 0, 1) := by decide +kernel
theorem dJ6_bitCount_0f7a4_49 : decode cJ6_bitCount_0f7a4 49 = .ok (.bipush 63, 2) := by decide +kernel
theorem dJ6_bitCount_0f7a4_51 : decode cJ6_bitCount_0f7a4 51 = .ok (.iand, 1) := by decide +kernel
theorem dJ6_bitCount_0f7a4_52 : decode cJ6_bitCount_0f7a4 52 = .ok (.ireturn, 1) := by decide +kernel
theorem dJ9_abs_0f7a4_0 : decode cJ9_abs_0f7a4 0 = .ok (.iload_n 0, 1) := by decide +kernel
theorem dJ9_abs_0f7a4_1 : decode cJ9_abs_0f7a4 1 = .ok (.ifCond .ge 8, 3) := by decide +kernel
theorem dJ9_abs_0f7a4_4 : decode cJ9_abs_0f7a4 4 = .ok (.iload_n 0, 1) := by decide +kernel
theorem dJ9_abs_0f7a4_5 : decode cJ9_abs_0f7a4 5 = .ok (.ineg, 1) := by decide +kernel
theorem dJ9_abs_0f7a4_6 : decode cJ9_abs_0f7a4 6 = .ok (.goto 4, 3) := by decide +kernel
theorem dJ9_abs_0f7a4_9 : decode cJ9_abs_0f7a4 9 = .ok (.iload_n 0, 1) := by decide +kernel
theorem dJ9_abs_0f7a4_10 : decode cJ9_abs_0f7a4 10 = .ok (.ireturn, 1) := by decide +kernel
theorem dJ9_max_7cf53_0 : decode cJ9_max_7cf53 0 = .ok (.iload_n 0, 1) := by decide +kernel
theorem dJ9_max_7cf53_1 : decode cJ9_max_7cf53 1 = .ok (.iload_n 1, 1) := by decide +kernel
theorem dJ9_max_7cf53_2 : decode cJ9_max_7cf53 2 = .ok (.if_icmp .lt 7, 3) := by decide +kernel
theorem dJ9_max_7cf53_5 : decode cJ9_max_7cf53 5 = .ok (.iload_n 0, 1) := by decide +kernel
theorem dJ9_max_7cf53_6 : decode cJ9_max_7cf53 6 = .ok (.goto 4, 3) := by decide +kernel
theorem dJ9_max_7cf53_9 : decode cJ9_max_7cf53 9 = .ok (.iload_n 1, 1) := by decide +kernel
theorem dJ9_max_7cf53_10 : decode cJ9_max_7cf53 10 = .ok (.ireturn, 1) := by decide +kernel
theorem dJ9_min_7cf53_0 : decode cJ9_min_7cf53 0 = .ok (.iload_n 0, 1) := by decide +kernel
theorem dJ9_min_7cf53_1 : decode cJ9_min_7cf53 1 = .ok (.iload_n 1, 1) := by decide +kernel
theorem dJ9_min_7cf53_2 : decode cJ9_min_7cf53 2 = .ok (.if_icmp .gt 7, 3) := by decide +kernel
theorem dJ9_min_7cf53_5 : decode cJ9_min_7cf53 5 = .ok (.iload_n 0, 1) := by decide +kernel
theorem dJ9_min_7cf53_6 : decode cJ9_min_7cf53 6 = .ok (.goto 4, 3) := by decide +kernel
theorem dJ9_min_7cf53_9 : decode cJ9_min_7cf53 9 = .ok (.iload_n 1, 1) := by decide +kernel
theorem dJ9_min_7cf53_10 : decode cJ9_min_7cf53 10 = .ok (.ireturn, 1) := by decide +kernel
theorem dJ0_length_8abf5_0 : decode cJ0_length_8abf5 0 = .ok (.aload_n 0, 1) := by decide +kernel
theorem dJ0_length_8abf5_1 : decode cJ0_length_8abf5 1 = .ok (.getfield 9, 3) := by decide +kernel
theorem dJ0_length_8abf5_4 : decode cJ0_length_8abf5 4 = .ok (.arraylength, 1) := by decide +kernel
theorem dJ0_length_8abf5_5 : decode cJ0_length_8abf5 5 = .ok (.aload_n 0, 1) := by decide +kernel
theorem dJ0_length_8abf5_6 : decode cJ0_length_8abf5 6 = .ok (.invokevirtual 335, 3) := by decide +kernel
theorem dJ0_length_8abf5_9 : decode cJ0_length_8abf5 9 = .ok (.ishr, 1) := by decide +kernel
theorem dJ0_length_8abf5_10 : decode cJ0_length_8abf5 10 = .ok (.ireturn, 1) := by decide +kernel
theorem dJ0_charAt_5068e_0 : decode cJ0_charAt_5068e 0 = .ok (.aload_n 0, 1) := by decide +kernel
theorem dJ0_charAt_5068e_1 : decode cJ0_charAt_5068e 1 = .ok (.invokevirtual 492, 3) := by decide +kernel
theorem dJ0_charAt_5068e_4 : decode cJ0_charAt_5068e 4 = .ok (.ifCond .eq 12, 3) := by decide +kernel
theorem dJ0_charAt_5068e_7 : decode cJ0_charAt_5068e 7 = .ok (.aload_n 0, 1) := by decide +kernel
theorem dJ0_charAt_5068e_8 : decode cJ0_charAt_5068e 8 = .ok (.getfield 9, 3) := by decide +kernel
theorem dJ0_charAt_5068e_11 : decode cJ0_charAt_5068e 11 = .ok (.iload_n 1, 1) := by decide +kernel
theorem dJ0_charAt_5068e_12 : decode cJ0_charAt_5068e 12 = .ok (.invokestatic 495, 3) := by decide +kernel
theorem dJ0_charAt_5068e_15 : decode cJ0_charAt_5068e 15 = .ok (.ireturn, 1) := by decide +kernel
theorem dJ0_charAt_5068e_16 : decode cJ0_charAt_5068e 16 = .ok (.aload_n 0, 1) := by decide +kernel
theorem dJ0_charAt_5068e_17 : decode cJ0_charAt_5068e 17 = .ok (.getfield 9, 3) := by decide +kernel
theorem dJ0_charAt_5068e_20 : decode cJ0_charAt_5068e 20 = .ok (.iload_n 1, 1) := by decide +kernel
theorem dJ0_charAt_5068e_21 : decode cJ0_charAt_5068e 21 = .ok (.invokestatic 498, 3) := by decide +kernel
theorem dJ0_charAt_5068e_24 : decode cJ0_charAt_5068e 24 = .ok (.ireturn, 1) := by decide +kernel
theorem dJ0_coder_7d493_0 : decode cJ0_coder_7d493 0 = .ok (.getstatic 38, 3) := by decide +kernel
theorem dJ0_coder_7d493_3 : decode cJ0_coder_7d493 3 = .ok (.ifCond .eq 10, 3) := by decide +kernel
theorem dJ0_coder_7d493_6 : decode cJ0_coder_7d493 6 = .ok (.aload_n 0, 1) := by decide +kernel
theorem dJ0_coder_7d493_7 : decode cJ0_coder_7d493 7 = .ok (.getfield 15, 3) := by decide +kernel
theorem dJ0_coder_7d493_10 : decode cJ0_coder_7d493 10 = .ok (.goto 4, 3) := by decide +kernel
theorem dJ0_coder_7d493_13 : decode cJ0_coder_7d493 13 = .ok (.iconst 1, 1) := by decide +kernel
theorem dJ0_coder_7d493_14 : decode cJ0_coder_7d493 14 = .ok (.ireturn, 1) := by decide +kernel
theorem dJ0_isLatin1_aae02_0 : decode cJ0_isLatin1_aae02 0 = .ok (.getstatic 38, 3) := by decide +kernel
theorem dJ0_isLatin1_aae02_3 : decode cJ0_isLatin1_aae02 3 = .ok (.ifCond .eq 14, 3) := by decide +kernel
theorem dJ0_isLatin1_aae02_6 : decode cJ0_isLatin1_aae02 6 = .ok (.aload_n 0, 1) := by decide +kernel
theorem dJ0_isLatin1_aae02_7 : decode cJ0_isLatin1_aae02 7 = .ok (.getfield 15, 3) := by decide +kernel
theorem dJ0_isLatin1_aae02_10 : decode cJ0_isLatin1_aae02 10 = .ok (.ifCond .ne 7, 3) := by decide +kernel
theorem dJ0_isLatin1_aae02_13 : decode cJ0_isLatin1_aae02 13 = .ok (.iconst 1, 1) := by decide +kernel
theorem dJ0_isLatin1_aae02_14 : decode cJ0_isLatin1_aae02 14 = .ok (.goto 4, 3) := by decide +kernel
theorem dJ0_isLatin1_aae02_17 : decode cJ0_isLatin1_aae02 17 = .ok (.iconst 0, 1) := by decide +kernel
theorem dJ0_isLatin1_aae02_18 : decode cJ0_isLatin1_aae02 18 = .ok (.ireturn, 1) := by decide +kernel
theorem dJ0_checkIndex_df160_0 : decode cJ0_checkIndex_df160 0 = .ok (.iload_n 0, 1) := by decide +kernel
theorem dJ0_checkIndex_df160_1 : decode cJ0_checkIndex_df160 1 = .ok (.iload_n 1, 1) := by decide +kernel
theorem dJ0_checkIndex_df160_2 : decode cJ0_checkIndex_df160 2 = .ok (.getstatic 1053, 3) := by decide +kernel
theorem dJ0_checkIndex_df160_5 : decode cJ0_checkIndex_df160 5 = .ok (.invokestatic 1059, 3) := by decide +kernel
theorem dJ0_checkIndex_df160_8 : decode cJ0_checkIndex_df160 8 = .ok (.pop, 1) := by decide +kernel
theorem dJ0_checkIndex_df160_9 : decode cJ0_checkIndex_df160 9 = .ok (.return_, 1) := by decide +kernel
theorem dJ1_charAt_3b067_0 : decode cJ1_charAt_3b067 0 = .ok (.iload_n 1, 1) := by decide +kernel
theorem dJ1_charAt_3b067_1 : decode cJ1_charAt_3b067 1 = .ok (.aload_n 0, 1) := by decide +kernel
theorem dJ1_charAt_3b067_2 : decode cJ1_charAt_3b067 2 = .ok (.arraylength, 1) := by decide +kernel
theorem dJ1_charAt_3b067_3 : decode cJ1_charAt_3b067 3 = .ok (.invokestatic 9, 3) := by decide +kernel
theorem dJ1_charAt_3b067_6 : decode cJ1_charAt_3b067 6 = .ok (.aload_n 0, 1) := by decide +kernel
theorem dJ1_charAt_3b067_7 : decode cJ1_charAt_3b067 7 = .ok (.iload_n 1, 1) := by decide +kernel
theorem dJ1_charAt_3b067_8 : decode cJ1_charAt_3b067 8 = .ok (.baload, 1) := by decide +kernel
theorem dJ1_charAt_3b067_9 : decode cJ1_charAt_3b067 9 = .ok (.sipush 255, 3) := by decide +kernel
theorem dJ1_charAt_3b067_12 : decode cJ1_charAt_3b067 12 = .ok (.iand, 1) := by decide +kernel
theorem dJ1_charAt_3b067_13 : decode cJ1_charAt_3b067 13 = .ok (.i2c, 1) := by decide +kernel
theorem dJ1_charAt_3b067_14 : decode cJ1_charAt_3b067 14 = .ok (.ireturn, 1) := by decide +kernel
theorem dJ2_getChar_3b067_0 : decode cJ2_getChar_3b067 0 = .ok (.getstatic 44, 3) := by decide +kernel
theorem dJ2_getChar_3b067_3 : decode cJ2_getChar_3b067 3 = .ok (.ifCond .ne 25, 3) := by decide +kernel
theorem dJ2_getChar_3b067_6 : decode cJ2_getChar_3b067 6 = .ok (.iload_n 1, 1) := by decide +kernel
theorem dJ2_getChar_3b067_7 : decode cJ2_getChar_3b067 7 = .ok (.ifCond .lt 11, 3) := by decide +kernel
theorem dJ2_getChar_3b067_10 : decode cJ2_getChar_3b067 10 = .ok (.iload_n 1, 1) := by decide +kernel
theorem dJ2_getChar_3b067_11 : decode cJ2_getChar_3b067 11 = .ok (.aload_n 0, 1) := by decide +kernel
theorem dJ2_getChar_3b067_12 : decode cJ2_getChar_3b067 12 = .ok (.invokestatic 48, 3) := by decide +kernel
theorem dJ2_getChar_3b067_15 : decode cJ2_getChar_3b067 15 = .ok (.if_icmp .lt 13, 3) := by decide +kernel
theorem dJ2_getChar_3b067_18 : decode cJ2_getChar_3b067 18 = .ok (.new 52, 3) := by decide +kernel
theorem dJ2_getChar_3b067_21 : decode cJ2_getChar_3b067 21 = .ok (.dup, 1) := by decide +kernel
theorem dJ2_getChar_3b067_22 : decode cJ2_getChar_3b067 22 = .ok (.ldc 54, 2) := by decide +kernel
theorem dJ2_getChar_3b067_24 : decode cJ2_getChar_3b067 24 = .ok (.invokespecial 56, 3) := by decide +kernel
theorem dJ2_getChar_3b067_27 : decode cJ2_getChar_3b067 27 = .ok (.athrow, 1) := by decide +kernel
theorem dJ2_getChar_3b067_28 : decode cJ2_getChar_3b067 28 = .ok (.iload_n 1, 1) := by decide +kernel
theorem dJ2_getChar_3b067_29 : decode cJ2_getChar_3b067 29 = .ok (.iconst 1, 1) := by decide +kernel
theorem dJ2_getChar_3b067_30 : decode cJ2_getChar_3b067 30 = .ok (.ishl, 1) := by decide +kernel
theorem dJ2_getChar_3b067_31 : decode cJ2_getChar_3b067 31 = .ok (.istore_n 1, 1) := by decide +kernel
theorem dJ2_getChar_3b067_32 : decode cJ2_getChar_3b067 32 = .ok (.aload_n 0, 1) := by decide +kernel
theorem dJ2_getChar_3b067_33 : decode cJ2_getChar_3b067 33 = .ok (.iload_n 1, 1) := by decide +kernel
theorem dJ2_getChar_3b067_34 : decode cJ2_getChar_3b067 34 = .ok (.iinc 1 1, 3) := by decide +kernel
theorem dJ2_getChar_3b067_37 : decode cJ2_getChar_3b067 37 = .ok (.baload, 1) := by decide +kernel
theorem dJ2_getChar_3b067_38 : decode cJ2_getChar_3b067 38 = .ok (.sipush 255, 3) := by decide +kernel
theorem dJ2_getChar_3b067_41 : decode cJ2_getChar_3b067 41 = .ok (.iand, 1) := by decide +kernel
theorem dJ2_getChar_3b067_42 : decode cJ2_getChar_3b067 42 = .ok (.getstatic 59, 3) := by decide +kernel
theorem dJ2_getChar_3b067_45 : decode cJ2_getChar_3b067 45 = .ok (.ishl, 1) := by decide +kernel
theorem dJ2_getChar_3b067_46 : decode cJ2_getChar_3b067 46 = .ok (.aload_n 0, 1) := by decide +kernel
theorem dJ2_getChar_3b067_47 : decode cJ2_getChar_3b067 47 = .ok (.iload_n 1, 1) := by decide +kernel
theorem dJ2_getChar_3b067_48 : decode cJ2_getChar_3b067 48 = .ok (.baload, 1) := by decide +kernel
theorem dJ2_getChar_3b067_49 : decode cJ2_getChar_3b067 49 = .ok (.sipush 255, 3) := by decide +kernel
theorem dJ2_getChar_3b067_52 : decode cJ2_getChar_3b067 52 = .ok (.iand, 1) := by decide +kernel
theorem dJ2_getChar_3b067_53 : decode cJ2_getChar_3b067 53 = .ok (.getstatic 63, 3) := by decide +kernel
theorem dJ2_getChar_3b067_56 : decode cJ2_getChar_3b067 56 = .ok (.ishl, 1) := by decide +kernel
theorem dJ2_getChar_3b067_57 : decode cJ2_getChar_3b067 57 = .ok (.ior, 1) := by decide +kernel
theorem dJ2_getChar_3b067_58 : decode cJ2_getChar_3b067 58 = .ok (.i2c, 1) := by decide +kernel
theorem dJ2_getChar_3b067_59 : decode cJ2_getChar_3b067 59 = .ok (.ireturn, 1) := by decide +kernel
theorem dJ2_length_9d52b_0 : decode cJ2_length_9d52b 0 = .ok (.aload_n 0, 1) := by decide +kernel
theorem dJ2_length_9d52b_1 : decode cJ2_length_9d52b 1 = .ok (.arraylength, 1) := by decide +kernel
theorem dJ2_length_9d52b_2 : decode cJ2_length_9d52b 2 = .ok (.iconst 1, 1) := by decide +kernel
theorem dJ2_length_9d52b_3 : decode cJ2_length_9d52b 3 = .ok (.ishr, 1) := by decide +kernel
theorem dJ2_length_9d52b_4 : decode cJ2_length_9d52b 4 = .ok (.ireturn, 1) := by decide +kernel
theorem dJ2_charAt_3b067_0 : decode cJ2_charAt_3b067 0 = .ok (.iload_n 1, 1) := by decide +kernel
theorem dJ2_charAt_3b067_1 : decode cJ2_charAt_3b067 1 = .ok (.aload_n 0, 1) := by decide +kernel
theorem dJ2_charAt_3b067_2 : decode cJ2_charAt_3b067 2 = .ok (.invokestatic 67, 3) := by decide +kernel
theorem dJ2_charAt_3b067_5 : decode cJ2_charAt_3b067 5 = .ok (.aload_n 0, 1) := by decide +kernel
theorem dJ2_charAt_3b067_6 : decode cJ2_charAt_3b067 6 = .ok (.iload_n 1, 1) := by decide +kernel
theorem dJ2_charAt_3b067_7 : decode cJ2_charAt_3b067 7 = .ok (.invokestatic 71, 3) := by decide +kernel
theorem dJ2_charAt_3b067_10 : decode cJ2_charAt_3b067 10 = .ok (.ireturn, 1) := by decide +kernel
theorem dJ2_checkIndex_2214a_0 : decode cJ2_checkIndex_2214a 0 = .ok (.iload_n 0, 1) := by decide +kernel
theorem dJ2_checkIndex_2214a_1 : decode cJ2_checkIndex_2214a 1 = .ok (.aload_n 1, 1) := by decide +kernel
theorem dJ2_checkIndex_2214a_2 : decode cJ2_checkIndex_2214a 2 = .ok (.invokestatic 48, 3) := by decide +kernel
theorem dJ2_checkIndex_2214a_5 : decode cJ2_checkIndex_2214a 5 = .ok (.invokestatic 414, 3) := by decide +kernel
theorem dJ2_checkIndex_2214a_8 : decode cJ2_checkIndex_2214a 8 = .ok (.return_, 1) := by decide +kernel
theorem dJ7_fill_d0a16_0 : decode cJ7_fill_d0a16 0 = .ok (.iconst 0, 1) := by decide +kernel
theorem dJ7_fill_d0a16_1 : decode cJ7_fill_d0a16 1 = .ok (.istore_n 3, 1) := by decide +kernel
theorem dJ7_fill_d0a16_2 : decode cJ7_fill_d0a16 2 = .ok (.aload_n 0, 1) := by decide +kernel
theorem dJ7_fill_d0a16_3 : decode cJ7_fill_d0a16 3 = .ok (.arraylength, 1) := by decide +kernel
theorem dJ7_fill_d0a16_4 : decode cJ7_fill_d0a16 4 = .ok (.istore 4, 2) := by decide +kernel
theorem dJ7_fill_d0a16_6 : decode cJ7_fill_d0a16 6 = .ok (.iload_n 3, 1) := by decide +kernel
theorem dJ7_fill_d0a16_7 : decode cJ7_fill_d0a16 7 = .ok (.iload 4, 2) := by decide +kernel
theorem dJ7_fill_d0a16_9 : decode cJ7_fill_d0a16 9 = .ok (.if_icmp .ge 13, 3) := by decide +kernel
theorem dJ7_fill_d0a16_12 : decode cJ7_fill_d0a16 12 = .ok (.aload_n 0, 1) := by decide +kernel
theorem dJ7_fill_d0a16_13 : decode cJ7_fill_d0a16 13 = .ok (.iload_n 3, 1) := by decide +kernel
theorem dJ7_fill_d0a16_14 : decode cJ7_fill_d0a16 14 = .ok (.lload_n 1, 1) := by decide +kernel
theorem dJ7_fill_d0a16_15 : decode cJ7_fill_d0a16 15 = .ok (.lastore, 1) := by decide +kernel
theorem dJ7_fill_d0a16_16 : decode cJ7_fill_d0a16 16 = .ok (.iinc 3 1, 3) := by decide +kernel
theorem dJ7_fill_d0a16_19 : decode cJ7_fill_d0a16 19 = .ok (.goto (-13), 3) := by decide +kernel
theorem dJ7_fill_d0a16_22 : decode cJ7_fill_d0a16 22 = .ok (.return_, 1) := by decide +kernel
theorem dJ7_fill_53178_0 : decode cJ7_fill_53178 0 = .ok (.iconst 0, 1) := by decide +kernel
theorem dJ7_fill_53178_1 : decode cJ7_fill_53178 1 = .ok (.istore_n 2, 1) := by decide +kernel
theorem dJ7_fill_53178_2 : decode cJ7_fill_53178 2 = .ok (.aload_n 0, 1) := by decide +kernel
theorem dJ7_fill_53178_3 : decode cJ7_fill_53178 3 = .ok (.arraylength, 1) := by decide +kernel
theorem dJ7_fill_53178_4 : decode cJ7_fill_53178 4 = .ok (.istore_n 3, 1) := by decide +kernel
theorem dJ7_fill_53178_5 : decode cJ7_fill_53178 5 = .ok (.iload_n 2, 1) := by decide +kernel
theorem dJ7_fill_53178_6 : decode cJ7_fill_53178 6 = .ok (.iload_n 3, 1) := by decide +kernel
theorem dJ7_fill_53178_7 : decode cJ7_fill_53178 7 = .ok (.if_icmp .ge 13, 3) := by decide +kernel
theorem dJ7_fill_53178_10 : decode cJ7_fill_53178 10 = .ok (.aload_n 0, 1) := by decide +kernel
theorem dJ7_fill_53178_11 : decode cJ7_fill_53178 11 = .ok (.iload_n 2, 1) := by decide +kernel
theorem dJ7_fill_53178_12 : decode cJ7_fill_53178 12 = .ok (.iload_n 1, 1) := by decide +kernel
theorem dJ7_fill_53178_13 : decode cJ7_fill_53178 13 = .ok (.iastore, 1) := by decide +kernel
theorem dJ7_fill_53178_14 : decode cJ7_fill_53178 14 = .ok (.iinc 2 1, 3) := by decide +kernel
theorem dJ7_fill_53178_17 : decode cJ7_fill_53178 17 = .ok (.goto (-12), 3) := by decide +kernel
theorem dJ7_fill_53178_20 : decode cJ7_fill_53178 20 = .ok (.return_, 1) := by decide +kernel
theorem dJ7_fill_031fb_0 : decode cJ7_fill_031fb 0 = .ok (.iconst 0, 1) := by decide +kernel
theorem dJ7_fill_031fb_1 : decode cJ7_fill_031fb 1 = .ok (.istore_n 2, 1) := by decide +kernel
theorem dJ7_fill_031fb_2 : decode cJ7_fill_031fb 2 = .ok (.aload_n 0, 1) := by decide +kernel
theorem dJ7_fill_031fb_3 : decode cJ7_fill_031fb 3 = .ok (.arraylength, 1) := by decide +kernel
theorem dJ7_fill_031fb_4 : decode cJ7_fill_031fb 4 = .ok (.istore_n 3, 1) := by decide +kernel
theorem dJ7_fill_031fb_5 : decode cJ7_fill_031fb 5 = .ok (.iload_n 2, 1) := by decide +kernel
theorem dJ7_fill_031fb_6 : decode cJ7_fill_031fb 6 = .ok (.iload_n 3, 1) := by decide +kernel
theorem dJ7_fill_031fb_7 : decode cJ7_fill_031fb 7 = .ok (.if_icmp .ge 13, 3) := by decide +kernel
theorem dJ7_fill_031fb_10 : decode cJ7_fill_031fb 10 = .ok (.aload_n 0, 1) := by decide +kernel
theorem dJ7_fill_031fb_11 : decode cJ7_fill_031fb 11 = .ok (.iload_n 2, 1) := by decide +kernel
theorem dJ7_fill_031fb_12 : decode cJ7_fill_031fb 12 = .ok (.iload_n 1, 1) := by decide +kernel
theorem dJ7_fill_031fb_13 : decode cJ7_fill_031fb 13 = .ok (.bastore, 1) := by decide +kernel
theorem dJ7_fill_031fb_14 : decode cJ7_fill_031fb 14 = .ok (.iinc 2 1, 3) := by decide +kernel
theorem dJ7_fill_031fb_17 : decode cJ7_fill_031fb 17 = .ok (.goto (-12), 3) := by decide +kernel
theorem dJ7_fill_031fb_20 : decode cJ7_fill_031fb 20 = .ok (.return_, 1) := by decide +kernel
theorem dJ3_checkIndex_8e157_0 : decode cJ3_checkIndex_8e157 0 = .ok (.iload_n 0, 1) := by decide +kernel
theorem dJ3_checkIndex_8e157_1 : decode cJ3_checkIndex_8e157 1 = .ok (.ifCond .lt 8, 3) := by decide +kernel
theorem dJ3_checkIndex_8e157_4 : decode cJ3_checkIndex_8e157 4 = .ok (.iload_n 0, 1) := by decide +kernel
theorem dJ3_checkIndex_8e157_5 : decode cJ3_checkIndex_8e157 5 = .ok (.iload_n 1, 1) := by decide +kernel
theorem dJ3_checkIndex_8e157_6 : decode cJ3_checkIndex_8e157 6 = .ok (.if_icmp .lt 10, 3) := by decide +kernel
theorem dJ3_checkIndex_8e157_9 : decode cJ3_checkIndex_8e157 9 = .ok (.aload_n 2, 1) := by decide +kernel
theorem dJ3_checkIndex_8e157_10 : decode cJ3_checkIndex_8e157 10 = .ok (.iload_n 0, 1) := by decide +kernel
theorem dJ3_checkIndex_8e157_11 : decode cJ3_checkIndex_8e157 11 = .ok (.iload_n 1, 1) := by decide +kernel
theorem dJ3_checkIndex_8e157_12 : decode cJ3_checkIndex_8e157 12 = .ok (.invokestatic 95, 3) := by decide +kernel
theorem dJ3_checkIndex_8e157_15 : decode cJ3_checkIndex_8e157 15 = .ok (.athrow, 1) := by decide +kernel
theorem dJ3_checkIndex_8e157_16 : decode cJ3_checkIndex_8e157 16 = .ok (.iload_n 0, 1) := by decide +kernel
theorem dJ3_checkIndex_8e157_17 : decode cJ3_checkIndex_8e157 17 = .ok (.ireturn, 1) := by decide +kernel

theorem dX11_paste_63 : decode cX11_paste 63 = .ok (.bipush (-8), 2) := by decide +kernel
theorem dX11_paste_65 : decode cX11_paste 65 = .ok (.ireturn, 1) := by decide +kernel
theorem dX11_paste_66 : decode cX11_paste 66 = .ok (.aload_n 0, 1) := by decide +kernel
theorem dX11_paste_67 : decode cX11_paste 67 = .ok (.getfield 37, 3) := by decide +kernel
theorem dX11_paste_70 : decode cX11_paste 70 = .ok (.iload_n 1, 1) := by decide +kernel
theorem dX11_paste_71 : decode cX11_paste 71 = .ok (.iload_n 2, 1) := by decide +kernel
theorem dX11_paste_72 : decode cX11_paste 72 = .ok (.iload 5, 2) := by decide +kernel
theorem dX11_paste_74 : decode cX11_paste 74 = .ok (.invokevirtual 389, 3) := by decide +kernel
theorem dX11_paste_77 : decode cX11_paste 77 = .ok (.ifCond .eq 18, 3) := by decide +kernel
theorem dX11_paste_80 : decode cX11_paste 80 = .ok (.aload_n 0, 1) := by decide +kernel
theorem dX11_paste_81 : decode cX11_paste 81 = .ok (.getfield 37, 3) := by decide +kernel
theorem dX11_paste_84 : decode cX11_paste 84 = .ok (.iload_n 3, 1) := by decide +kernel
theorem dX11_paste_85 : decode cX11_paste 85 = .ok (.iload 4, 2) := by decide +kernel
theorem dX11_paste_87 : decode cX11_paste 87 = .ok (.iload 5, 2) := by decide +kernel
theorem dX11_paste_89 : decode cX11_paste 89 = .ok (.invokevirtual 389, 3) := by decide +kernel
theorem dX11_paste_92 : decode cX11_paste 92 = .ok (.ifCond .ne 6, 3) := by decide +kernel
theorem dX11_paste_95 : decode cX11_paste 95 = .ok (.bipush (-7), 2) := by decide +kernel
theorem dX11_paste_97 : decode cX11_paste 97 = .ok (.ireturn, 1) := by decide +kernel
theorem dX11_paste_98 : decode cX11_paste 98 = .ok (.aload_n 0, 1) := by decide +kernel
theorem dX11_paste_99 : decode cX11_paste 99 = .ok (.getfield 37, 3) := by decide +kernel
theorem dX11_paste_102 : decode cX11_paste 102 = .ok (.getfield 378, 3) := by decide +kernel
theorem dX11_paste_105 : decode cX11_paste 105 = .ok (.iload_n 1, 1) := by decide +kernel
theorem dX11_paste_106 : decode cX11_paste 106 = .ok (.aaload, 1) := by decide +kernel
theorem dX11_paste_107 : decode cX11_paste 107 = .ok (.iload_n 2, 1) := by decide +kernel
theorem dX11_paste_108 : decode cX11_paste 108 = .ok (.aload_n 0, 1) := by decide +kernel
theorem dX11_paste_109 : decode cX11_paste 109 = .ok (.getfield 37, 3) := by decide +kernel
theorem dX11_paste_112 : decode cX11_paste 112 = .ok (.getfield 378, 3) := by decide +kernel
theorem dX11_paste_115 : decode cX11_paste 115 = .ok (.iload_n 3, 1) := by decide +kernel
theorem dX11_paste_116 : decode cX11_paste 116 = .ok (.aaload, 1) := by decide +kernel
theorem dX11_paste_117 : decode cX11_paste 117 = .ok (.iload 4, 2) := by decide +kernel
theorem dX11_paste_119 : decode cX11_paste 119 = .ok (.iload 5, 2) := by decide +kernel
theorem dX11_paste_121 : decode cX11_paste 121 = .ok (.invokestatic 392, 3) := by decide +kernel
theorem dX11_paste_124 : decode cX11_paste 124 = .ok (.iconst 0, 1) := by decide +kernel
theorem dX11_paste_125 : decode cX11_paste 125 = .ok (.ireturn, 1) := by decide +kernel
theorem dX11_within_0 : decode cX11_within 0 = .ok (.iload_n 0, 1) := by decide +kernel
theorem dX11_within_1 : decode cX11_within 1 = .ok (.iload_n 1, 1) := by decide +kernel
theorem dX11_within_2 : decode cX11_within 2 = .ok (.if_icmp .lt 12, 3) := by decide +kernel
theorem dX11_within_5 : decode cX11_within 5 = .ok (.iload_n 0, 1) := by decide +kernel
theorem dX11_within_6 : decode cX11_within 6 = .ok (.iload_n 2, 1) := by decide +kernel
theorem dX11_within_7 : decode cX11_within 7 = .ok (.if_icmp .gt 7, 3) := by decide +kernel
theorem dX11_within_10 : decode cX11_within 10 = .ok (.iconst 1, 1) := by decide +kernel
theorem dX11_within_11 : decode cX11_within 11 = .ok (.goto 4, 3) := by decide +kernel
theorem dX11_within_14 : decode cX11_within 14 = .ok (.iconst 0, 1) := by decide +kernel
theorem dX11_within_15 : decode cX11_within 15 = .ok (.ireturn, 1) := by decide +kernel
theorem dX11_readySlider_0 : decode cX11_readySlider 0 = .ok (.aload_n 0, 1) := by decide +kernel
theorem dX11_readySlider_1 : decode cX11_readySlider 1 = .ok (.getfield 90, 3) := by decide +kernel
theorem dX11_readySlider_4 : decode cX11_readySlider 4 = .ok (.ifnonnull 14, 3) := by decide +kernel
theorem dX11_readySlider_7 : decode cX11_readySlider 7 = .ok (.aload_n 0, 1) := by decide +kernel
theorem dX11_readySlider_8 : decode cX11_readySlider 8 = .ok (.new 244, 3) := by decide +kernel
theorem dX11_readySlider_11 : decode cX11_readySlider 11 = .ok (.dup, 1) := by decide +kernel
theorem dX11_readySlider_12 : decode cX11_readySlider 12 = .ok (.invokespecial 398, 3) := by decide +kernel
theorem dX11_readySlider_15 : decode cX11_readySlider 15 = .ok (.putfield 90, 3) := by decide +kernel
theorem dX11_readySlider_18 : decode cX11_readySlider 18 = .ok (.aload_n 0, 1) := by decide +kernel
theorem dX11_readySlider_19 : decode cX11_readySlider 19 = .ok (.getfield 90, 3) := by decide +kernel
theorem dX11_readySlider_22 : decode cX11_readySlider 22 = .ok (.areturn, 1) := by decide +kernel
theorem dX11_swapsTo_0 : decode cX11_swapsTo 0 = .ok (.aload_n 0, 1) := by decide +kernel
theorem dX11_swapsTo_1 : decode cX11_swapsTo 1 = .ok (.getfield 19, 3) := by decide +kernel
theorem dX11_swapsTo_4 : decode cX11_swapsTo 4 = .ok (.getfield 148, 3) := by decide +kernel
theorem dX11_swapsTo_7 : decode cX11_swapsTo 7 = .ok (.aload_n 1, 1) := by decide +kernel
theorem dX11_swapsTo_8 : decode cX11_swapsTo 8 = .ok (.aload_n 0, 1) := by decide +kernel
theorem dX11_swapsTo_9 : decode cX11_swapsTo 9 = .ok (.getfield 19, 3) := by decide +kernel
theorem dX11_swapsTo_12 : decode cX11_swapsTo 12 = .ok (.getfield 172, 3) := by decide +kernel
theorem dX11_swapsTo_15 : decode cX11_swapsTo 15 = .ok (.aload_n 0, 1) := by decide +kernel
theorem dX11_swapsTo_16 : decode cX11_swapsTo 16 = .ok (.getfield 87, 3) := by decide +kernel
theorem dX11_swapsTo_19 : decode cX11_swapsTo 19 = .ok (.invokestatic 399, 3) := by decide +kernel
theorem dX11_swapsTo_22 : decode cX11_swapsTo 22 = .ok (.ireturn, 1) := by decide +kernel
theorem dX11_readTold_0 : decode cX11_readTold 0 = .ok (.iload_n 1, 1) := by decide +kernel
theorem dX11_readTold_1 : decode cX11_readTold 1 = .ok (.invokestatic 363, 3) := by decide +kernel
theorem dX11_readTold_4 : decode cX11_readTold 4 = .ok (.ifCond .eq 13, 3) := by decide +kernel
theorem dX11_readTold_7 : decode cX11_readTold 7 = .ok (.aload_n 0, 1) := by decide +kernel
theorem dX11_readTold_8 : decode cX11_readTold 8 = .ok (.getfield 19, 3) := by decide +kernel
theorem dX11_readTold_11 : decode cX11_readTold 11 = .ok (.invokevirtual 169, 3) := by decide +kernel
theorem dX11_readTold_14 : decode cX11_readTold 14 = .ok (.ifCond .eq 6, 3) := by decide +kernel
theorem dX11_readTold_17 : decode cX11_readTold 17 = .ok (.bipush (-2), 2) := by decide +kernel
theorem dX11_readTold_19 : decode cX11_readTold 19 = .ok (.ireturn, 1) := by decide +kernel
theorem dX11_readTold_20 : decode cX11_readTold 20 = .ok (.aload_n 0, 1) := by decide +kernel
theorem dX11_readTold_21 : decode cX11_readTold 21 = .ok (.getfield 37, 3) := by decide +kernel
theorem dX11_readTold_24 : decode cX11_readTold 24 = .ok (.iload_n 1, 1) := by decide +kernel
theorem dX11_readTold_25 : decode cX11_readTold 25 = .ok (.invokevirtual 372, 3) := by decide +kernel
theorem dX11_readTold_28 : decode cX11_readTold 28 = .ok (.ifCond .ne 6, 3) := by decide +kernel
theorem dX11_readTold_31 : decode cX11_readTold 31 = .ok (.bipush (-6), 2) := by decide +kernel
theorem dX11_readTold_33 : decode cX11_readTold 33 = .ok (.ireturn, 1) := by decide +kernel
theorem dX11_readTold_34 : decode cX11_readTold 34 = .ok (.aload_n 0, 1) := by decide +kernel
theorem dX11_readTold_35 : decode cX11_readTold 35 = .ok (.getfield 37, 3) := by decide +kernel
theorem dX11_readTold_38 : decode cX11_readTold 38 = .ok (.iload_n 1, 1) := by decide +kernel
theorem dX11_readTold_39 : decode cX11_readTold 39 = .ok (.aload_n 0, 1) := by decide +kernel
theorem dX11_readTold_40 : decode cX11_readTold 40 = .ok (.getfield 19, 3) := by decide +kernel
theorem dX11_readTold_43 : decode cX11_readTold 43 = .ok (.getfield 172, 3) := by decide +kernel
theorem dX11_readTold_46 : decode cX11_readTold 46 = .ok (.aload_n 0, 1) := by decide +kernel
theorem dX11_readTold_47 : decode cX11_readTold 47 = .ok (.getfield 83, 3) := by decide +kernel
theorem dX11_readTold_50 : decode cX11_readTold 50 = .ok (.invokevirtual 403, 3) := by decide +kernel
theorem dX11_readTold_53 : decode cX11_readTold 53 = .ok (.ifCond .eq 7, 3) := by decide +kernel
theorem dX11_readTold_56 : decode cX11_readTold 56 = .ok (.iconst 0, 1) := by decide +kernel
theorem dX11_readTold_57 : decode cX11_readTold 57 = .ok (.goto 5, 3) := by decide +kernel
theorem dX11_readTold_60 : decode cX11_readTold 60 = .ok (.bipush (-2), 2) := by decide +kernel
theorem dX11_readTold_62 : decode cX11_readTold 62 = .ok (.ireturn, 1) := by decide +kernel
theorem dX11_readSeen_0 : decode cX11_readSeen 0 = .ok (.iload_n 1, 1) := by decide +kernel
theorem dX11_readSeen_1 : decode cX11_readSeen 1 = .ok (.invokestatic 363, 3) := by decide +kernel
theorem dX11_readSeen_4 : decode cX11_readSeen 4 = .ok (.ifCond .eq 13, 3) := by decide +kernel
theorem dX11_readSeen_7 : decode cX11_readSeen 7 = .ok (.aload_n 0, 1) := by decide +kernel
theorem dX11_readSeen_8 : decode cX11_readSeen 8 = .ok (.getfield 19, 3) := by decide +kernel
theorem dX11_readSeen_11 : decode cX11_readSeen 11 = .ok (.invokevirtual 169, 3) := by decide +kernel
theorem dX11_readSeen_14 : decode cX11_readSeen 14 = .ok (.ifCond .eq 6, 3) := by decide +kernel
theorem dX11_readSeen_17 : decode cX11_readSeen 17 = .ok (.bipush (-2), 2) := by decide +kernel
theorem dX11_readSeen_19 : decode cX11_readSeen 19 = .ok (.ireturn, 1) := by decide +kernel
theorem dX11_readSeen_20 : decode cX11_readSeen 20 = .ok (.aload_n 0, 1) := by decide +kernel
theorem dX11_readSeen_21 : decode cX11_readSeen 21 = .ok (.getfield 37, 3) := by decide +kernel
theorem dX11_readSeen_24 : decode cX11_readSeen 24 = .ok (.iload_n 1, 1) := by decide +kernel
theorem dX11_readSeen_25 : decode cX11_readSeen 25 = .ok (.invokevirtual 372, 3) := by decide +kernel
theorem dX11_readSeen_28 : decode cX11_readSeen 28 = .ok (.ifCond .ne 6, 3) := by decide +kernel
theorem dX11_readSeen_31 : decode cX11_readSeen 31 = .ok (.bipush (-6), 2) := by decide +kernel
theorem dX11_readSeen_33 : decode cX11_readSeen 33 = .ok (.ireturn, 1) := by decide +kernel
theorem dX11_readSeen_34 : decode cX11_readSeen 34 = .ok (.aload_n 0, 1) := by decide +kernel
theorem dX11_readSeen_35 : decode cX11_readSeen 35 = .ok (.getfield 51, 3) := by decide +kernel
theorem dX11_readSeen_38 : decode cX11_readSeen 38 = .ok (.aload_n 0, 1) := by decide +kernel
theorem dX11_readSeen_39 : decode cX11_readSeen 39 = .ok (.getfield 19, 3) := by decide +kernel
theorem dX11_readSeen_42 : decode cX11_readSeen 42 = .ok (.aload_n 0, 1) := by decide +kernel
theorem dX11_readSeen_43 : decode cX11_readSeen 43 = .ok (.getfield 37, 3) := by decide +kernel
theorem dX11_readSeen_46 : decode cX11_readSeen 46 = .ok (.iload_n 1, 1) := by decide +kernel
theorem dX11_readSeen_47 : decode cX11_readSeen 47 = .ok (.aload_n 0, 1) := by decide +kernel
theorem dX11_readSeen_48 : decode cX11_readSeen 48 = .ok (.getfield 44, 3) := by decide +kernel
theorem dX11_readSeen_51 : decode cX11_readSeen 51 = .ok (.invokevirtual 407, 3) := by decide +kernel
theorem dX11_readSeen_54 : decode cX11_readSeen 54 = .ok (.ifCond .eq 7, 3) := by decide +kernel
theorem dX11_readSeen_57 : decode cX11_readSeen 57 = .ok (.iconst 0, 1) := by decide +kernel
theorem dX11_readSeen_58 : decode cX11_readSeen 58 = .ok (.goto 5, 3) := by decide +kernel
theorem dX11_readSeen_61 : decode cX11_readSeen 61 = .ok (.bipush (-2), 2) := by decide +kernel
theorem dX11_readSeen_63 : decode cX11_readSeen 63 = .ok (.ireturn, 1) := by decide +kernel
theorem dX11_leadsToTold_0 : decode cX11_leadsToTold 0 = .ok (.aload_n 0, 1) := by decide +kernel
theorem dX11_leadsToTold_1 : decode cX11_leadsToTold 1 = .ok (.getfield 19, 3) := by decide +kernel
theorem dX11_leadsToTold_4 : decode cX11_leadsToTold 4 = .ok (.getfield 148, 3) := by decide +kernel
theorem dX11_leadsToTold_7 : decode cX11_leadsToTold 7 = .ok (.iconst 0, 1) := by decide +kernel
theorem dX11_leadsToTold_8 : decode cX11_leadsToTold 8 = .ok (.aload_n 0, 1) := by decide +kernel
theorem dX11_leadsToTold_9 : decode cX11_leadsToTold 9 = .ok (.getfield 87, 3) := by decide +kernel
theorem dX11_leadsToTold_12 : decode cX11_leadsToTold 12 = .ok (.iconst 0, 1) := by decide +kernel
theorem dX11_leadsToTold_13 : decode cX11_leadsToTold 13 = .ok (.bipush 7, 2) := by decide +kernel
theorem dX11_leadsToTold_15 : decode cX11_leadsToTold 15 = .ok (.invokestatic 392, 3) := by decide +kernel
theorem dX11_leadsToTold_18 : decode cX11_leadsToTold 18 = .ok (.aload_n 0, 1) := by decide +kernel
theorem dX11_leadsToTold_19 : decode cX11_leadsToTold 19 = .ok (.getfield 19, 3) := by decide +kernel
theorem dX11_leadsToTold_22 : decode cX11_leadsToTold 22 = .ok (.aload_n 0, 1) := by decide +kernel
theorem dX11_leadsToTold_23 : decode cX11_leadsToTold 23 = .ok (.getfield 87, 3) := by decide +kernel
theorem dX11_leadsToTold_26 : decode cX11_leadsToTold 26 = .ok (.iload_n 1, 1) := by decide +kernel
theorem dX11_leadsToTold_27 : decode cX11_leadsToTold 27 = .ok (.invokevirtual 411, 3) := by decide +kernel
theorem dX11_leadsToTold_30 : decode cX11_leadsToTold 30 = .ok (.aload_n 0, 1) := by decide +kernel
theorem dX11_leadsToTold_31 : decode cX11_leadsToTold 31 = .ok (.getfield 87, 3) := by decide +kernel
theorem dX11_leadsToTold_34 : decode cX11_leadsToTold 34 = .ok (.aload_n 0, 1) := by decide +kernel
theorem dX11_leadsToTold_35 : decode cX11_leadsToTold 35 = .ok (.getfield 83, 3) := by decide +kernel
theorem dX11_leadsToTold_38 : decode cX11_leadsToTold 38 = .ok (.aload_n 0, 1) := by decide +kernel
theorem dX11_leadsToTold_39 : decode cX11_leadsToTold 39 = .ok (.getfield 19, 3) := by decide +kernel
theorem dX11_leadsToTold_42 : decode cX11_leadsToTold 42 = .ok (.getfield 172, 3) := by decide +kernel
theorem dX11_leadsToTold_45 : decode cX11_leadsToTold 45 = .ok (.invokestatic 187, 3) := by decide +kernel
theorem dX11_leadsToTold_48 : decode cX11_leadsToTold 48 = .ok (.ireturn, 1) := by decide +kernel
theorem dX12_init_0 : decode cX12_init 0 = .ok (.aload_n 0, 1) := by decide +kernel
theorem dX12_init_1 : decode cX12_init 1 = .ok (.invokespecial 1, 3) := by decide +kernel
theorem dX12_init_4 : decode cX12_init 4 = .ok (.aload_n 0, 1) := by decide +kernel
theorem dX12_init_5 : decode cX12_init 5 = .ok (.iconst 4, 1) := by decide +kernel
theorem dX12_init_6 : decode cX12_init 6 = .ok (.newarray .int, 2) := by decide +kernel
theorem dX12_init_8 : decode cX12_init 8 = .ok (.putfield 7, 3) := by decide +kernel
theorem dX12_init_11 : decode cX12_init 11 = .ok (.aload_n 0, 1) := by decide +kernel
theorem dX12_init_12 : decode cX12_init 12 = .ok (.iconst 4, 1) := by decide +kernel
theorem dX12_init_13 : decode cX12_init 13 = .ok (.newarray .int, 2) := by decide +kernel
theorem dX12_init_15 : decode cX12_init 15 = .ok (.putfield 13, 3) := by decide +kernel
theorem dX12_init_18 : decode cX12_init 18 = .ok (.aload_n 0, 1) := by decide +kernel
theorem dX12_init_19 : decode cX12_init 19 = .ok (.sipush 240, 3) := by decide +kernel
theorem dX12_init_22 : decode cX12_init 22 = .ok (.newarray .long, 2) := by decide +kernel
theorem dX12_init_24 : decode cX12_init 24 = .ok (.putfield 16, 3) := by decide +kernel
theorem dX12_init_27 : decode cX12_init 27 = .ok (.aload_n 0, 1) := by decide +kernel
theorem dX12_init_28 : decode cX12_init 28 = .ok (.bipush 60, 2) := by decide +kernel
theorem dX12_init_30 : decode cX12_init 30 = .ok (.newarray .long, 2) := by decide +kernel
theorem dX12_init_32 : decode cX12_init 32 = .ok (.putfield 20, 3) := by decide +kernel
theorem dX12_init_35 : decode cX12_init 35 = .ok (.aload_n 0, 1) := by decide +kernel
theorem dX12_init_36 : decode cX12_init 36 = .ok (.sipush 800, 3) := by decide +kernel
theorem dX12_init_39 : decode cX12_init 39 = .ok (.newarray .byte, 2) := by decide +kernel
theorem dX12_init_41 : decode cX12_init 41 = .ok (.putfield 23, 3) := by decide +kernel
theorem dX12_init_44 : decode cX12_init 44 = .ok (.aload_n 0, 1) := by decide +kernel
theorem dX12_init_45 : decode cX12_init 45 = .ok (.iconst (-1), 1) := by decide +kernel
theorem dX12_init_46 : decode cX12_init 46 = .ok (.putfield 27, 3) := by decide +kernel
theorem dX12_init_49 : decode cX12_init 49 = .ok (.aload_n 0, 1) := by decide +kernel
theorem dX12_init_50 : decode cX12_init 50 = .ok (.iconst 5, 1) := by decide +kernel
theorem dX12_init_51 : decode cX12_init 51 = .ok (.newarray .int, 2) := by decide +kernel
theorem dX12_init_53 : decode cX12_init 53 = .ok (.putfield 31, 3) := by decide +kernel
theorem dX12_init_56 : decode cX12_init 56 = .ok (.aload_n 0, 1) := by decide +kernel
theorem dX12_init_57 : decode cX12_init 57 = .ok (.bipush 20, 2) := by decide +kernel
theorem dX12_init_59 : decode cX12_init 59 = .ok (.newarray .int, 2) := by decide +kernel
theorem dX12_init_61 : decode cX12_init 61 = .ok (.putfield 34, 3) := by decide +kernel
theorem dX12_init_64 : decode cX12_init 64 = .ok (.aload_n 0, 1) := by decide +kernel
theorem dX12_init_65 : decode cX12_init 65 = .ok (.bipush 35, 2) := by decide +kernel
theorem dX12_init_67 : decode cX12_init 67 = .ok (.newarray .int, 2) := by decide +kernel
theorem dX12_init_69 : decode cX12_init 69 = .ok (.putfield 37, 3) := by decide +kernel
theorem dX12_init_72 : decode cX12_init 72 = .ok (.aload_n 0, 1) := by decide +kernel
theorem dX12_init_73 : decode cX12_init 73 = .ok (.bipush 120, 2) := by decide +kernel
theorem dX12_init_75 : decode cX12_init 75 = .ok (.newarray .int, 2) := by decide +kernel
theorem dX12_init_77 : decode cX12_init 77 = .ok (.putfield 40, 3) := by decide +kernel
theorem dX12_init_80 : decode cX12_init 80 = .ok (.aload_n 0, 1) := by decide +kernel
theorem dX12_init_81 : decode cX12_init 81 = .ok (.sipush 245, 3) := by decide +kernel
theorem dX12_init_84 : decode cX12_init 84 = .ok (.newarray .int, 2) := by decide +kernel
theorem dX12_init_86 : decode cX12_init 86 = .ok (.putfield 43, 3) := by decide +kernel
theorem dX12_init_89 : decode cX12_init 89 = .ok (.aload_n 0, 1) := by decide +kernel
theorem dX12_init_90 : decode cX12_init 90 = .ok (.bipush 35, 2) := by decide +kernel
theorem dX12_init_92 : decode cX12_init 92 = .ok (.newarray .int, 2) := by decide +kernel
theorem dX12_init_94 : decode cX12_init 94 = .ok (.putfield 46, 3) := by decide +kernel
theorem dX12_init_97 : decode cX12_init 97 = .ok (.aload_n 0, 1) := by decide +kernel
theorem dX12_init_98 : decode cX12_init 98 = .ok (.sipush 400, 3) := by decide +kernel
theorem dX12_init_101 : decode cX12_init 101 = .ok (.newarray .int, 2) := by decide +kernel
theorem dX12_init_103 : decode cX12_init 103 = .ok (.putfield 49, 3) := by decide +kernel
theorem dX12_init_106 : decode cX12_init 106 = .ok (.aload_n 0, 1) := by decide +kernel
theorem dX12_init_107 : decode cX12_init 107 = .ok (.iconst 3, 1) := by decide +kernel
theorem dX12_init_108 : decode cX12_init 108 = .ok (.newarray .boolean, 2) := by decide +kernel
theorem dX12_init_110 : decode cX12_init 110 = .ok (.putfield 52, 3) := by decide +kernel
theorem dX12_init_113 : decode cX12_init 113 = .ok (.aload_n 0, 1) := by decide +kernel
theorem dX12_init_114 : decode cX12_init 114 = .ok (.bipush 7, 2) := by decide +kernel
theorem dX12_init_116 : decode cX12_init 116 = .ok (.newarray .int, 2) := by decide +kernel
theorem dX12_init_118 : decode cX12_init 118 = .ok (.putfield 56, 3) := by decide +kernel
theorem dX12_init_121 : decode cX12_init 121 = .ok (.aload_n 0, 1) := by decide +kernel
theorem dX12_init_122 : decode cX12_init 122 = .ok (.bipush 7, 2) := by decide +kernel
theorem dX12_init_124 : decode cX12_init 124 = .ok (.newarray .int, 2) := by decide +kernel
theorem dX12_init_126 : decode cX12_init 126 = .ok (.putfield 59, 3) := by decide +kernel
theorem dX12_init_129 : decode cX12_init 129 = .ok (.aload_n 0, 1) := by decide +kernel
theorem dX12_init_130 : decode cX12_init 130 = .ok (.bipush 7, 2) := by decide +kernel
theorem dX12_init_132 : decode cX12_init 132 = .ok (.newarray .int, 2) := by decide +kernel
theorem dX12_init_134 : decode cX12_init 134 = .ok (.putfield 62, 3) := by decide +kernel
theorem dX12_init_137 : decode cX12_init 137 = .ok (.aload_n 0, 1) := by decide +kernel
theorem dX12_init_138 : decode cX12_init 138 = .ok (.sipush 5040, 3) := by decide +kernel
theorem dX12_init_141 : decode cX12_init 141 = .ok (.newarray .int, 2) := by decide +kernel
theorem dX12_init_143 : decode cX12_init 143 = .ok (.putfield 65, 3) := by decide +kernel
theorem dX12_init_146 : decode cX12_init 146 = .ok (.aload_n 0, 1) := by decide +kernel
theorem dX12_init_147 : decode cX12_init 147 = .ok (.sipush 5040, 3) := by decide +kernel
theorem dX12_init_150 : decode cX12_init 150 = .ok (.newarray .int, 2) := by decide +kernel
theorem dX12_init_152 : decode cX12_init 152 = .ok (.putfield 68, 3) := by decide +kernel
theorem dX12_init_155 : decode cX12_init 155 = .ok (.aload_n 0, 1) := by decide +kernel
theorem dX12_init_156 : decode cX12_init 156 = .ok (.bipush 7, 2) := by decide +kernel
theorem dX12_init_158 : decode cX12_init 158 = .ok (.newarray .int, 2) := by decide +kernel
theorem dX12_init_160 : decode cX12_init 160 = .ok (.putfield 71, 3) := by decide +kernel
theorem dX12_init_163 : decode cX12_init 163 = .ok (.aload_n 0, 1) := by decide +kernel
theorem dX12_init_164 : decode cX12_init 164 = .ok (.bipush 7, 2) := by decide +kernel
theorem dX12_init_166 : decode cX12_init 166 = .ok (.newarray .int, 2) := by decide +kernel
theorem dX12_init_168 : decode cX12_init 168 = .ok (.putfield 74, 3) := by decide +kernel
theorem dX12_init_171 : decode cX12_init 171 = .ok (.aload_n 0, 1) := by decide +kernel
theorem dX12_init_172 : decode cX12_init 172 = .ok (.bipush 7, 2) := by decide +kernel
theorem dX12_init_174 : decode cX12_init 174 = .ok (.newarray .int, 2) := by decide +kernel
theorem dX12_init_176 : decode cX12_init 176 = .ok (.putfield 77, 3) := by decide +kernel
theorem dX12_init_179 : decode cX12_init 179 = .ok (.aload_n 0, 1) := by decide +kernel
theorem dX12_init_180 : decode cX12_init 180 = .ok (.bipush 49, 2) := by decide +kernel
theorem dX12_init_182 : decode cX12_init 182 = .ok (.newarray .int, 2) := by decide +kernel
theorem dX12_init_184 : decode cX12_init 184 = .ok (.putfield 80, 3) := by decide +kernel
theorem dX12_init_187 : decode cX12_init 187 = .ok (.aload_n 0, 1) := by decide +kernel
theorem dX12_init_188 : decode cX12_init 188 = .ok (.bipush 7, 2) := by decide +kernel
theorem dX12_init_190 : decode cX12_init 190 = .ok (.newarray .long, 2) := by decide +kernel
theorem dX12_init_192 : decode cX12_init 192 = .ok (.putfield 83, 3) := by decide +kernel
theorem dX12_init_195 : decode cX12_init 195 = .ok (.aload_n 0, 1) := by decide +kernel
theorem dX12_init_196 : decode cX12_init 196 = .ok (.bipush 7, 2) := by decide +kernel
theorem dX12_init_198 : decode cX12_init 198 = .ok (.newarray .long, 2) := by decide +kernel
theorem dX12_init_200 : decode cX12_init 200 = .ok (.putfield 86, 3) := by decide +kernel
theorem dX12_init_203 : decode cX12_init 203 = .ok (.iconst 0, 1) := by decide +kernel
theorem dX12_init_204 : decode cX12_init 204 = .ok (.istore_n 1, 1) := by decide +kernel
theorem dX12_init_205 : decode cX12_init 205 = .ok (.iload_n 1, 1) := by decide +kernel
theorem dX12_init_206 : decode cX12_init 206 = .ok (.iconst 4, 1) := by decide +kernel
theorem dX12_init_207 : decode cX12_init 207 = .ok (.if_icmp .ge 16, 3) := by decide +kernel
theorem dX12_init_210 : decode cX12_init 210 = .ok (.aload_n 0, 1) := by decide +kernel
theorem dX12_init_211 : decode cX12_init 211 = .ok (.getfield 7, 3) := by decide +kernel
theorem dX12_init_214 : decode cX12_init 214 = .ok (.iload_n 1, 1) := by decide +kernel
theorem dX12_init_215 : decode cX12_init 215 = .ok (.iconst (-1), 1) := by decide +kernel
theorem dX12_init_216 : decode cX12_init 216 = .ok (.iastore, 1) := by decide +kernel
theorem dX12_init_217 : decode cX12_init 217 = .ok (.iinc 1 1, 3) := by decide +kernel
theorem dX12_init_220 : decode cX12_init 220 = .ok (.goto (-15), 3) := by decide +kernel
theorem dX12_init_223 : decode cX12_init 223 = .ok (.return_, 1) := by decide +kernel
theorem dX12_in_0 : decode cX12_in 0 = .ok (.lload_n 0, 1) := by decide +kernel
theorem dX12_in_1 : decode cX12_in 1 = .ok (.lload_n 2, 1) := by decide +kernel
theorem dX12_in_2 : decode cX12_in 2 = .ok (.lcmp, 1) := by decide +kernel
theorem dX12_in_3 : decode cX12_in 3 = .ok (.ifCond .lt 14, 3) := by decide +kernel
theorem dX12_in_6 : decode cX12_in 6 = .ok (.lload_n 0, 1) := by decide +kernel
theorem dX12_in_7 : decode cX12_in 7 = .ok (.lload 4, 2) := by decide +kernel
theorem dX12_in_9 : decode cX12_in 9 = .ok (.lcmp, 1) := by decide +kernel
theorem dX12_in_10 : decode cX12_in 10 = .ok (.ifCond .gt 7, 3) := by decide +kernel
theorem dX12_in_13 : decode cX12_in 13 = .ok (.iconst 1, 1) := by decide +kernel
theorem dX12_in_14 : decode cX12_in 14 = .ok (.goto 4, 3) := by decide +kernel
theorem dX12_in_17 : decode cX12_in 17 = .ok (.iconst 0, 1) := by decide +kernel
theorem dX12_in_18 : decode cX12_in 18 = .ok (.ireturn, 1) := by decide +kernel
theorem dX12_isSlot_0 : decode cX12_isSlot 0 = .ok (.iload_n 0, 1) := by decide +kernel
theorem dX12_isSlot_1 : decode cX12_isSlot 1 = .ok (.i2l, 1) := by decide +kernel
theorem dX12_isSlot_2 : decode cX12_isSlot 2 = .ok (.lconst 0, 1) := by decide +kernel
theorem dX12_isSlot_3 : decode cX12_isSlot 3 = .ok (.ldc2_w 92, 3) := by decide +kernel
theorem dX12_isSlot_6 : decode cX12_isSlot 6 = .ok (.invokestatic 94, 3) := by decide +kernel
theorem dX12_isSlot_9 : decode cX12_isSlot 9 = .ok (.ireturn, 1) := by decide +kernel
theorem dX12_row_0 : decode cX12_row 0 = .ok (.aload_n 0, 1) := by decide +kernel
theorem dX12_row_1 : decode cX12_row 1 = .ok (.iconst 0, 1) := by decide +kernel
theorem dX12_row_2 : decode cX12_row 2 = .ok (.putfield 89, 3) := by decide +kernel
theorem dX12_row_5 : decode cX12_row 5 = .ok (.iload_n 1, 1) := by decide +kernel
theorem dX12_row_6 : decode cX12_row 6 = .ok (.invokestatic 98, 3) := by decide +kernel
theorem dX12_row_9 : decode cX12_row 9 = .ok (.ifCond .eq 21, 3) := by decide +kernel
theorem dX12_row_12 : decode cX12_row 12 = .ok (.iload_n 2, 1) := by decide +kernel
theorem dX12_row_13 : decode cX12_row 13 = .ok (.i2l, 1) := by decide +kernel
theorem dX12_row_14 : decode cX12_row 14 = .ok (.lconst 0, 1) := by decide +kernel
theorem dX12_row_15 : decode cX12_row 15 = .ok (.ldc2_w 92, 3) := by decide +kernel
theorem dX12_row_18 : decode cX12_row 18 = .ok (.invokestatic 94, 3) := by decide +kernel
theorem dX12_row_21 : decode cX12_row 21 = .ok (.ifCond .eq 9, 3) := by decide +kernel
theorem dX12_row_24 : decode cX12_row 24 = .ok (.iload_n 3, 1) := by decide +kernel
theorem dX12_row_25 : decode cX12_row 25 = .ok (.bipush 60, 2) := by decide +kernel
theorem dX12_row_27 : decode cX12_row 27 = .ok (.if_icmp .le 6, 3) := by decide +kernel
theorem dX12_row_30 : decode cX12_row 30 = .ok (.bipush (-2), 2) := by decide +kernel
theorem dX12_row_32 : decode cX12_row 32 = .ok (.ireturn, 1) := by decide +kernel
theorem dX12_row_33 : decode cX12_row 33 = .ok (.iload_n 3, 1) := by decide +kernel
theorem dX12_row_34 : decode cX12_row 34 = .ok (.ifCond .ge 6, 3) := by decide +kernel
theorem dX12_row_37 : decode cX12_row 37 = .ok (.bipush (-3), 2) := by decide +kernel
theorem dX12_row_39 : decode cX12_row 39 = .ok (.ireturn, 1) := by decide +kernel
theorem dX12_row_40 : decode cX12_row 40 = .ok (.aload_n 0, 1) := by decide +kernel
theorem dX12_row_41 : decode cX12_row 41 = .ok (.getfield 7, 3) := by decide +kernel
theorem dX12_row_44 : decode cX12_row 44 = .ok (.iload_n 1, 1) := by decide +kernel
theorem dX12_row_45 : decode cX12_row 45 = .ok (.iload_n 2, 1) := by decide +kernel
theorem dX12_row_46 : decode cX12_row 46 = .ok (.iastore, 1) := by decide +kernel
theorem dX12_row_47 : decode cX12_row 47 = .ok (.aload_n 0, 1) := by decide +kernel
theorem dX12_row_48 : decode cX12_row 48 = .ok (.getfield 13, 3) := by decide +kernel
theorem dX12_row_51 : decode cX12_row 51 = .ok (.iload_n 1, 1) := by decide +kernel
theorem dX12_row_52 : decode cX12_row 52 = .ok (.iload_n 3, 1) := by decide +kernel
theorem dX12_row_53 : decode cX12_row 53 = .ok (.iastore, 1) := by decide +kernel
theorem dX12_row_54 : decode cX12_row 54 = .ok (.iconst 0, 1) := by decide +kernel
theorem dX12_row_55 : decode cX12_row 55 = .ok (.istore 4, 2) := by decide +kernel
theorem dX12_row_57 : decode cX12_row 57 = .ok (.iload 4, 2) := by decide +kernel
theorem dX12_row_59 : decode cX12_row 59 = .ok (.iload_n 3, 1) := by decide +kernel
theorem dX12_row_60 : decode cX12_row 60 = .ok (.if_icmp .ge 22, 3) := by decide +kernel
theorem dX12_row_63 : decode cX12_row 63 = .ok (.aload_n 0, 1) := by decide +kernel
theorem dX12_row_64 : decode cX12_row 64 = .ok (.getfield 16, 3) := by decide +kernel
theorem dX12_row_67 : decode cX12_row 67 = .ok (.bipush 60, 2) := by decide +kernel
theorem dX12_row_69 : decode cX12_row 69 = .ok (.iload_n 1, 1) := by decide +kernel
theorem dX12_row_70 : decode cX12_row 70 = .ok (.imul, 1) := by decide +kernel
theorem dX12_row_71 : decode cX12_row 71 = .ok (.iload 4, 2) := by decide +kernel
theorem dX12_row_73 : decode cX12_row 73 = .ok (.iadd, 1) := by decide +kernel
theorem dX12_row_74 : decode cX12_row 74 = .ok (.lconst 0, 1) := by decide +kernel
theorem dX12_row_75 : decode cX12_row 75 = .ok (.lastore, 1) := by decide +kernel
theorem dX12_row_76 : decode cX12_row 76 = .ok (.iinc 4 1, 3) := by decide +kernel
theorem dX12_row_79 : decode cX12_row 79 = .ok (.goto (-22), 3) := by decide +kernel
theorem dX12_row_82 : decode cX12_row 82 = .ok (.iconst 0, 1) := by decide +kernel
theorem dX12_row_83 : decode cX12_row 83 = .ok (.ireturn, 1) := by decide +kernel
theorem dX12_cut_0 : decode cX12_cut 0 = .ok (.iload_n 2, 1) := by decide +kernel
theorem dX12_cut_1 : decode cX12_cut 1 = .ok (.ifCond .ne 10, 3) := by decide +kernel
theorem dX12_cut_4 : decode cX12_cut 4 = .ok (.lload_n 0, 1) := by decide +kernel
theorem dX12_cut_5 : decode cX12_cut 5 = .ok (.l2i, 1) := by decide +kernel
theorem dX12_cut_6 : decode cX12_cut 6 = .ok (.i2b, 1) := by decide +kernel
theorem dX12_cut_7 : decode cX12_cut 7 = .ok (.i2l, 1) := by decide +kernel
theorem dX12_cut_8 : decode cX12_cut 8 = .ok (.goto 27, 3) := by decide +kernel
theorem dX12_cut_11 : decode cX12_cut 11 = .ok (.iload_n 2, 1) := by decide +kernel
theorem dX12_cut_12 : decode cX12_cut 12 = .ok (.iconst 1, 1) := by decide +kernel
theorem dX12_cut_13 : decode cX12_cut 13 = .ok (.if_icmp .ne 10, 3) := by decide +kernel
theorem dX12_cut_16 : decode cX12_cut 16 = .ok (.lload_n 0, 1) := by decide +kernel
theorem dX12_cut_17 : decode cX12_cut 17 = .ok (.l2i, 1) := by decide +kernel
theorem dX12_cut_18 : decode cX12_cut 18 = .ok (.i2s, 1) := by decide +kernel
theorem dX12_cut_19 : decode cX12_cut 19 = .ok (.i2l, 1) := by decide +kernel
theorem dX12_cut_20 : decode cX12_cut 20 = .ok (.goto 15, 3) := by decide +kernel
theorem dX12_cut_23 : decode cX12_cut 23 = .ok (.iload_n 2, 1) := by decide +kernel
theorem dX12_cut_24 : decode cX12_cut 24 = .ok (.iconst 2, 1) := by decide +kernel
theorem dX12_cut_25 : decode cX12_cut 25 = .ok (.if_icmp .ne 9, 3) := by decide +kernel
theorem dX12_cut_28 : decode cX12_cut 28 = .ok (.lload_n 0, 1) := by decide +kernel
theorem dX12_cut_29 : decode cX12_cut 29 = .ok (.l2i, 1) := by decide +kernel
theorem dX12_cut_30 : decode cX12_cut 30 = .ok (.i2l, 1) := by decide +kernel
theorem dX12_cut_31 : decode cX12_cut 31 = .ok (.goto 4, 3) := by decide +kernel
theorem dX12_cut_34 : decode cX12_cut 34 = .ok (.lload_n 0, 1) := by decide +kernel
theorem dX12_cut_35 : decode cX12_cut 35 = .ok (.lreturn, 1) := by decide +kernel
theorem dX12_write_0 : decode cX12_write 0 = .ok (.aload_n 0, 1) := by decide +kernel
theorem dX12_write_1 : decode cX12_write 1 = .ok (.iconst 0, 1) := by decide +kernel
theorem dX12_write_2 : decode cX12_write 2 = .ok (.putfield 89, 3) := by decide +kernel
theorem dX12_write_5 : decode cX12_write 5 = .ok (.iload_n 1, 1) := by decide +kernel
theorem dX12_write_6 : decode cX12_write 6 = .ok (.invokestatic 98, 3) := by decide +kernel
theorem dX12_write_9 : decode cX12_write 9 = .ok (.ifCond .ne 6, 3) := by decide +kernel
theorem dX12_write_12 : decode cX12_write 12 = .ok (.bipush (-2), 2) := by decide +kernel
theorem dX12_write_14 : decode cX12_write 14 = .ok (.ireturn, 1) := by decide +kernel
theorem dX12_write_15 : decode cX12_write 15 = .ok (.aload_n 0, 1) := by decide +kernel
theorem dX12_write_16 : decode cX12_write 16 = .ok (.getfield 7, 3) := by decide +kernel
theorem dX12_write_19 : decode cX12_write 19 = .ok (.iload_n 1, 1) := by decide +kernel
theorem dX12_write_20 : decode cX12_write 20 = .ok (.iaload, 1) := by decide +kernel
theorem dX12_write_21 : decode cX12_write 21 = .ok (.iconst (-1), 1) := by decide +kernel
theorem dX12_write_22 : decode cX12_write 22 = .ok (.if_icmp .ne 6, 3) := by decide +kernel
theorem dX12_write_25 : decode cX12_write 25 = .ok (.bipush (-6), 2) := by decide +kernel
theorem dX12_write_27 : decode cX12_write 27 = .ok (.ireturn, 1) := by decide +kernel
theorem dX12_write_28 : decode cX12_write 28 = .ok (.iload_n 2, 1) := by decide +kernel
theorem dX12_write_29 : decode cX12_write 29 = .ok (.i2l, 1) := by decide +kernel
theorem dX12_write_30 : decode cX12_write 30 = .ok (.lconst 0, 1) := by decide +kernel
theorem dX12_write_31 : decode cX12_write 31 = .ok (.aload_n 0, 1) := by decide +kernel
theorem dX12_write_32 : decode cX12_write 32 = .ok (.getfield 13, 3) := by decide +kernel
theorem dX12_write_35 : decode cX12_write 35 = .ok (.iload_n 1, 1) := by decide +kernel
theorem dX12_write_36 : decode cX12_write 36 = .ok (.iaload, 1) := by decide +kernel
theorem dX12_write_37 : decode cX12_write 37 = .ok (.iconst 1, 1) := by decide +kernel
theorem dX12_write_38 : decode cX12_write 38 = .ok (.isub, 1) := by decide +kernel
theorem dX12_write_39 : decode cX12_write 39 = .ok (.i2l, 1) := by decide +kernel
theorem dX12_write_40 : decode cX12_write 40 = .ok (.invokestatic 94, 3) := by decide +kernel
theorem dX12_write_43 : decode cX12_write 43 = .ok (.ifCond .ne 6, 3) := by decide +kernel
theorem dX12_write_46 : decode cX12_write 46 = .ok (.bipush (-7), 2) := by decide +kernel
theorem dX12_write_48 : decode cX12_write 48 = .ok (.ireturn, 1) := by decide +kernel
theorem dX12_write_49 : decode cX12_write 49 = .ok (.aload_n 0, 1) := by decide +kernel
theorem dX12_write_50 : decode cX12_write 50 = .ok (.getfield 16, 3) := by decide +kernel
theorem dX12_write_53 : decode cX12_write 53 = .ok (.bipush 60, 2) := by decide +kernel
theorem dX12_write_55 : decode cX12_write 55 = .ok (.iload_n 1, 1) := by decide +kernel
theorem dX12_write_56 : decode cX12_write 56 = .ok (.imul, 1) := by decide +kernel
theorem dX12_write_57 : decode cX12_write 57 = .ok (.iload_n 2, 1) := by decide +kernel
theorem dX12_write_58 : decode cX12_write 58 = .ok (.iadd, 1) := by decide +kernel
theorem dX12_write_59 : decode cX12_write 59 = .ok (.lload_n 3, 1) := by decide +kernel
theorem dX12_write_60 : decode cX12_write 60 = .ok (.aload_n 0, 1) := by decide +kernel
theorem dX12_write_61 : decode cX12_write 61 = .ok (.getfield 7, 3) := by decide +kernel
theorem dX12_write_64 : decode cX12_write 64 = .ok (.iload_n 1, 1) := by decide +kernel
theorem dX12_write_65 : decode cX12_write 65 = .ok (.iaload, 1) := by decide +kernel
theorem dX12_write_66 : decode cX12_write 66 = .ok (.invokestatic 102, 3) := by decide +kernel
theorem dX12_write_69 : decode cX12_write 69 = .ok (.lastore, 1) := by decide +kernel
theorem dX12_write_70 : decode cX12_write 70 = .ok (.iconst 0, 1) := by decide +kernel
theorem dX12_write_71 : decode cX12_write 71 = .ok (.ireturn, 1) := by decide +kernel
theorem dX12_paste_0 : decode cX12_paste 0 = .ok (.aload_n 0, 1) := by decide +kernel
theorem dX12_paste_1 : decode cX12_paste 1 = .ok (.iconst 0, 1) := by decide +kernel
theorem dX12_paste_2 : decode cX12_paste 2 = .ok (.putfield 89, 3) := by decide +kernel
theorem dX12_paste_5 : decode cX12_paste 5 = .ok (.iload_n 1, 1) := by decide +kernel
theorem dX12_paste_6 : decode cX12_paste 6 = .ok (.invokestatic 98, 3) := by decide +kernel
theorem dX12_paste_9 : decode cX12_paste 9 = .ok (.ifCond .eq 10, 3) := by decide +kernel
theorem dX12_paste_12 : decode cX12_paste 12 = .ok (.iload_n 3, 1) := by decide +kernel
theorem dX12_paste_13 : decode cX12_paste 13 = .ok (.invokestatic 98, 3) := by decide +kernel
theorem dX12_paste_16 : decode cX12_paste 16 = .ok (.ifCond .ne 6, 3) := by decide +kernel
theorem dX12_paste_19 : decode cX12_paste 19 = .ok (.bipush (-2), 2) := by decide +kernel
theorem dX12_paste_21 : decode cX12_paste 21 = .ok (.ireturn, 1) := by decide +kernel
theorem dX12_paste_22 : decode cX12_paste 22 = .ok (.aload_n 0, 1) := by decide +kernel
theorem dX12_paste_23 : decode cX12_paste 23 = .ok (.getfield 7, 3) := by decide +kernel
theorem dX12_paste_26 : decode cX12_paste 26 = .ok (.iload_n 1, 1) := by decide +kernel
theorem dX12_paste_27 : decode cX12_paste 27 = .ok (.iaload, 1) := by decide +kernel
theorem dX12_paste_28 : decode cX12_paste 28 = .ok (.iconst (-1), 1) := by decide +kernel
theorem dX12_paste_29 : decode cX12_paste 29 = .ok (.if_icmp .eq 13, 3) := by decide +kernel
theorem dX12_paste_32 : decode cX12_paste 32 = .ok (.aload_n 0, 1) := by decide +kernel
theorem dX12_paste_33 : decode cX12_paste 33 = .ok (.getfield 7, 3) := by decide +kernel
theorem dX12_paste_36 : decode cX12_paste 36 = .ok (.iload_n 3, 1) := by decide +kernel
theorem dX12_paste_37 : decode cX12_paste 37 = .ok (.iaload, 1) := by decide +kernel
theorem dX12_paste_38 : decode cX12_paste 38 = .ok (.iconst (-1), 1) := by decide +kernel
theorem dX12_paste_39 : decode cX12_paste 39 = .ok (.if_icmp .ne 6, 3) := by decide +kernel
theorem dX12_paste_42 : decode cX12_paste 42 = .ok (.bipush (-6), 2) := by decide +kernel
theorem dX12_paste_44 : decode cX12_paste 44 = .ok (.ireturn, 1) := by decide +kernel
theorem dX12_paste_45 : decode cX12_paste 45 = .ok (.aload_n 0, 1) := by decide +kernel
theorem dX12_paste_46 : decode cX12_paste 46 = .ok (.getfield 7, 3) := by decide +kernel
theorem dX12_paste_49 : decode cX12_paste 49 = .ok (.iload_n 1, 1) := by decide +kernel
theorem dX12_paste_50 : decode cX12_paste 50 = .ok (.iaload, 1) := by decide +kernel
theorem dX12_paste_51 : decode cX12_paste 51 = .ok (.aload_n 0, 1) := by decide +kernel
theorem dX12_paste_52 : decode cX12_paste 52 = .ok (.getfield 7, 3) := by decide +kernel
theorem dX12_paste_55 : decode cX12_paste 55 = .ok (.iload_n 3, 1) := by decide +kernel
theorem dX12_paste_56 : decode cX12_paste 56 = .ok (.iaload, 1) := by decide +kernel
theorem dX12_paste_57 : decode cX12_paste 57 = .ok (.if_icmp .eq 6, 3) := by decide +kernel
theorem dX12_paste_60 : decode cX12_paste 60 = .ok (.bipush (-8), 2) := by decide +kernel
theorem dX12_paste_62 : decode cX12_paste 62 = .ok (.ireturn, 1) := by decide +kernel
theorem dX12_paste_63 : decode cX12_paste 63 = .ok (.iload_n 2, 1) := by decide +kernel
theorem dX12_paste_64 : decode cX12_paste 64 = .ok (.ifCond .lt 48, 3) := by decide +kernel
theorem dX12_paste_67 : decode cX12_paste 67 = .ok (.iload 4, 2) := by decide +kernel
theorem dX12_paste_69 : decode cX12_paste 69 = .ok (.ifCond .lt 43, 3) := by decide +kernel
theorem dX12_paste_72 : decode cX12_paste 72 = .ok (.iload 5, 2) := by decide +kernel
theorem dX12_paste_74 : decode cX12_paste 74 = .ok (.ifCond .lt 38, 3) := by decide +kernel
theorem dX12_paste_77 : decode cX12_paste 77 = .ok (.iload_n 2, 1) := by decide +kernel
theorem dX12_paste_78 : decode cX12_paste 78 = .ok (.i2l, 1) := by decide +kernel
theorem dX12_paste_79 : decode cX12_paste 79 = .ok (.iload 5, 2) := by decide +kernel
theorem dX12_paste_81 : decode cX12_paste 81 = .ok (.i2l, 1) := by decide +kernel
theorem dX12_paste_82 : decode cX12_paste 82 = .ok (.ladd, 1) := by decide +kernel
theorem dX12_paste_83 : decode cX12_paste 83 = .ok (.aload_n 0, 1) := by decide +kernel
theorem dX12_paste_84 : decode cX12_paste 84 = .ok (.getfield 13, 3) := by decide +kernel
theorem dX12_paste_87 : decode cX12_paste 87 = .ok (.iload_n 1, 1) := by decide +kernel
theorem dX12_paste_88 : decode cX12_paste 88 = .ok (.iaload, 1) := by decide +kernel
theorem dX12_paste_89 : decode cX12_paste 89 = .ok (.i2l, 1) := by decide +kernel
theorem dX12_paste_90 : decode cX12_paste 90 = .ok (.lcmp, 1) := by decide +kernel
theorem dX12_paste_91 : decode cX12_paste 91 = .ok (.ifCond .gt 21, 3) := by decide +kernel
theorem dX12_paste_94 : decode cX12_paste 94 = .ok (.iload 4, 2) := by decide +kernel
theorem dX12_paste_96 : decode cX12_paste 96 = .ok (.i2l, 1) := by decide +kernel
theorem dX12_paste_97 : decode cX12_paste 97 = .ok (.iload 5, 2) := by decide +kernel
theorem dX12_paste_99 : decode cX12_paste 99 = .ok (.i2l, 1) := by decide +kernel
theorem dX12_paste_100 : decode cX12_paste 100 = .ok (.ladd, 1) := by decide +kernel
theorem dX12_paste_101 : decode cX12_paste 101 = .ok (.aload_n 0, 1) := by decide +kernel
theorem dX12_paste_102 : decode cX12_paste 102 = .ok (.getfield 13, 3) := by decide +kernel
theorem dX12_paste_105 : decode cX12_paste 105 = .ok (.iload_n 3, 1) := by decide +kernel
theorem dX12_paste_106 : decode cX12_paste 106 = .ok (.iaload, 1) := by decide +kernel
theorem dX12_paste_107 : decode cX12_paste 107 = .ok (.i2l, 1) := by decide +kernel
theorem dX12_paste_108 : decode cX12_paste 108 = .ok (.lcmp, 1) := by decide +kernel
theorem dX12_paste_109 : decode cX12_paste 109 = .ok (.ifCond .le 6, 3) := by decide +kernel
theorem dX12_paste_112 : decode cX12_paste 112 = .ok (.bipush (-7), 2) := by decide +kernel
theorem dX12_paste_114 : decode cX12_paste 114 = .ok (.ireturn, 1) := by decide +kernel
theorem dX12_paste_115 : decode cX12_paste 115 = .ok (.iconst 0, 1) := by decide +kernel
theorem dX12_paste_116 : decode cX12_paste 116 = .ok (.istore 6, 2) := by decide +kernel
theorem dX12_paste_118 : decode cX12_paste 118 = .ok (.iload 6, 2) := by decide +kernel
theorem dX12_paste_120 : decode cX12_paste 120 = .ok (.iload 5, 2) := by decide +kernel
theorem dX12_paste_122 : decode cX12_paste 122 = .ok (.if_icmp .ge 30, 3) := by decide +kernel
theorem dX12_paste_125 : decode cX12_paste 125 = .ok (.aload_n 0, 1) := by decide +kernel
theorem dX12_paste_126 : decode cX12_paste 126 = .ok (.getfield 20, 3) := by decide +kernel
theorem dX12_paste_129 : decode cX12_paste 129 = .ok (.iload 6, 2) := by decide +kernel
theorem dX12_paste_131 : decode cX12_paste 131 = .ok (.aload_n 0, 1) := by decide +kernel
theorem dX12_paste_132 : decode cX12_paste 132 = .ok (.getfield 16, 3) := by decide +kernel
theorem dX12_paste_135 : decode cX12_paste 135 = .ok (.bipush 60, 2) := by decide +kernel
theorem dX12_paste_137 : decode cX12_paste 137 = .ok (.iload_n 1, 1) := by decide +kernel
theorem dX12_paste_138 : decode cX12_paste 138 = .ok (.imul, 1) := by decide +kernel
theorem dX12_paste_139 : decode cX12_paste 139 = .ok (.iload_n 2, 1) := by decide +kernel
theorem dX12_paste_140 : decode cX12_paste 140 = .ok (.iadd, 1) := by decide +kernel
theorem dX12_paste_141 : decode cX12_paste 141 = .ok (.iload 6, 2) := by decide +kernel
theorem dX12_paste_143 : decode cX12_paste 143 = .ok (.iadd, 1) := by decide +kernel
theorem dX12_paste_144 : decode cX12_paste 144 = .ok (.laload, 1) := by decide +kernel
theorem dX12_paste_145 : decode cX12_paste 145 = .ok (.lastore, 1) := by decide +kernel
theorem dX12_paste_146 : decode cX12_paste 146 = .ok (.iinc 6 1, 3) := by decide +kernel
theorem dX12_paste_149 : decode cX12_paste 149 = .ok (.goto (-31), 3) := by decide +kernel
theorem dX12_paste_152 : decode cX12_paste 152 = .ok (.iconst 0, 1) := by decide +kernel
theorem dX12_paste_153 : decode cX12_paste 153 = .ok (.istore 6, 2) := by decide +kernel
theorem dX12_paste_155 : decode cX12_paste 155 = .ok (.iload 6, 2) := by decide +kernel
theorem dX12_paste_157 : decode cX12_paste 157 = .ok (.iload 5, 2) := by decide +kernel
theorem dX12_paste_159 : decode cX12_paste 159 = .ok (.if_icmp .ge 31, 3) := by decide +kernel
theorem dX12_paste_162 : decode cX12_paste 162 = .ok (.aload_n 0, 1) := by decide +kernel
theorem dX12_paste_163 : decode cX12_paste 163 = .ok (.getfield 16, 3) := by decide +kernel
theorem dX12_paste_166 : decode cX12_paste 166 = .ok (.bipush 60, 2) := by decide +kernel
theorem dX12_paste_168 : decode cX12_paste 168 = .ok (.iload_n 3, 1) := by decide +kernel
theorem dX12_paste_169 : decode cX12_paste 169 = .ok (.imul, 1) := by decide +kernel
theorem dX12_paste_170 : decode cX12_paste 170 = .ok (.iload 4, 2) := by decide +kernel
theorem dX12_paste_172 : decode cX12_paste 172 = .ok (.iadd, 1) := by decide +kernel
theorem dX12_paste_173 : decode cX12_paste 173 = .ok (.iload 6, 2) := by decide +kernel
theorem dX12_paste_175 : decode cX12_paste 175 = .ok (.iadd, 1) := by decide +kernel
theorem dX12_paste_176 : decode cX12_paste 176 = .ok (.aload_n 0, 1) := by decide +kernel
theorem dX12_paste_177 : decode cX12_paste 177 = .ok (.getfield 20, 3) := by decide +kernel
theorem dX12_paste_180 : decode cX12_paste 180 = .ok (.iload 6, 2) := by decide +kernel
theorem dX12_paste_182 : decode cX12_paste 182 = .ok (.laload, 1) := by decide +kernel
theorem dX12_paste_183 : decode cX12_paste 183 = .ok (.lastore, 1) := by decide +kernel
theorem dX12_paste_184 : decode cX12_paste 184 = .ok (.iinc 6 1, 3) := by decide +kernel
theorem dX12_paste_187 : decode cX12_paste 187 = .ok (.goto (-32), 3) := by decide +kernel
theorem dX12_paste_190 : decode cX12_paste 190 = .ok (.iconst 0, 1) := by decide +kernel
theorem dX12_paste_191 : decode cX12_paste 191 = .ok (.ireturn, 1) := by decide +kernel
theorem dX12_feed_0 : decode cX12_feed 0 = .ok (.aload_n 0, 1) := by decide +kernel
theorem dX12_feed_1 : decode cX12_feed 1 = .ok (.iconst 0, 1) := by decide +kernel
theorem dX12_feed_2 : decode cX12_feed 2 = .ok (.putfield 89, 3) := by decide +kernel
theorem dX12_feed_5 : decode cX12_feed 5 = .ok (.aload_n 0, 1) := by decide +kernel
theorem dX12_feed_6 : decode cX12_feed 6 = .ok (.getfield 106, 3) := by decide +kernel
theorem dX12_feed_9 : decode cX12_feed 9 = .ok (.bipush 20, 2) := by decide +kernel
theorem dX12_feed_11 : decode cX12_feed 11 = .ok (.iadd, 1) := by decide +kernel
theorem dX12_feed_12 : decode cX12_feed 12 = .ok (.sipush 800, 3) := by decide +kernel
theorem dX12_feed_15 : decode cX12_feed 15 = .ok (.if_icmp .le 5, 3) := by decide +kernel
theorem dX12_feed_18 : decode cX12_feed 18 = .ok (.iconst (-1), 1) := by decide +kernel
theorem dX12_feed_19 : decode cX12_feed 19 = .ok (.ireturn, 1) := by decide +kernel
theorem dX12_feed_20 : decode cX12_feed 20 = .ok (.aload_n 0, 1) := by decide +kernel
theorem dX12_feed_21 : decode cX12_feed 21 = .ok (.iload_n 1, 1) := by decide +kernel
theorem dX12_feed_22 : decode cX12_feed 22 = .ok (.invokevirtual 109, 3) := by decide +kernel
theorem dX12_feed_25 : decode cX12_feed 25 = .ok (.aload_n 0, 1) := by decide +kernel
theorem dX12_feed_26 : decode cX12_feed 26 = .ok (.iload_n 2, 1) := by decide +kernel
theorem dX12_feed_27 : decode cX12_feed 27 = .ok (.invokevirtual 109, 3) := by decide +kernel
theorem dX12_feed_30 : decode cX12_feed 30 = .ok (.aload_n 0, 1) := by decide +kernel
theorem dX12_feed_31 : decode cX12_feed 31 = .ok (.iload_n 3, 1) := by decide +kernel
theorem dX12_feed_32 : decode cX12_feed 32 = .ok (.invokevirtual 109, 3) := by decide +kernel
theorem dX12_feed_35 : decode cX12_feed 35 = .ok (.aload_n 0, 1) := by decide +kernel
theorem dX12_feed_36 : decode cX12_feed 36 = .ok (.iload 4, 2) := by decide +kernel
theorem dX12_feed_38 : decode cX12_feed 38 = .ok (.invokevirtual 109, 3) := by decide +kernel
theorem dX12_feed_41 : decode cX12_feed 41 = .ok (.aload_n 0, 1) := by decide +kernel
theorem dX12_feed_42 : decode cX12_feed 42 = .ok (.iload 5, 2) := by decide +kernel
theorem dX12_feed_44 : decode cX12_feed 44 = .ok (.invokevirtual 109, 3) := by decide +kernel
theorem dX12_feed_47 : decode cX12_feed 47 = .ok (.aload_n 0, 1) := by decide +kernel
theorem dX12_feed_48 : decode cX12_feed 48 = .ok (.getfield 106, 3) := by decide +kernel
theorem dX12_feed_51 : decode cX12_feed 51 = .ok (.ireturn, 1) := by decide +kernel
theorem dX12_four_0 : decode cX12_four 0 = .ok (.bipush 24, 2) := by decide +kernel
theorem dX12_four_2 : decode cX12_four 2 = .ok (.istore_n 2, 1) := by decide +kernel
theorem dX12_four_3 : decode cX12_four 3 = .ok (.iload_n 2, 1) := by decide +kernel
theorem dX12_four_4 : decode cX12_four 4 = .ok (.ifCond .lt 32, 3) := by decide +kernel
theorem dX12_four_7 : decode cX12_four 7 = .ok (.aload_n 0, 1) := by decide +kernel
theorem dX12_four_8 : decode cX12_four 8 = .ok (.getfield 23, 3) := by decide +kernel
theorem dX12_four_11 : decode cX12_four 11 = .ok (.aload_n 0, 1) := by decide +kernel
theorem dX12_four_12 : decode cX12_four 12 = .ok (.getfield 106, 3) := by decide +kernel
theorem dX12_four_15 : decode cX12_four 15 = .ok (.iload_n 1, 1) := by decide +kernel
theorem dX12_four_16 : decode cX12_four 16 = .ok (.iload_n 2, 1) := by decide +kernel
theorem dX12_four_17 : decode cX12_four 17 = .ok (.ishr, 1) := by decide +kernel
theorem dX12_four_18 : decode cX12_four 18 = .ok (.i2b, 1) := by decide +kernel
theorem dX12_four_19 : decode cX12_four 19 = .ok (.bastore, 1) := by decide +kernel
theorem dX12_four_20 : decode cX12_four 20 = .ok (.aload_n 0, 1) := by decide +kernel
theorem dX12_four_21 : decode cX12_four 21 = .ok (.dup, 1) := by decide +kernel
theorem dX12_four_22 : decode cX12_four 22 = .ok (.getfield 106, 3) := by decide +kernel
theorem dX12_four_25 : decode cX12_four 25 = .ok (.iconst 1, 1) := by decide +kernel
theorem dX12_four_26 : decode cX12_four 26 = .ok (.iadd, 1) := by decide +kernel
theorem dX12_four_27 : decode cX12_four 27 = .ok (.putfield 106, 3) := by decide +kernel
theorem dX12_four_30 : decode cX12_four 30 = .ok (.iinc 2 (-8), 3) := by decide +kernel
theorem dX12_four_33 : decode cX12_four 33 = .ok (.goto (-30), 3) := by decide +kernel
theorem dX12_four_36 : decode cX12_four 36 = .ok (.return_, 1) := by decide +kernel
theorem dX12_end_0 : decode cX12_end 0 = .ok (.aload_n 0, 1) := by decide +kernel
theorem dX12_end_1 : decode cX12_end 1 = .ok (.iconst 0, 1) := by decide +kernel
theorem dX12_end_2 : decode cX12_end 2 = .ok (.putfield 89, 3) := by decide +kernel
theorem dX12_end_5 : decode cX12_end 5 = .ok (.iload_n 1, 1) := by decide +kernel
theorem dX12_end_6 : decode cX12_end 6 = .ok (.i2l, 1) := by decide +kernel
theorem dX12_end_7 : decode cX12_end 7 = .ok (.lconst 0, 1) := by decide +kernel
theorem dX12_end_8 : decode cX12_end 8 = .ok (.aload_n 0, 1) := by decide +kernel
theorem dX12_end_9 : decode cX12_end 9 = .ok (.getfield 106, 3) := by decide +kernel
theorem dX12_end_12 : decode cX12_end 12 = .ok (.i2l, 1) := by decide +kernel
theorem dX12_end_13 : decode cX12_end 13 = .ok (.invokestatic 94, 3) := by decide +kernel
theorem dX12_end_16 : decode cX12_end 16 = .ok (.ifCond .ne 5, 3) := by decide +kernel
theorem dX12_end_19 : decode cX12_end 19 = .ok (.iconst (-1), 1) := by decide +kernel
theorem dX12_end_20 : decode cX12_end 20 = .ok (.ireturn, 1) := by decide +kernel
theorem dX12_end_21 : decode cX12_end 21 = .ok (.aload_n 0, 1) := by decide +kernel
theorem dX12_end_22 : decode cX12_end 22 = .ok (.iload_n 1, 1) := by decide +kernel
theorem dX12_end_23 : decode cX12_end 23 = .ok (.putfield 106, 3) := by decide +kernel
theorem dX12_end_26 : decode cX12_end 26 = .ok (.iload_n 1, 1) := by decide +kernel
theorem dX12_end_27 : decode cX12_end 27 = .ok (.ireturn, 1) := by decide +kernel
theorem dX12_isByte_0 : decode cX12_isByte 0 = .ok (.iload_n 1, 1) := by decide +kernel
theorem dX12_isByte_1 : decode cX12_isByte 1 = .ok (.aload_n 0, 1) := by decide +kernel
theorem dX12_isByte_2 : decode cX12_isByte 2 = .ok (.getfield 106, 3) := by decide +kernel
theorem dX12_isByte_5 : decode cX12_isByte 5 = .ok (.if_icmp .ge 27, 3) := by decide +kernel
theorem dX12_isByte_8 : decode cX12_isByte 8 = .ok (.aload_n 0, 1) := by decide +kernel
theorem dX12_isByte_9 : decode cX12_isByte 9 = .ok (.getfield 23, 3) := by decide +kernel
theorem dX12_isByte_12 : decode cX12_isByte 12 = .ok (.iload_n 1, 1) := by decide +kernel
theorem dX12_isByte_13 : decode cX12_isByte 13 = .ok (.baload, 1) := by decide +kernel
theorem dX12_isByte_14 : decode cX12_isByte 14 = .ok (.iload_n 2, 1) := by decide +kernel
theorem dX12_isByte_15 : decode cX12_isByte 15 = .ok (.if_icmp .lt 17, 3) := by decide +kernel
theorem dX12_isByte_18 : decode cX12_isByte 18 = .ok (.aload_n 0, 1) := by decide +kernel
theorem dX12_isByte_19 : decode cX12_isByte 19 = .ok (.getfield 23, 3) := by decide +kernel
theorem dX12_isByte_22 : decode cX12_isByte 22 = .ok (.iload_n 1, 1) := by decide +kernel
theorem dX12_isByte_23 : decode cX12_isByte 23 = .ok (.baload, 1) := by decide +kernel
theorem dX12_isByte_24 : decode cX12_isByte 24 = .ok (.iload_n 3, 1) := by decide +kernel
theorem dX12_isByte_25 : decode cX12_isByte 25 = .ok (.if_icmp .gt 7, 3) := by decide +kernel
theorem dX12_isByte_28 : decode cX12_isByte 28 = .ok (.iconst 1, 1) := by decide +kernel
theorem dX12_isByte_29 : decode cX12_isByte 29 = .ok (.goto 4, 3) := by decide +kernel
theorem dX12_isByte_32 : decode cX12_isByte 32 = .ok (.iconst 0, 1) := by decide +kernel
theorem dX12_isByte_33 : decode cX12_isByte 33 = .ok (.ireturn, 1) := by decide +kernel
theorem dX12_next_0 : decode cX12_next 0 = .ok (.aload_n 0, 1) := by decide +kernel
theorem dX12_next_1 : decode cX12_next 1 = .ok (.aload_n 0, 1) := by decide +kernel
theorem dX12_next_2 : decode cX12_next 2 = .ok (.getfield 113, 3) := by decide +kernel
theorem dX12_next_5 : decode cX12_next 5 = .ok (.bipush 32, 2) := by decide +kernel
theorem dX12_next_7 : decode cX12_next 7 = .ok (.bipush 32, 2) := by decide +kernel
theorem dX12_next_9 : decode cX12_next 9 = .ok (.invokevirtual 116, 3) := by decide +kernel
theorem dX12_next_12 : decode cX12_next 12 = .ok (.ifCond .ne 18, 3) := by decide +kernel
theorem dX12_next_15 : decode cX12_next 15 = .ok (.aload_n 0, 1) := by decide +kernel
theorem dX12_next_16 : decode cX12_next 16 = .ok (.aload_n 0, 1) := by decide +kernel
theorem dX12_next_17 : decode cX12_next 17 = .ok (.getfield 113, 3) := by decide +kernel
theorem dX12_next_20 : decode cX12_next 20 = .ok (.bipush 10, 2) := by decide +kernel
theorem dX12_next_22 : decode cX12_next 22 = .ok (.bipush 10, 2) := by decide +kernel
theorem dX12_next_24 : decode cX12_next 24 = .ok (.invokevirtual 116, 3) := by decide +kernel
theorem dX12_next_27 : decode cX12_next 27 = .ok (.ifCond .eq 16, 3) := by decide +kernel
theorem dX12_next_30 : decode cX12_next 30 = .ok (.aload_n 0, 1) := by decide +kernel
theorem dX12_next_31 : decode cX12_next 31 = .ok (.dup, 1) := by decide +kernel
theorem dX12_next_32 : decode cX12_next 32 = .ok (.getfield 113, 3) := by decide +kernel
theorem dX12_next_35 : decode cX12_next 35 = .ok (.iconst 1, 1) := by decide +kernel
theorem dX12_next_36 : decode cX12_next 36 = .ok (.iadd, 1) := by decide +kernel
theorem dX12_next_37 : decode cX12_next 37 = .ok (.putfield 113, 3) := by decide +kernel
theorem dX12_next_40 : decode cX12_next 40 = .ok (.goto (-40), 3) := by decide +kernel
theorem dX12_next_43 : decode cX12_next 43 = .ok (.aload_n 0, 1) := by decide +kernel
theorem dX12_next_44 : decode cX12_next 44 = .ok (.aload_n 0, 1) := by decide +kernel
theorem dX12_next_45 : decode cX12_next 45 = .ok (.getfield 113, 3) := by decide +kernel
theorem dX12_next_48 : decode cX12_next 48 = .ok (.putfield 120, 3) := by decide +kernel
theorem dX12_next_51 : decode cX12_next 51 = .ok (.aload_n 0, 1) := by decide +kernel
theorem dX12_next_52 : decode cX12_next 52 = .ok (.iconst 0, 1) := by decide +kernel
theorem dX12_next_53 : decode cX12_next 53 = .ok (.putfield 123, 3) := by decide +kernel
theorem dX12_next_56 : decode cX12_next 56 = .ok (.aload_n 0, 1) := by decide +kernel
theorem dX12_next_57 : decode cX12_next 57 = .ok (.lconst 0, 1) := by decide +kernel
theorem dX12_next_58 : decode cX12_next 58 = .ok (.putfield 126, 3) := by decide +kernel
theorem dX12_next_61 : decode cX12_next 61 = .ok (.aload_n 0, 1) := by decide +kernel
theorem dX12_next_62 : decode cX12_next 62 = .ok (.getfield 113, 3) := by decide +kernel
theorem dX12_next_65 : decode cX12_next 65 = .ok (.aload_n 0, 1) := by decide +kernel
theorem dX12_next_66 : decode cX12_next 66 = .ok (.getfield 106, 3) := by decide +kernel
theorem dX12_next_69 : decode cX12_next 69 = .ok (.if_icmp .ne 11, 3) := by decide +kernel
theorem dX12_next_72 : decode cX12_next 72 = .ok (.aload_n 0, 1) := by decide +kernel
theorem dX12_next_73 : decode cX12_next 73 = .ok (.iconst 0, 1) := by decide +kernel
theorem dX12_next_74 : decode cX12_next 74 = .ok (.putfield 130, 3) := by decide +kernel
theorem dX12_next_77 : decode cX12_next 77 = .ok (.goto 230, 3) := by decide +kernel
theorem dX12_next_80 : decode cX12_next 80 = .ok (.aload_n 0, 1) := by decide +kernel
theorem dX12_next_81 : decode cX12_next 81 = .ok (.aload_n 0, 1) := by decide +kernel
theorem dX12_next_82 : decode cX12_next 82 = .ok (.getfield 113, 3) := by decide +kernel
theorem dX12_next_85 : decode cX12_next 85 = .ok (.bipush 97, 2) := by decide +kernel
theorem dX12_next_87 : decode cX12_next 87 = .ok (.bipush 122, 2) := by decide +kernel
theorem dX12_next_89 : decode cX12_next 89 = .ok (.invokevirtual 116, 3) := by decide +kernel
theorem dX12_next_92 : decode cX12_next 92 = .ok (.ifCond .eq 96, 3) := by decide +kernel
theorem dX12_next_95 : decode cX12_next 95 = .ok (.aload_n 0, 1) := by decide +kernel
theorem dX12_next_96 : decode cX12_next 96 = .ok (.iconst 1, 1) := by decide +kernel
theorem dX12_next_97 : decode cX12_next 97 = .ok (.putfield 130, 3) := by decide +kernel
theorem dX12_next_100 : decode cX12_next 100 = .ok (.iconst 0, 1) := by decide +kernel
theorem dX12_next_101 : decode cX12_next 101 = .ok (.istore_n 1, 1) := by decide +kernel
theorem dX12_next_102 : decode cX12_next 102 = .ok (.aload_n 0, 1) := by decide +kernel
theorem dX12_next_103 : decode cX12_next 103 = .ok (.aload_n 0, 1) := by decide +kernel
theorem dX12_next_104 : decode cX12_next 104 = .ok (.getfield 113, 3) := by decide +kernel
theorem dX12_next_107 : decode cX12_next 107 = .ok (.bipush 97, 2) := by decide +kernel
theorem dX12_next_109 : decode cX12_next 109 = .ok (.bipush 122, 2) := by decide +kernel
theorem dX12_next_111 : decode cX12_next 111 = .ok (.invokevirtual 116, 3) := by decide +kernel
theorem dX12_next_114 : decode cX12_next 114 = .ok (.ifCond .eq 71, 3) := by decide +kernel
theorem dX12_next_117 : decode cX12_next 117 = .ok (.aload_n 0, 1) := by decide +kernel
theorem dX12_next_118 : decode cX12_next 118 = .ok (.iload_n 1, 1) := by decide +kernel
theorem dX12_next_119 : decode cX12_next 119 = .ok (.bipush 11, 2) := by decide +kernel
theorem dX12_next_121 : decode cX12_next 121 = .ok (.if_icmp .le 9, 3) := by decide +kernel
theorem dX12_next_124 : decode cX12_next 124 = .ok (.ldc2_w 133, 3) := by decide +kernel
theorem dX12_next_127 : decode cX12_next 127 = .ok (.goto 26, 3) := by decide +kernel
theorem dX12_next_130 : decode cX12_next 130 = .ok (.ldc2_w 135, 3) := by decide +kernel
theorem dX12_next_133 : decode cX12_next 133 = .ok (.aload_n 0, 1) := by decide +kernel
theorem dX12_next_134 : decode cX12_next 134 = .ok (.getfield 126, 3) := by decide +kernel
theorem dX12_next_137 : decode cX12_next 137 = .ok (.lmul, 1) := by decide +kernel
theorem dX12_next_138 : decode cX12_next 138 = .ok (.aload_n 0, 1) := by decide +kernel
theorem dX12_next_139 : decode cX12_next 139 = .ok (.getfield 23, 3) := by decide +kernel
theorem dX12_next_142 : decode cX12_next 142 = .ok (.aload_n 0, 1) := by decide +kernel
theorem dX12_next_143 : decode cX12_next 143 = .ok (.getfield 113, 3) := by decide +kernel
theorem dX12_next_146 : decode cX12_next 146 = .ok (.baload, 1) := by decide +kernel
theorem dX12_next_147 : decode cX12_next 147 = .ok (.i2l, 1) := by decide +kernel
theorem dX12_next_148 : decode cX12_next 148 = .ok (.ladd, 1) := by decide +kernel
theorem dX12_next_149 : decode cX12_next 149 = .ok (.ldc2_w 137, 3) := by decide +kernel
theorem dX12_next_152 : decode cX12_next 152 = .ok (.lsub, 1) := by decide +kernel
theorem dX12_next_153 : decode cX12_next 153 = .ok (.putfield 126, 3) := by decide +kernel
theorem dX12_next_156 : decode cX12_next 156 = .ok (.iload_n 1, 1) := by decide +kernel
theorem dX12_next_157 : decode cX12_next 157 = .ok (.bipush 11, 2) := by decide +kernel
theorem dX12_next_159 : decode cX12_next 159 = .ok (.if_icmp .le 10, 3) := by decide +kernel
theorem dX12_next_162 : decode cX12_next 162 = .ok (.aload_n 0, 1) := by decide +kernel
theorem dX12_next_163 : decode cX12_next 163 = .ok (.ldc2_w 133, 3) := by decide +kernel
theorem dX12_next_166 : decode cX12_next 166 = .ok (.putfield 126, 3) := by decide +kernel
theorem dX12_next_169 : decode cX12_next 169 = .ok (.aload_n 0, 1) := by decide +kernel
theorem dX12_next_170 : decode cX12_next 170 = .ok (.dup, 1) := by decide +kernel
theorem dX12_next_171 : decode cX12_next 171 = .ok (.getfield 113, 3) := by decide +kernel
theorem dX12_next_174 : decode cX12_next 174 = .ok (.iconst 1, 1) := by decide +kernel
theorem dX12_next_175 : decode cX12_next 175 = .ok (.iadd, 1) := by decide +kernel
theorem dX12_next_176 : decode cX12_next 176 = .ok (.putfield 113, 3) := by decide +kernel
theorem dX12_next_179 : decode cX12_next 179 = .ok (.iinc 1 1, 3) := by decide +kernel
theorem dX12_next_182 : decode cX12_next 182 = .ok (.goto (-80), 3) := by decide +kernel
theorem dX12_next_185 : decode cX12_next 185 = .ok (.goto 122, 3) := by decide +kernel
theorem dX12_next_188 : decode cX12_next 188 = .ok (.aload_n 0, 1) := by decide +kernel
theorem dX12_next_189 : decode cX12_next 189 = .ok (.aload_n 0, 1) := by decide +kernel
theorem dX12_next_190 : decode cX12_next 190 = .ok (.getfield 113, 3) := by decide +kernel
theorem dX12_next_193 : decode cX12_next 193 = .ok (.bipush 48, 2) := by decide +kernel
theorem dX12_next_195 : decode cX12_next 195 = .ok (.bipush 57, 2) := by decide +kernel
theorem dX12_next_197 : decode cX12_next 197 = .ok (.invokevirtual 116, 3) := by decide +kernel
theorem dX12_next_200 : decode cX12_next 200 = .ok (.ifCond .eq 74, 3) := by decide +kernel
theorem dX12_next_203 : decode cX12_next 203 = .ok (.aload_n 0, 1) := by decide +kernel
theorem dX12_next_204 : decode cX12_next 204 = .ok (.iconst 2, 1) := by decide +kernel
theorem dX12_next_205 : decode cX12_next 205 = .ok (.putfield 130, 3) := by decide +kernel
theorem dX12_next_208 : decode cX12_next 208 = .ok (.aload_n 0, 1) := by decide +kernel
theorem dX12_next_209 : decode cX12_next 209 = .ok (.aload_n 0, 1) := by decide +kernel
theorem dX12_next_210 : decode cX12_next 210 = .ok (.getfield 113, 3) := by decide +kernel
theorem dX12_next_213 : decode cX12_next 213 = .ok (.bipush 48, 2) := by decide +kernel
theorem dX12_next_215 : decode cX12_next 215 = .ok (.bipush 57, 2) := by decide +kernel
theorem dX12_next_217 : decode cX12_next 217 = .ok (.invokevirtual 116, 3) := by decide +kernel
theorem dX12_next_220 : decode cX12_next 220 = .ok (.ifCond .eq 87, 3) := by decide +kernel
theorem dX12_next_223 : decode cX12_next 223 = .ok (.aload_n 0, 1) := by decide +kernel
theorem dX12_next_224 : decode cX12_next 224 = .ok (.aload_n 0, 1) := by decide +kernel
theorem dX12_next_225 : decode cX12_next 225 = .ok (.getfield 123, 3) := by decide +kernel
theorem dX12_next_228 : decode cX12_next 228 = .ok (.ldc 139, 2) := by decide +kernel
theorem dX12_next_230 : decode cX12_next 230 = .ok (.if_icmp .le 8, 3) := by decide +kernel
theorem dX12_next_233 : decode cX12_next 233 = .ok (.ldc 140, 2) := by decide +kernel
theorem dX12_next_235 : decode cX12_next 235 = .ok (.goto 23, 3) := by decide +kernel
theorem dX12_next_238 : decode cX12_next 238 = .ok (.bipush 10, 2) := by decide +kernel
theorem dX12_next_240 : decode cX12_next 240 = .ok (.aload_n 0, 1) := by decide +kernel
theorem dX12_next_241 : decode cX12_next 241 = .ok (.getfield 123, 3) := by decide +kernel
theorem dX12_next_244 : decode cX12_next 244 = .ok (.imul, 1) := by decide +kernel
theorem dX12_next_245 : decode cX12_next 245 = .ok (.aload_n 0, 1) := by decide +kernel
theorem dX12_next_246 : decode cX12_next 246 = .ok (.getfield 23, 3) := by decide +kernel
theorem dX12_next_249 : decode cX12_next 249 = .ok (.aload_n 0, 1) := by decide +kernel
theorem dX12_next_250 : decode cX12_next 250 = .ok (.getfield 113, 3) := by decide +kernel
theorem dX12_next_253 : decode cX12_next 253 = .ok (.baload, 1) := by decide +kernel
theorem dX12_next_254 : decode cX12_next 254 = .ok (.iadd, 1) := by decide +kernel
theorem dX12_next_255 : decode cX12_next 255 = .ok (.bipush 48, 2) := by decide +kernel
theorem dX12_next_257 : decode cX12_next 257 = .ok (.isub, 1) := by decide +kernel
theorem dX12_next_258 : decode cX12_next 258 = .ok (.putfield 123, 3) := by decide +kernel
theorem dX12_next_261 : decode cX12_next 261 = .ok (.aload_n 0, 1) := by decide +kernel
theorem dX12_next_262 : decode cX12_next 262 = .ok (.dup, 1) := by decide +kernel
theorem dX12_next_263 : decode cX12_next 263 = .ok (.getfield 113, 3) := by decide +kernel
theorem dX12_next_266 : decode cX12_next 266 = .ok (.iconst 1, 1) := by decide +kernel
theorem dX12_next_267 : decode cX12_next 267 = .ok (.iadd, 1) := by decide +kernel
theorem dX12_next_268 : decode cX12_next 268 = .ok (.putfield 113, 3) := by decide +kernel
theorem dX12_next_271 : decode cX12_next 271 = .ok (.goto (-63), 3) := by decide +kernel
theorem dX12_next_274 : decode cX12_next 274 = .ok (.aload_n 0, 1) := by decide +kernel
theorem dX12_next_275 : decode cX12_next 275 = .ok (.aload_n 0, 1) := by decide +kernel
theorem dX12_next_276 : decode cX12_next 276 = .ok (.getfield 23, 3) := by decide +kernel
theorem dX12_next_279 : decode cX12_next 279 = .ok (.aload_n 0, 1) := by decide +kernel
theorem dX12_next_280 : decode cX12_next 280 = .ok (.getfield 113, 3) := by decide +kernel
theorem dX12_next_283 : decode cX12_next 283 = .ok (.baload, 1) := by decide +kernel
theorem dX12_next_284 : decode cX12_next 284 = .ok (.bipush 59, 2) := by decide +kernel
theorem dX12_next_286 : decode cX12_next 286 = .ok (.if_icmp .ne 7, 3) := by decide +kernel
theorem dX12_next_289 : decode cX12_next 289 = .ok (.iconst 3, 1) := by decide +kernel
theorem dX12_next_290 : decode cX12_next 290 = .ok (.goto 4, 3) := by decide +kernel
theorem dX12_next_293 : decode cX12_next 293 = .ok (.iconst 4, 1) := by decide +kernel
theorem dX12_next_294 : decode cX12_next 294 = .ok (.putfield 130, 3) := by decide +kernel
theorem dX12_next_297 : decode cX12_next 297 = .ok (.aload_n 0, 1) := by decide +kernel
theorem dX12_next_298 : decode cX12_next 298 = .ok (.dup, 1) := by decide +kernel
theorem dX12_next_299 : decode cX12_next 299 = .ok (.getfield 113, 3) := by decide +kernel
theorem dX12_next_302 : decode cX12_next 302 = .ok (.iconst 1, 1) := by decide +kernel
theorem dX12_next_303 : decode cX12_next 303 = .ok (.iadd, 1) := by decide +kernel
theorem dX12_next_304 : decode cX12_next 304 = .ok (.putfield 113, 3) := by decide +kernel
theorem dX12_next_307 : decode cX12_next 307 = .ok (.return_, 1) := by decide +kernel
theorem dX12_isGood_0 : decode cX12_isGood 0 = .ok (.aload_n 0, 1) := by decide +kernel
theorem dX12_isGood_1 : decode cX12_isGood 1 = .ok (.getfield 141, 3) := by decide +kernel
theorem dX12_isGood_4 : decode cX12_isGood 4 = .ok (.ifCond .ne 7, 3) := by decide +kernel
theorem dX12_isGood_7 : decode cX12_isGood 7 = .ok (.iconst 1, 1) := by decide +kernel
theorem dX12_isGood_8 : decode cX12_isGood 8 = .ok (.goto 4, 3) := by decide +kernel
theorem dX12_isGood_11 : decode cX12_isGood 11 = .ok (.iconst 0, 1) := by decide +kernel
theorem dX12_isGood_12 : decode cX12_isGood 12 = .ok (.ireturn, 1) := by decide +kernel
theorem dX12_fails_0 : decode cX12_fails 0 = .ok (.aload_n 0, 1) := by decide +kernel
theorem dX12_fails_1 : decode cX12_fails 1 = .ok (.getfield 141, 3) := by decide +kernel
theorem dX12_fails_4 : decode cX12_fails 4 = .ok (.ifCond .eq 4, 3) := by decide +kernel
theorem dX12_fails_7 : decode cX12_fails 7 = .ok (.return_, 1) := by decide +kernel
theorem dX12_fails_8 : decode cX12_fails 8 = .ok (.aload_n 0, 1) := by decide +kernel
theorem dX12_fails_9 : decode cX12_fails 9 = .ok (.iload_n 1, 1) := by decide +kernel
theorem dX12_fails_10 : decode cX12_fails 10 = .ok (.putfield 141, 3) := by decide +kernel
theorem dX12_fails_13 : decode cX12_fails 13 = .ok (.aload_n 0, 1) := by decide +kernel
theorem dX12_fails_14 : decode cX12_fails 14 = .ok (.aload_n 0, 1) := by decide +kernel
theorem dX12_fails_15 : decode cX12_fails 15 = .ok (.getfield 120, 3) := by decide +kernel
theorem dX12_fails_18 : decode cX12_fails 18 = .ok (.putfield 144, 3) := by decide +kernel
theorem dX12_fails_21 : decode cX12_fails 21 = .ok (.return_, 1) := by decide +kernel
theorem dX12_is_0 : decode cX12_is 0 = .ok (.aload_n 0, 1) := by decide +kernel
theorem dX12_is_1 : decode cX12_is 1 = .ok (.getfield 141, 3) := by decide +kernel
theorem dX12_is_4 : decode cX12_is 4 = .ok (.ifCond .ne 24, 3) := by decide +kernel
theorem dX12_is_7 : decode cX12_is 7 = .ok (.aload_n 0, 1) := by decide +kernel
theorem dX12_is_8 : decode cX12_is 8 = .ok (.getfield 130, 3) := by decide +kernel
theorem dX12_is_11 : decode cX12_is 11 = .ok (.iconst 1, 1) := by decide +kernel
theorem dX12_is_12 : decode cX12_is 12 = .ok (.if_icmp .ne 16, 3) := by decide +kernel
theorem dX12_is_15 : decode cX12_is 15 = .ok (.aload_n 0, 1) := by decide +kernel
theorem dX12_is_16 : decode cX12_is 16 = .ok (.getfield 126, 3) := by decide +kernel
theorem dX12_is_19 : decode cX12_is 19 = .ok (.lload_n 1, 1) := by decide +kernel
theorem dX12_is_20 : decode cX12_is 20 = .ok (.lcmp, 1) := by decide +kernel
theorem dX12_is_21 : decode cX12_is 21 = .ok (.ifCond .ne 7, 3) := by decide +kernel
theorem dX12_is_24 : decode cX12_is 24 = .ok (.iconst 1, 1) := by decide +kernel
theorem dX12_is_25 : decode cX12_is 25 = .ok (.goto 4, 3) := by decide +kernel
theorem dX12_is_28 : decode cX12_is 28 = .ok (.iconst 0, 1) := by decide +kernel
theorem dX12_is_29 : decode cX12_is 29 = .ok (.ireturn, 1) := by decide +kernel
theorem dX12_takes_0 : decode cX12_takes 0 = .ok (.aload_n 0, 1) := by decide +kernel
theorem dX12_takes_1 : decode cX12_takes 1 = .ok (.lload_n 1, 1) := by decide +kernel
theorem dX12_takes_2 : decode cX12_takes 2 = .ok (.invokevirtual 147, 3) := by decide +kernel
theorem dX12_takes_5 : decode cX12_takes 5 = .ok (.ifCond .ne 5, 3) := by decide +kernel
theorem dX12_takes_8 : decode cX12_takes 8 = .ok (.iconst 0, 1) := by decide +kernel
theorem dX12_takes_9 : decode cX12_takes 9 = .ok (.ireturn, 1) := by decide +kernel
theorem dX12_takes_10 : decode cX12_takes 10 = .ok (.aload_n 0, 1) := by decide +kernel
theorem dX12_takes_11 : decode cX12_takes 11 = .ok (.invokevirtual 151, 3) := by decide +kernel
theorem dX12_takes_14 : decode cX12_takes 14 = .ok (.iconst 1, 1) := by decide +kernel
theorem dX12_takes_15 : decode cX12_takes 15 = .ok (.ireturn, 1) := by decide +kernel
theorem dX12_asks_0 : decode cX12_asks 0 = .ok (.aload_n 0, 1) := by decide +kernel
theorem dX12_asks_1 : decode cX12_asks 1 = .ok (.lload_n 1, 1) := by decide +kernel
theorem dX12_asks_2 : decode cX12_asks 2 = .ok (.invokevirtual 154, 3) := by decide +kernel
theorem dX12_asks_5 : decode cX12_asks 5 = .ok (.ifCond .ne 8, 3) := by decide +kernel
theorem dX12_asks_8 : decode cX12_asks 8 = .ok (.aload_n 0, 1) := by decide +kernel
theorem dX12_asks_9 : decode cX12_asks 9 = .ok (.iconst 1, 1) := by decide +kernel
theorem dX12_asks_10 : decode cX12_asks 10 = .ok (.invokevirtual 157, 3) := by decide +kernel
theorem dX12_asks_13 : decode cX12_asks 13 = .ok (.return_, 1) := by decide +kernel
theorem dX12_number_0 : decode cX12_number 0 = .ok (.aload_n 0, 1) := by decide +kernel
theorem dX12_number_1 : decode cX12_number 1 = .ok (.getfield 141, 3) := by decide +kernel
theorem dX12_number_4 : decode cX12_number 4 = .ok (.ifCond .eq 5, 3) := by decide +kernel
theorem dX12_number_7 : decode cX12_number 7 = .ok (.iload_n 1, 1) := by decide +kernel
theorem dX12_number_8 : decode cX12_number 8 = .ok (.ireturn, 1) := by decide +kernel
theorem dX12_number_9 : decode cX12_number 9 = .ok (.aload_n 0, 1) := by decide +kernel
theorem dX12_number_10 : decode cX12_number 10 = .ok (.getfield 130, 3) := by decide +kernel
theorem dX12_number_13 : decode cX12_number 13 = .ok (.iconst 2, 1) := by decide +kernel
theorem dX12_number_14 : decode cX12_number 14 = .ok (.if_icmp .eq 10, 3) := by decide +kernel
theorem dX12_number_17 : decode cX12_number 17 = .ok (.aload_n 0, 1) := by decide +kernel
theorem dX12_number_18 : decode cX12_number 18 = .ok (.iconst 1, 1) := by decide +kernel
theorem dX12_number_19 : decode cX12_number 19 = .ok (.invokevirtual 157, 3) := by decide +kernel
theorem dX12_number_22 : decode cX12_number 22 = .ok (.iload_n 1, 1) := by decide +kernel
theorem dX12_number_23 : decode cX12_number 23 = .ok (.ireturn, 1) := by decide +kernel
theorem dX12_number_24 : decode cX12_number 24 = .ok (.aload_n 0, 1) := by decide +kernel
theorem dX12_number_25 : decode cX12_number 25 = .ok (.getfield 123, 3) := by decide +kernel
theorem dX12_number_28 : decode cX12_number 28 = .ok (.i2l, 1) := by decide +kernel
theorem dX12_number_29 : decode cX12_number 29 = .ok (.iload_n 1, 1) := by decide +kernel
theorem dX12_number_30 : decode cX12_number 30 = .ok (.i2l, 1) := by decide +kernel
theorem dX12_number_31 : decode cX12_number 31 = .ok (.iload_n 2, 1) := by decide +kernel
theorem dX12_number_32 : decode cX12_number 32 = .ok (.i2l, 1) := by decide +kernel
theorem dX12_number_33 : decode cX12_number 33 = .ok (.invokestatic 94, 3) := by decide +kernel
theorem dX12_number_36 : decode cX12_number 36 = .ok (.ifCond .ne 10, 3) := by decide +kernel
theorem dX12_number_39 : decode cX12_number 39 = .ok (.aload_n 0, 1) := by decide +kernel
theorem dX12_number_40 : decode cX12_number 40 = .ok (.iconst 2, 1) := by decide +kernel
theorem dX12_number_41 : decode cX12_number 41 = .ok (.invokevirtual 157, 3) := by decide +kernel
theorem dX12_number_44 : decode cX12_number 44 = .ok (.iload_n 1, 1) := by decide +kernel
theorem dX12_number_45 : decode cX12_number 45 = .ok (.ireturn, 1) := by decide +kernel
theorem dX12_number_46 : decode cX12_number 46 = .ok (.aload_n 0, 1) := by decide +kernel
theorem dX12_number_47 : decode cX12_number 47 = .ok (.getfield 123, 3) := by decide +kernel
theorem dX12_number_50 : decode cX12_number 50 = .ok (.istore_n 3, 1) := by decide +kernel
theorem dX12_number_51 : decode cX12_number 51 = .ok (.aload_n 0, 1) := by decide +kernel
theorem dX12_number_52 : decode cX12_number 52 = .ok (.invokevirtual 151, 3) := by decide +kernel
theorem dX12_number_55 : decode cX12_number 55 = .ok (.iload_n 3, 1) := by decide +kernel
theorem dX12_number_56 : decode cX12_number 56 = .ok (.ireturn, 1) := by decide +kernel
theorem dX12_number__0 : decode cX12_number_ 0 = .ok (.aload_n 0, 1) := by decide +kernel
theorem dX12_number__1 : decode cX12_number_ 1 = .ok (.lload_n 1, 1) := by decide +kernel
theorem dX12_number__2 : decode cX12_number_ 2 = .ok (.invokevirtual 160, 3) := by decide +kernel
theorem dX12_number__5 : decode cX12_number_ 5 = .ok (.aload_n 0, 1) := by decide +kernel
theorem dX12_number__6 : decode cX12_number_ 6 = .ok (.iload_n 3, 1) := by decide +kernel
theorem dX12_number__7 : decode cX12_number_ 7 = .ok (.iload 4, 2) := by decide +kernel
theorem dX12_number__9 : decode cX12_number_ 9 = .ok (.invokevirtual 164, 3) := by decide +kernel
theorem dX12_number__12 : decode cX12_number_ 12 = .ok (.ireturn, 1) := by decide +kernel
theorem dX12_ends_0 : decode cX12_ends 0 = .ok (.aload_n 0, 1) := by decide +kernel
theorem dX12_ends_1 : decode cX12_ends 1 = .ok (.getfield 130, 3) := by decide +kernel
theorem dX12_ends_4 : decode cX12_ends 4 = .ok (.iconst 3, 1) := by decide +kernel
theorem dX12_ends_5 : decode cX12_ends 5 = .ok (.if_icmp .eq 8, 3) := by decide +kernel
theorem dX12_ends_8 : decode cX12_ends 8 = .ok (.aload_n 0, 1) := by decide +kernel
theorem dX12_ends_9 : decode cX12_ends 9 = .ok (.iconst 1, 1) := by decide +kernel
theorem dX12_ends_10 : decode cX12_ends 10 = .ok (.invokevirtual 157, 3) := by decide +kernel
theorem dX12_ends_13 : decode cX12_ends 13 = .ok (.aload_n 0, 1) := by decide +kernel
theorem dX12_ends_14 : decode cX12_ends 14 = .ok (.getfield 141, 3) := by decide +kernel
theorem dX12_ends_17 : decode cX12_ends 17 = .ok (.ifCond .ne 7, 3) := by decide +kernel
theorem dX12_ends_20 : decode cX12_ends 20 = .ok (.aload_n 0, 1) := by decide +kernel
theorem dX12_ends_21 : decode cX12_ends 21 = .ok (.invokevirtual 151, 3) := by decide +kernel
theorem dX12_ends_24 : decode cX12_ends 24 = .ok (.return_, 1) := by decide +kernel
theorem dX12_begins_0 : decode cX12_begins 0 = .ok (.aload_n 0, 1) := by decide +kernel
theorem dX12_begins_1 : decode cX12_begins 1 = .ok (.iconst 0, 1) := by decide +kernel
theorem dX12_begins_2 : decode cX12_begins 2 = .ok (.putfield 141, 3) := by decide +kernel
theorem dX12_begins_5 : decode cX12_begins 5 = .ok (.aload_n 0, 1) := by decide +kernel
theorem dX12_begins_6 : decode cX12_begins 6 = .ok (.iconst (-1), 1) := by decide +kernel
theorem dX12_begins_7 : decode cX12_begins 7 = .ok (.putfield 144, 3) := by decide +kernel
theorem dX12_begins_10 : decode cX12_begins 10 = .ok (.aload_n 0, 1) := by decide +kernel
theorem dX12_begins_11 : decode cX12_begins 11 = .ok (.iconst 0, 1) := by decide +kernel
theorem dX12_begins_12 : decode cX12_begins 12 = .ok (.putfield 113, 3) := by decide +kernel
theorem dX12_begins_15 : decode cX12_begins 15 = .ok (.aload_n 0, 1) := by decide +kernel
theorem dX12_begins_16 : decode cX12_begins 16 = .ok (.invokevirtual 151, 3) := by decide +kernel
theorem dX12_begins_19 : decode cX12_begins 19 = .ok (.return_, 1) := by decide +kernel
theorem dX12_isOver_0 : decode cX12_isOver 0 = .ok (.aload_n 0, 1) := by decide +kernel
theorem dX12_isOver_1 : decode cX12_isOver 1 = .ok (.iconst 0, 1) := by decide +kernel
theorem dX12_isOver_2 : decode cX12_isOver 2 = .ok (.putfield 106, 3) := by decide +kernel
theorem dX12_isOver_5 : decode cX12_isOver 5 = .ok (.aload_n 0, 1) := by decide +kernel
theorem dX12_isOver_6 : decode cX12_isOver 6 = .ok (.aload_n 0, 1) := by decide +kernel
theorem dX12_isOver_7 : decode cX12_isOver 7 = .ok (.getfield 141, 3) := by decide +kernel
theorem dX12_isOver_10 : decode cX12_isOver 10 = .ok (.putfield 168, 3) := by decide +kernel
theorem dX12_isOver_13 : decode cX12_isOver 13 = .ok (.aload_n 0, 1) := by decide +kernel
theorem dX12_isOver_14 : decode cX12_isOver 14 = .ok (.aload_n 0, 1) := by decide +kernel
theorem dX12_isOver_15 : decode cX12_isOver 15 = .ok (.getfield 141, 3) := by decide +kernel
theorem dX12_isOver_18 : decode cX12_isOver 18 = .ok (.ifCond .ne 7, 3) := by decide +kernel
theorem dX12_isOver_21 : decode cX12_isOver 21 = .ok (.iconst (-1), 1) := by decide +kernel
theorem dX12_isOver_22 : decode cX12_isOver 22 = .ok (.goto 7, 3) := by decide +kernel
theorem dX12_isOver_25 : decode cX12_isOver 25 = .ok (.aload_n 0, 1) := by decide +kernel
theorem dX12_isOver_26 : decode cX12_isOver 26 = .ok (.getfield 144, 3) := by decide +kernel
theorem dX12_isOver_29 : decode cX12_isOver 29 = .ok (.putfield 27, 3) := by decide +kernel
theorem dX12_isOver_32 : decode cX12_isOver 32 = .ok (.return_, 1) := by decide +kernel
theorem dX12_fault_0 : decode cX12_fault 0 = .ok (.aload_n 0, 1) := by decide +kernel
theorem dX12_fault_1 : decode cX12_fault 1 = .ok (.iconst 0, 1) := by decide +kernel
theorem dX12_fault_2 : decode cX12_fault 2 = .ok (.putfield 89, 3) := by decide +kernel
theorem dX12_fault_5 : decode cX12_fault 5 = .ok (.iload_n 1, 1) := by decide +kernel
theorem dX12_fault_6 : decode cX12_fault 6 = .ok (.ifCond .ne 10, 3) := by decide +kernel
theorem dX12_fault_9 : decode cX12_fault 9 = .ok (.aload_n 0, 1) := by decide +kernel
theorem dX12_fault_10 : decode cX12_fault 10 = .ok (.getfield 168, 3) := by decide +kernel
theorem dX12_fault_13 : decode cX12_fault 13 = .ok (.goto 16, 3) := by decide +kernel
theorem dX12_fault_16 : decode cX12_fault 16 = .ok (.iload_n 1, 1) := by decide +kernel
theorem dX12_fault_17 : decode cX12_fault 17 = .ok (.iconst 1, 1) := by decide +kernel
theorem dX12_fault_18 : decode cX12_fault 18 = .ok (.if_icmp .ne 10, 3) := by decide +kernel
theorem dX12_fault_21 : decode cX12_fault 21 = .ok (.aload_n 0, 1) := by decide +kernel
theorem dX12_fault_22 : decode cX12_fault 22 = .ok (.getfield 27, 3) := by decide +kernel
theorem dX12_fault_25 : decode cX12_fault 25 = .ok (.goto 4, 3) := by decide +kernel
theorem dX12_fault_28 : decode cX12_fault 28 = .ok (.iconst (-1), 1) := by decide +kernel
theorem dX12_fault_29 : decode cX12_fault 29 = .ok (.ireturn, 1) := by decide +kernel
theorem dX12_hasRead_0 : decode cX12_hasRead 0 = .ok (.aload_n 0, 1) := by decide +kernel
theorem dX12_hasRead_1 : decode cX12_hasRead 1 = .ok (.getfield 34, 3) := by decide +kernel
theorem dX12_hasRead_4 : decode cX12_hasRead 4 = .ok (.bipush 16, 2) := by decide +kernel
theorem dX12_hasRead_6 : decode cX12_hasRead 6 = .ok (.iload_n 1, 1) := by decide +kernel
theorem dX12_hasRead_7 : decode cX12_hasRead 7 = .ok (.iadd, 1) := by decide +kernel
theorem dX12_hasRead_8 : decode cX12_hasRead 8 = .ok (.iaload, 1) := by decide +kernel
theorem dX12_hasRead_9 : decode cX12_hasRead 9 = .ok (.ireturn, 1) := by decide +kernel
theorem dX12_tells_0 : decode cX12_tells 0 = .ok (.aload_n 0, 1) := by decide +kernel
theorem dX12_tells_1 : decode cX12_tells 1 = .ok (.getfield 34, 3) := by decide +kernel
theorem dX12_tells_4 : decode cX12_tells 4 = .ok (.bipush 16, 2) := by decide +kernel
theorem dX12_tells_6 : decode cX12_tells 6 = .ok (.iload_n 1, 1) := by decide +kernel
theorem dX12_tells_7 : decode cX12_tells 7 = .ok (.iadd, 1) := by decide +kernel
theorem dX12_tells_8 : decode cX12_tells 8 = .ok (.iload_n 2, 1) := by decide +kernel
theorem dX12_tells_9 : decode cX12_tells 9 = .ok (.iastore, 1) := by decide +kernel
theorem dX12_tells_10 : decode cX12_tells 10 = .ok (.return_, 1) := by decide +kernel
theorem dX12_headHere_0 : decode cX12_headHere 0 = .ok (.aload_n 0, 1) := by decide +kernel
theorem dX12_headHere_1 : decode cX12_headHere 1 = .ok (.iconst 0, 1) := by decide +kernel
theorem dX12_headHere_2 : decode cX12_headHere 2 = .ok (.aload_n 0, 1) := by decide +kernel
theorem dX12_headHere_3 : decode cX12_headHere 3 = .ok (.iconst 0, 1) := by decide +kernel
theorem dX12_headHere_4 : decode cX12_headHere 4 = .ok (.invokevirtual 171, 3) := by decide +kernel
theorem dX12_headHere_7 : decode cX12_headHere 7 = .ok (.iconst 1, 1) := by decide +kernel
theorem dX12_headHere_8 : decode cX12_headHere 8 = .ok (.isub, 1) := by decide +kernel
theorem dX12_headHere_9 : decode cX12_headHere 9 = .ok (.invokevirtual 164, 3) := by decide +kernel
theorem dX12_headHere_12 : decode cX12_headHere 12 = .ok (.ireturn, 1) := by decide +kernel
theorem dX12_otherHere_0 : decode cX12_otherHere 0 = .ok (.aload_n 0, 1) := by decide +kernel
theorem dX12_otherHere_1 : decode cX12_otherHere 1 = .ok (.getfield 141, 3) := by decide +kernel
theorem dX12_otherHere_4 : decode cX12_otherHere 4 = .ok (.ifCond .ne 24, 3) := by decide +kernel
theorem dX12_otherHere_7 : decode cX12_otherHere 7 = .ok (.aload_n 0, 1) := by decide +kernel
theorem dX12_otherHere_8 : decode cX12_otherHere 8 = .ok (.getfield 130, 3) := by decide +kernel
theorem dX12_otherHere_11 : decode cX12_otherHere 11 = .ok (.iconst 2, 1) := by decide +kernel
theorem dX12_otherHere_12 : decode cX12_otherHere 12 = .ok (.if_icmp .ne 16, 3) := by decide +kernel
theorem dX12_otherHere_15 : decode cX12_otherHere 15 = .ok (.aload_n 0, 1) := by decide +kernel
theorem dX12_otherHere_16 : decode cX12_otherHere 16 = .ok (.getfield 123, 3) := by decide +kernel
theorem dX12_otherHere_19 : decode cX12_otherHere 19 = .ok (.iload_n 1, 1) := by decide +kernel
theorem dX12_otherHere_20 : decode cX12_otherHere 20 = .ok (.if_icmp .ne 8, 3) := by decide +kernel
theorem dX12_otherHere_23 : decode cX12_otherHere 23 = .ok (.aload_n 0, 1) := by decide +kernel
theorem dX12_otherHere_24 : decode cX12_otherHere 24 = .ok (.iconst 2, 1) := by decide +kernel
theorem dX12_otherHere_25 : decode cX12_otherHere 25 = .ok (.invokevirtual 157, 3) := by decide +kernel
theorem dX12_otherHere_28 : decode cX12_otherHere 28 = .ok (.aload_n 0, 1) := by decide +kernel
theorem dX12_otherHere_29 : decode cX12_otherHere 29 = .ok (.invokevirtual 175, 3) := by decide +kernel
theorem dX12_otherHere_32 : decode cX12_otherHere 32 = .ok (.ireturn, 1) := by decide +kernel
theorem dX12_hangLine_0 : decode cX12_hangLine 0 = .ok (.iconst 0, 1) := by decide +kernel
theorem dX12_hangLine_1 : decode cX12_hangLine 1 = .ok (.istore_n 1, 1) := by decide +kernel
theorem dX12_hangLine_2 : decode cX12_hangLine 2 = .ok (.iconst 0, 1) := by decide +kernel
theorem dX12_hangLine_3 : decode cX12_hangLine 3 = .ok (.istore_n 2, 1) := by decide +kernel
theorem dX12_hangLine_4 : decode cX12_hangLine 4 = .ok (.iload_n 2, 1) := by decide +kernel
theorem dX12_hangLine_5 : decode cX12_hangLine 5 = .ok (.aload_n 0, 1) := by decide +kernel
theorem dX12_hangLine_6 : decode cX12_hangLine 6 = .ok (.iconst 0, 1) := by decide +kernel
theorem dX12_hangLine_7 : decode cX12_hangLine 7 = .ok (.invokevirtual 171, 3) := by decide +kernel
theorem dX12_hangLine_10 : decode cX12_hangLine 10 = .ok (.if_icmp .ge 78, 3) := by decide +kernel
theorem dX12_hangLine_13 : decode cX12_hangLine 13 = .ok (.aload_n 0, 1) := by decide +kernel
theorem dX12_hangLine_14 : decode cX12_hangLine 14 = .ok (.getfield 141, 3) := by decide +kernel
theorem dX12_hangLine_17 : decode cX12_hangLine 17 = .ok (.ifCond .ne 40, 3) := by decide +kernel
theorem dX12_hangLine_20 : decode cX12_hangLine 20 = .ok (.aload_n 0, 1) := by decide +kernel
theorem dX12_hangLine_21 : decode cX12_hangLine 21 = .ok (.getfield 130, 3) := by decide +kernel
theorem dX12_hangLine_24 : decode cX12_hangLine 24 = .ok (.iconst 2, 1) := by decide +kernel
theorem dX12_hangLine_25 : decode cX12_hangLine 25 = .ok (.if_icmp .ne 32, 3) := by decide +kernel
theorem dX12_hangLine_28 : decode cX12_hangLine 28 = .ok (.aload_n 0, 1) := by decide +kernel
theorem dX12_hangLine_29 : decode cX12_hangLine 29 = .ok (.getfield 123, 3) := by decide +kernel
theorem dX12_hangLine_32 : decode cX12_hangLine 32 = .ok (.aload_n 0, 1) := by decide +kernel
theorem dX12_hangLine_33 : decode cX12_hangLine 33 = .ok (.iconst 0, 1) := by decide +kernel
theorem dX12_hangLine_34 : decode cX12_hangLine 34 = .ok (.invokevirtual 171, 3) := by decide +kernel
theorem dX12_hangLine_37 : decode cX12_hangLine 37 = .ok (.if_icmp .ge 20, 3) := by decide +kernel
theorem dX12_hangLine_40 : decode cX12_hangLine 40 = .ok (.iload_n 1, 1) := by decide +kernel
theorem dX12_hangLine_41 : decode cX12_hangLine 41 = .ok (.aload_n 0, 1) := by decide +kernel
theorem dX12_hangLine_42 : decode cX12_hangLine 42 = .ok (.getfield 123, 3) := by decide +kernel
theorem dX12_hangLine_45 : decode cX12_hangLine 45 = .ok (.ishr, 1) := by decide +kernel
theorem dX12_hangLine_46 : decode cX12_hangLine 46 = .ok (.iconst 1, 1) := by decide +kernel
theorem dX12_hangLine_47 : decode cX12_hangLine 47 = .ok (.iand, 1) := by decide +kernel
theorem dX12_hangLine_48 : decode cX12_hangLine 48 = .ok (.iconst 1, 1) := by decide +kernel
theorem dX12_hangLine_49 : decode cX12_hangLine 49 = .ok (.if_icmp .ne 8, 3) := by decide +kernel
theorem dX12_hangLine_52 : decode cX12_hangLine 52 = .ok (.aload_n 0, 1) := by decide +kernel
theorem dX12_hangLine_53 : decode cX12_hangLine 53 = .ok (.iconst 2, 1) := by decide +kernel
theorem dX12_hangLine_54 : decode cX12_hangLine 54 = .ok (.invokevirtual 157, 3) := by decide +kernel
theorem dX12_hangLine_57 : decode cX12_hangLine 57 = .ok (.aload_n 0, 1) := by decide +kernel
theorem dX12_hangLine_58 : decode cX12_hangLine 58 = .ok (.invokevirtual 175, 3) := by decide +kernel
theorem dX12_hangLine_61 : decode cX12_hangLine 61 = .ok (.istore_n 3, 1) := by decide +kernel
theorem dX12_hangLine_62 : decode cX12_hangLine 62 = .ok (.iload_n 1, 1) := by decide +kernel
theorem dX12_hangLine_63 : decode cX12_hangLine 63 = .ok (.iconst 1, 1) := by decide +kernel
theorem dX12_hangLine_64 : decode cX12_hangLine 64 = .ok (.iload_n 3, 1) := by decide +kernel
theorem dX12_hangLine_65 : decode cX12_hangLine 65 = .ok (.ishl, 1) := by decide +kernel
theorem dX12_hangLine_66 : decode cX12_hangLine 66 = .ok (.ior, 1) := by decide +kernel
theorem dX12_hangLine_67 : decode cX12_hangLine 67 = .ok (.istore_n 1, 1) := by decide +kernel
theorem dX12_hangLine_68 : decode cX12_hangLine 68 = .ok (.aload_n 0, 1) := by decide +kernel
theorem dX12_hangLine_69 : decode cX12_hangLine 69 = .ok (.invokevirtual 179, 3) := by decide +kernel
theorem dX12_hangLine_72 : decode cX12_hangLine 72 = .ok (.ifCond .eq 10, 3) := by decide +kernel
theorem dX12_hangLine_75 : decode cX12_hangLine 75 = .ok (.aload_n 0, 1) := by decide +kernel
theorem dX12_hangLine_76 : decode cX12_hangLine 76 = .ok (.getfield 56, 3) := by decide +kernel
theorem dX12_hangLine_79 : decode cX12_hangLine 79 = .ok (.iload_n 2, 1) := by decide +kernel
theorem dX12_hangLine_80 : decode cX12_hangLine 80 = .ok (.iload_n 3, 1) := by decide +kernel
theorem dX12_hangLine_81 : decode cX12_hangLine 81 = .ok (.iastore, 1) := by decide +kernel
theorem dX12_hangLine_82 : decode cX12_hangLine 82 = .ok (.iinc 2 1, 3) := by decide +kernel
theorem dX12_hangLine_85 : decode cX12_hangLine 85 = .ok (.goto (-81), 3) := by decide +kernel
theorem dX12_hangLine_88 : decode cX12_hangLine 88 = .ok (.iconst 0, 1) := by decide +kernel
theorem dX12_hangLine_89 : decode cX12_hangLine 89 = .ok (.istore_n 2, 1) := by decide +kernel
theorem dX12_hangLine_90 : decode cX12_hangLine 90 = .ok (.iload_n 2, 1) := by decide +kernel
theorem dX12_hangLine_91 : decode cX12_hangLine 91 = .ok (.aload_n 0, 1) := by decide +kernel
theorem dX12_hangLine_92 : decode cX12_hangLine 92 = .ok (.iconst 0, 1) := by decide +kernel
theorem dX12_hangLine_93 : decode cX12_hangLine 93 = .ok (.invokevirtual 171, 3) := by decide +kernel
theorem dX12_hangLine_96 : decode cX12_hangLine 96 = .ok (.if_icmp .ge 31, 3) := by decide +kernel
theorem dX12_hangLine_99 : decode cX12_hangLine 99 = .ok (.aload_n 0, 1) := by decide +kernel
theorem dX12_hangLine_100 : decode cX12_hangLine 100 = .ok (.invokevirtual 179, 3) := by decide +kernel
theorem dX12_hangLine_103 : decode cX12_hangLine 103 = .ok (.ifCond .eq 24, 3) := by decide +kernel
theorem dX12_hangLine_106 : decode cX12_hangLine 106 = .ok (.aload_n 0, 1) := by decide +kernel
theorem dX12_hangLine_107 : decode cX12_hangLine 107 = .ok (.getfield 37, 3) := by decide +kernel
theorem dX12_hangLine_110 : decode cX12_hangLine 110 = .ok (.bipush 28, 2) := by decide +kernel
theorem dX12_hangLine_112 : decode cX12_hangLine 112 = .ok (.iload_n 2, 1) := by decide +kernel
theorem dX12_hangLine_113 : decode cX12_hangLine 113 = .ok (.iadd, 1) := by decide +kernel
theorem dX12_hangLine_114 : decode cX12_hangLine 114 = .ok (.aload_n 0, 1) := by decide +kernel
theorem dX12_hangLine_115 : decode cX12_hangLine 115 = .ok (.getfield 56, 3) := by decide +kernel
theorem dX12_hangLine_118 : decode cX12_hangLine 118 = .ok (.iload_n 2, 1) := by decide +kernel
theorem dX12_hangLine_119 : decode cX12_hangLine 119 = .ok (.iaload, 1) := by decide +kernel
theorem dX12_hangLine_120 : decode cX12_hangLine 120 = .ok (.iastore, 1) := by decide +kernel
theorem dX12_hangLine_121 : decode cX12_hangLine 121 = .ok (.iinc 2 1, 3) := by decide +kernel
theorem dX12_hangLine_124 : decode cX12_hangLine 124 = .ok (.goto (-34), 3) := by decide +kernel
theorem dX12_hangLine_127 : decode cX12_hangLine 127 = .ok (.return_, 1) := by decide +kernel
theorem dX12_lawLine_0 : decode cX12_lawLine 0 = .ok (.iconst 4, 1) := by decide +kernel
theorem dX12_lawLine_1 : decode cX12_lawLine 1 = .ok (.bipush 24, 2) := by decide +kernel
theorem dX12_lawLine_3 : decode cX12_lawLine 3 = .ok (.aload_n 0, 1) := by decide +kernel
theorem dX12_lawLine_4 : decode cX12_lawLine 4 = .ok (.iconst 1, 1) := by decide +kernel
theorem dX12_lawLine_5 : decode cX12_lawLine 5 = .ok (.invokevirtual 171, 3) := by decide +kernel
theorem dX12_lawLine_8 : decode cX12_lawLine 8 = .ok (.iadd, 1) := by decide +kernel
theorem dX12_lawLine_9 : decode cX12_lawLine 9 = .ok (.imul, 1) := by decide +kernel
theorem dX12_lawLine_10 : decode cX12_lawLine 10 = .ok (.istore_n 1, 1) := by decide +kernel
theorem dX12_lawLine_11 : decode cX12_lawLine 11 = .ok (.aload_n 0, 1) := by decide +kernel
theorem dX12_lawLine_12 : decode cX12_lawLine 12 = .ok (.getfield 40, 3) := by decide +kernel
theorem dX12_lawLine_15 : decode cX12_lawLine 15 = .ok (.iload_n 1, 1) := by decide +kernel
theorem dX12_lawLine_16 : decode cX12_lawLine 16 = .ok (.aload_n 0, 1) := by decide +kernel
theorem dX12_lawLine_17 : decode cX12_lawLine 17 = .ok (.invokevirtual 175, 3) := by decide +kernel
theorem dX12_lawLine_20 : decode cX12_lawLine 20 = .ok (.iastore, 1) := by decide +kernel
theorem dX12_lawLine_21 : decode cX12_lawLine 21 = .ok (.aload_n 0, 1) := by decide +kernel
theorem dX12_lawLine_22 : decode cX12_lawLine 22 = .ok (.ldc2_w 183, 3) := by decide +kernel
theorem dX12_lawLine_25 : decode cX12_lawLine 25 = .ok (.invokevirtual 160, 3) := by decide +kernel
theorem dX12_lawLine_28 : decode cX12_lawLine 28 = .ok (.aload_n 0, 1) := by decide +kernel
theorem dX12_lawLine_29 : decode cX12_lawLine 29 = .ok (.getfield 40, 3) := by decide +kernel
theorem dX12_lawLine_32 : decode cX12_lawLine 32 = .ok (.iload_n 1, 1) := by decide +kernel
theorem dX12_lawLine_33 : decode cX12_lawLine 33 = .ok (.iconst 1, 1) := by decide +kernel
theorem dX12_lawLine_34 : decode cX12_lawLine 34 = .ok (.iadd, 1) := by decide +kernel
theorem dX12_lawLine_35 : decode cX12_lawLine 35 = .ok (.aload_n 0, 1) := by decide +kernel
theorem dX12_lawLine_36 : decode cX12_lawLine 36 = .ok (.aload_n 0, 1) := by decide +kernel
theorem dX12_lawLine_37 : decode cX12_lawLine 37 = .ok (.getfield 40, 3) := by decide +kernel
theorem dX12_lawLine_40 : decode cX12_lawLine 40 = .ok (.iload_n 1, 1) := by decide +kernel
theorem dX12_lawLine_41 : decode cX12_lawLine 41 = .ok (.iaload, 1) := by decide +kernel
theorem dX12_lawLine_42 : decode cX12_lawLine 42 = .ok (.invokevirtual 185, 3) := by decide +kernel
theorem dX12_lawLine_45 : decode cX12_lawLine 45 = .ok (.iastore, 1) := by decide +kernel
theorem dX12_lawLine_46 : decode cX12_lawLine 46 = .ok (.aload_n 0, 1) := by decide +kernel
theorem dX12_lawLine_47 : decode cX12_lawLine 47 = .ok (.getfield 40, 3) := by decide +kernel
theorem dX12_lawLine_50 : decode cX12_lawLine 50 = .ok (.iload_n 1, 1) := by decide +kernel
theorem dX12_lawLine_51 : decode cX12_lawLine 51 = .ok (.iconst 2, 1) := by decide +kernel
theorem dX12_lawLine_52 : decode cX12_lawLine 52 = .ok (.iadd, 1) := by decide +kernel
theorem dX12_lawLine_53 : decode cX12_lawLine 53 = .ok (.aload_n 0, 1) := by decide +kernel
theorem dX12_lawLine_54 : decode cX12_lawLine 54 = .ok (.ldc2_w 188, 3) := by decide +kernel
theorem dX12_lawLine_57 : decode cX12_lawLine 57 = .ok (.iconst 1, 1) := by decide +kernel
theorem dX12_lawLine_58 : decode cX12_lawLine 58 = .ok (.bipush 6, 2) := by decide +kernel
theorem dX12_lawLine_60 : decode cX12_lawLine 60 = .ok (.invokevirtual 190, 3) := by decide +kernel
theorem dX12_lawLine_63 : decode cX12_lawLine 63 = .ok (.iastore, 1) := by decide +kernel
theorem dX12_lawLine_64 : decode cX12_lawLine 64 = .ok (.aload_n 0, 1) := by decide +kernel
theorem dX12_lawLine_65 : decode cX12_lawLine 65 = .ok (.getfield 40, 3) := by decide +kernel
theorem dX12_lawLine_68 : decode cX12_lawLine 68 = .ok (.iload_n 1, 1) := by decide +kernel
theorem dX12_lawLine_69 : decode cX12_lawLine 69 = .ok (.iconst 3, 1) := by decide +kernel
theorem dX12_lawLine_70 : decode cX12_lawLine 70 = .ok (.iadd, 1) := by decide +kernel
theorem dX12_lawLine_71 : decode cX12_lawLine 71 = .ok (.aload_n 0, 1) := by decide +kernel
theorem dX12_lawLine_72 : decode cX12_lawLine 72 = .ok (.ldc2_w 193, 3) := by decide +kernel
theorem dX12_lawLine_75 : decode cX12_lawLine 75 = .ok (.iconst 0, 1) := by decide +kernel
theorem dX12_lawLine_76 : decode cX12_lawLine 76 = .ok (.aload_n 0, 1) := by decide +kernel
theorem dX12_lawLine_77 : decode cX12_lawLine 77 = .ok (.getfield 40, 3) := by decide +kernel
theorem dX12_lawLine_80 : decode cX12_lawLine 80 = .ok (.iload_n 1, 1) := by decide +kernel
theorem dX12_lawLine_81 : decode cX12_lawLine 81 = .ok (.iconst 2, 1) := by decide +kernel
theorem dX12_lawLine_82 : decode cX12_lawLine 82 = .ok (.iadd, 1) := by decide +kernel
theorem dX12_lawLine_83 : decode cX12_lawLine 83 = .ok (.iaload, 1) := by decide +kernel
theorem dX12_lawLine_84 : decode cX12_lawLine 84 = .ok (.iconst 1, 1) := by decide +kernel
theorem dX12_lawLine_85 : decode cX12_lawLine 85 = .ok (.isub, 1) := by decide +kernel
theorem dX12_lawLine_86 : decode cX12_lawLine 86 = .ok (.invokevirtual 190, 3) := by decide +kernel
theorem dX12_lawLine_89 : decode cX12_lawLine 89 = .ok (.iastore, 1) := by decide +kernel
theorem dX12_lawLine_90 : decode cX12_lawLine 90 = .ok (.aload_n 0, 1) := by decide +kernel
theorem dX12_lawLine_91 : decode cX12_lawLine 91 = .ok (.iconst 1, 1) := by decide +kernel
theorem dX12_lawLine_92 : decode cX12_lawLine 92 = .ok (.aload_n 0, 1) := by decide +kernel
theorem dX12_lawLine_93 : decode cX12_lawLine 93 = .ok (.iconst 1, 1) := by decide +kernel
theorem dX12_lawLine_94 : decode cX12_lawLine 94 = .ok (.invokevirtual 171, 3) := by decide +kernel
theorem dX12_lawLine_97 : decode cX12_lawLine 97 = .ok (.iconst 1, 1) := by decide +kernel
theorem dX12_lawLine_98 : decode cX12_lawLine 98 = .ok (.iadd, 1) := by decide +kernel
theorem dX12_lawLine_99 : decode cX12_lawLine 99 = .ok (.invokevirtual 195, 3) := by decide +kernel
theorem dX12_lawLine_102 : decode cX12_lawLine 102 = .ok (.return_, 1) := by decide +kernel
theorem dX12_line_0 : decode cX12_line 0 = .ok (.aload_n 0, 1) := by decide +kernel
theorem dX12_line_1 : decode cX12_line 1 = .ok (.ldc2_w 199, 3) := by decide +kernel
theorem dX12_line_4 : decode cX12_line 4 = .ok (.invokevirtual 154, 3) := by decide +kernel
theorem dX12_line_7 : decode cX12_line 7 = .ok (.ifCond .eq 10, 3) := by decide +kernel
theorem dX12_line_10 : decode cX12_line 10 = .ok (.aload_n 0, 1) := by decide +kernel
theorem dX12_line_11 : decode cX12_line 11 = .ok (.invokevirtual 201, 3) := by decide +kernel
theorem dX12_line_14 : decode cX12_line 14 = .ok (.goto 199, 3) := by decide +kernel
theorem dX12_line_17 : decode cX12_line 17 = .ok (.aload_n 0, 1) := by decide +kernel
theorem dX12_line_18 : decode cX12_line 18 = .ok (.ldc2_w 204, 3) := by decide +kernel
theorem dX12_line_21 : decode cX12_line 21 = .ok (.invokevirtual 147, 3) := by decide +kernel
theorem dX12_line_24 : decode cX12_line 24 = .ok (.ifCond .eq 37, 3) := by decide +kernel
theorem dX12_line_27 : decode cX12_line 27 = .ok (.aload_n 0, 1) := by decide +kernel
theorem dX12_line_28 : decode cX12_line 28 = .ok (.iconst 1, 1) := by decide +kernel
theorem dX12_line_29 : decode cX12_line 29 = .ok (.invokevirtual 171, 3) := by decide +kernel
theorem dX12_line_32 : decode cX12_line 32 = .ok (.bipush 6, 2) := by decide +kernel
theorem dX12_line_34 : decode cX12_line 34 = .ok (.if_icmp .ne 8, 3) := by decide +kernel
theorem dX12_line_37 : decode cX12_line 37 = .ok (.aload_n 0, 1) := by decide +kernel
theorem dX12_line_38 : decode cX12_line 38 = .ok (.iconst 3, 1) := by decide +kernel
theorem dX12_line_39 : decode cX12_line 39 = .ok (.invokevirtual 157, 3) := by decide +kernel
theorem dX12_line_42 : decode cX12_line 42 = .ok (.aload_n 0, 1) := by decide +kernel
theorem dX12_line_43 : decode cX12_line 43 = .ok (.getfield 141, 3) := by decide +kernel
theorem dX12_line_46 : decode cX12_line 46 = .ok (.ifCond .eq 4, 3) := by decide +kernel
theorem dX12_line_49 : decode cX12_line 49 = .ok (.return_, 1) := by decide +kernel
theorem dX12_line_50 : decode cX12_line 50 = .ok (.aload_n 0, 1) := by decide +kernel
theorem dX12_line_51 : decode cX12_line 51 = .ok (.invokevirtual 151, 3) := by decide +kernel
theorem dX12_line_54 : decode cX12_line 54 = .ok (.aload_n 0, 1) := by decide +kernel
theorem dX12_line_55 : decode cX12_line 55 = .ok (.invokevirtual 206, 3) := by decide +kernel
theorem dX12_line_58 : decode cX12_line 58 = .ok (.goto 155, 3) := by decide +kernel
theorem dX12_line_61 : decode cX12_line 61 = .ok (.aload_n 0, 1) := by decide +kernel
theorem dX12_line_62 : decode cX12_line 62 = .ok (.ldc2_w 209, 3) := by decide +kernel
theorem dX12_line_65 : decode cX12_line 65 = .ok (.invokevirtual 154, 3) := by decide +kernel
theorem dX12_line_68 : decode cX12_line 68 = .ok (.ifCond .eq 35, 3) := by decide +kernel
theorem dX12_line_71 : decode cX12_line 71 = .ok (.aload_n 0, 1) := by decide +kernel
theorem dX12_line_72 : decode cX12_line 72 = .ok (.iconst 1, 1) := by decide +kernel
theorem dX12_line_73 : decode cX12_line 73 = .ok (.bipush 6, 2) := by decide +kernel
theorem dX12_line_75 : decode cX12_line 75 = .ok (.invokevirtual 164, 3) := by decide +kernel
theorem dX12_line_78 : decode cX12_line 78 = .ok (.istore_n 1, 1) := by decide +kernel
theorem dX12_line_79 : decode cX12_line 79 = .ok (.aload_n 0, 1) := by decide +kernel
theorem dX12_line_80 : decode cX12_line 80 = .ok (.invokevirtual 179, 3) := by decide +kernel
theorem dX12_line_83 : decode cX12_line 83 = .ok (.ifCond .eq 17, 3) := by decide +kernel
theorem dX12_line_86 : decode cX12_line 86 = .ok (.aload_n 0, 1) := by decide +kernel
theorem dX12_line_87 : decode cX12_line 87 = .ok (.iconst 2, 1) := by decide +kernel
theorem dX12_line_88 : decode cX12_line 88 = .ok (.aload_n 0, 1) := by decide +kernel
theorem dX12_line_89 : decode cX12_line 89 = .ok (.iconst 2, 1) := by decide +kernel
theorem dX12_line_90 : decode cX12_line 90 = .ok (.invokevirtual 171, 3) := by decide +kernel
theorem dX12_line_93 : decode cX12_line 93 = .ok (.iconst 1, 1) := by decide +kernel
theorem dX12_line_94 : decode cX12_line 94 = .ok (.iload_n 1, 1) := by decide +kernel
theorem dX12_line_95 : decode cX12_line 95 = .ok (.ishl, 1) := by decide +kernel
theorem dX12_line_96 : decode cX12_line 96 = .ok (.ior, 1) := by decide +kernel
theorem dX12_line_97 : decode cX12_line 97 = .ok (.invokevirtual 195, 3) := by decide +kernel
theorem dX12_line_100 : decode cX12_line 100 = .ok (.goto 113, 3) := by decide +kernel
theorem dX12_line_103 : decode cX12_line 103 = .ok (.aload_n 0, 1) := by decide +kernel
theorem dX12_line_104 : decode cX12_line 104 = .ok (.ldc2_w 211, 3) := by decide +kernel
theorem dX12_line_107 : decode cX12_line 107 = .ok (.invokevirtual 154, 3) := by decide +kernel
theorem dX12_line_110 : decode cX12_line 110 = .ok (.ifCond .eq 47, 3) := by decide +kernel
theorem dX12_line_113 : decode cX12_line 113 = .ok (.aload_n 0, 1) := by decide +kernel
theorem dX12_line_114 : decode cX12_line 114 = .ok (.invokevirtual 175, 3) := by decide +kernel
theorem dX12_line_117 : decode cX12_line 117 = .ok (.istore_n 1, 1) := by decide +kernel
theorem dX12_line_118 : decode cX12_line 118 = .ok (.aload_n 0, 1) := by decide +kernel
theorem dX12_line_119 : decode cX12_line 119 = .ok (.invokevirtual 175, 3) := by decide +kernel
theorem dX12_line_122 : decode cX12_line 122 = .ok (.istore_n 2, 1) := by decide +kernel
theorem dX12_line_123 : decode cX12_line 123 = .ok (.aload_n 0, 1) := by decide +kernel
theorem dX12_line_124 : decode cX12_line 124 = .ok (.iconst 0, 1) := by decide +kernel
theorem dX12_line_125 : decode cX12_line 125 = .ok (.bipush 99, 2) := by decide +kernel
theorem dX12_line_127 : decode cX12_line 127 = .ok (.invokevirtual 164, 3) := by decide +kernel
theorem dX12_line_130 : decode cX12_line 130 = .ok (.istore_n 3, 1) := by decide +kernel
theorem dX12_line_131 : decode cX12_line 131 = .ok (.aload_n 0, 1) := by decide +kernel
theorem dX12_line_132 : decode cX12_line 132 = .ok (.invokevirtual 179, 3) := by decide +kernel
theorem dX12_line_135 : decode cX12_line 135 = .ok (.ifCond .eq 19, 3) := by decide +kernel
theorem dX12_line_138 : decode cX12_line 138 = .ok (.aload_n 0, 1) := by decide +kernel
theorem dX12_line_139 : decode cX12_line 139 = .ok (.getfield 43, 3) := by decide +kernel
theorem dX12_line_142 : decode cX12_line 142 = .ok (.sipush 196, 3) := by decide +kernel
theorem dX12_line_145 : decode cX12_line 145 = .ok (.bipush 7, 2) := by decide +kernel
theorem dX12_line_147 : decode cX12_line 147 = .ok (.iload_n 1, 1) := by decide +kernel
theorem dX12_line_148 : decode cX12_line 148 = .ok (.imul, 1) := by decide +kernel
theorem dX12_line_149 : decode cX12_line 149 = .ok (.iadd, 1) := by decide +kernel
theorem dX12_line_150 : decode cX12_line 150 = .ok (.iload_n 2, 1) := by decide +kernel
theorem dX12_line_151 : decode cX12_line 151 = .ok (.iadd, 1) := by decide +kernel
theorem dX12_line_152 : decode cX12_line 152 = .ok (.iload_n 3, 1) := by decide +kernel
theorem dX12_line_153 : decode cX12_line 153 = .ok (.iastore, 1) := by decide +kernel
theorem dX12_line_154 : decode cX12_line 154 = .ok (.goto 59, 3) := by decide +kernel
theorem dX12_line_157 : decode cX12_line 157 = .ok (.aload_n 0, 1) := by decide +kernel
theorem dX12_line_158 : decode cX12_line 158 = .ok (.ldc2_w 213, 3) := by decide +kernel
theorem dX12_line_161 : decode cX12_line 161 = .ok (.invokevirtual 160, 3) := by decide +kernel
theorem dX12_line_164 : decode cX12_line 164 = .ok (.aload_n 0, 1) := by decide +kernel
theorem dX12_line_165 : decode cX12_line 165 = .ok (.invokevirtual 175, 3) := by decide +kernel
theorem dX12_line_168 : decode cX12_line 168 = .ok (.istore_n 1, 1) := by decide +kernel
theorem dX12_line_169 : decode cX12_line 169 = .ok (.aload_n 0, 1) := by decide +kernel
theorem dX12_line_170 : decode cX12_line 170 = .ok (.iload_n 1, 1) := by decide +kernel
theorem dX12_line_171 : decode cX12_line 171 = .ok (.invokevirtual 185, 3) := by decide +kernel
theorem dX12_line_174 : decode cX12_line 174 = .ok (.istore_n 2, 1) := by decide +kernel
theorem dX12_line_175 : decode cX12_line 175 = .ok (.aload_n 0, 1) := by decide +kernel
theorem dX12_line_176 : decode cX12_line 176 = .ok (.invokevirtual 179, 3) := by decide +kernel
theorem dX12_line_179 : decode cX12_line 179 = .ok (.ifCond .ne 4, 3) := by decide +kernel
theorem dX12_line_182 : decode cX12_line 182 = .ok (.return_, 1) := by decide +kernel
theorem dX12_line_183 : decode cX12_line 183 = .ok (.aload_n 0, 1) := by decide +kernel
theorem dX12_line_184 : decode cX12_line 184 = .ok (.getfield 46, 3) := by decide +kernel
theorem dX12_line_187 : decode cX12_line 187 = .ok (.bipush 28, 2) := by decide +kernel
theorem dX12_line_189 : decode cX12_line 189 = .ok (.iload_n 1, 1) := by decide +kernel
theorem dX12_line_190 : decode cX12_line 190 = .ok (.iadd, 1) := by decide +kernel
theorem dX12_line_191 : decode cX12_line 191 = .ok (.dup2, 1) := by decide +kernel
theorem dX12_line_192 : decode cX12_line 192 = .ok (.iaload, 1) := by decide +kernel
theorem dX12_line_193 : decode cX12_line 193 = .ok (.iconst 1, 1) := by decide +kernel
theorem dX12_line_194 : decode cX12_line 194 = .ok (.iload_n 2, 1) := by decide +kernel
theorem dX12_line_195 : decode cX12_line 195 = .ok (.ishl, 1) := by decide +kernel
theorem dX12_line_196 : decode cX12_line 196 = .ok (.ior, 1) := by decide +kernel
theorem dX12_line_197 : decode cX12_line 197 = .ok (.iastore, 1) := by decide +kernel
theorem dX12_line_198 : decode cX12_line 198 = .ok (.aload_n 0, 1) := by decide +kernel
theorem dX12_line_199 : decode cX12_line 199 = .ok (.getfield 46, 3) := by decide +kernel
theorem dX12_line_202 : decode cX12_line 202 = .ok (.bipush 28, 2) := by decide +kernel
theorem dX12_line_204 : decode cX12_line 204 = .ok (.iload_n 2, 1) := by decide +kernel
theorem dX12_line_205 : decode cX12_line 205 = .ok (.iadd, 1) := by decide +kernel
theorem dX12_line_206 : decode cX12_line 206 = .ok (.dup2, 1) := by decide +kernel
theorem dX12_line_207 : decode cX12_line 207 = .ok (.iaload, 1) := by decide +kernel
theorem dX12_line_208 : decode cX12_line 208 = .ok (.iconst 1, 1) := by decide +kernel
theorem dX12_line_209 : decode cX12_line 209 = .ok (.iload_n 1, 1) := by decide +kernel
theorem dX12_line_210 : decode cX12_line 210 = .ok (.ishl, 1) := by decide +kernel
theorem dX12_line_211 : decode cX12_line 211 = .ok (.ior, 1) := by decide +kernel
theorem dX12_line_212 : decode cX12_line 212 = .ok (.iastore, 1) := by decide +kernel
theorem dX12_line_213 : decode cX12_line 213 = .ok (.return_, 1) := by decide +kernel
theorem dX12_clears_0 : decode cX12_clears 0 = .ok (.aload_n 0, 1) := by decide +kernel
theorem dX12_clears_1 : decode cX12_clears 1 = .ok (.getfield 31, 3) := by decide +kernel
theorem dX12_clears_4 : decode cX12_clears 4 = .ok (.iconst 4, 1) := by decide +kernel
theorem dX12_clears_5 : decode cX12_clears 5 = .ok (.iconst 0, 1) := by decide +kernel
theorem dX12_clears_6 : decode cX12_clears 6 = .ok (.iastore, 1) := by decide +kernel
theorem dX12_clears_7 : decode cX12_clears 7 = .ok (.iconst 0, 1) := by decide +kernel
theorem dX12_clears_8 : decode cX12_clears 8 = .ok (.istore_n 1, 1) := by decide +kernel
theorem dX12_clears_9 : decode cX12_clears 9 = .ok (.iload_n 1, 1) := by decide +kernel
theorem dX12_clears_10 : decode cX12_clears 10 = .ok (.iconst 4, 1) := by decide +kernel
theorem dX12_clears_11 : decode cX12_clears 11 = .ok (.if_icmp .ge 15, 3) := by decide +kernel
theorem dX12_clears_14 : decode cX12_clears 14 = .ok (.aload_n 0, 1) := by decide +kernel
theorem dX12_clears_15 : decode cX12_clears 15 = .ok (.iload_n 1, 1) := by decide +kernel
theorem dX12_clears_16 : decode cX12_clears 16 = .ok (.iconst 0, 1) := by decide +kernel
theorem dX12_clears_17 : decode cX12_clears 17 = .ok (.invokevirtual 195, 3) := by decide +kernel
theorem dX12_clears_20 : decode cX12_clears 20 = .ok (.iinc 1 1, 3) := by decide +kernel
theorem dX12_clears_23 : decode cX12_clears 23 = .ok (.goto (-14), 3) := by decide +kernel
theorem dX12_clears_26 : decode cX12_clears 26 = .ok (.iconst 0, 1) := by decide +kernel
theorem dX12_clears_27 : decode cX12_clears 27 = .ok (.istore_n 1, 1) := by decide +kernel
theorem dX12_clears_28 : decode cX12_clears 28 = .ok (.iload_n 1, 1) := by decide +kernel
theorem dX12_clears_29 : decode cX12_clears 29 = .ok (.bipush 49, 2) := by decide +kernel
theorem dX12_clears_31 : decode cX12_clears 31 = .ok (.if_icmp .ge 20, 3) := by decide +kernel
theorem dX12_clears_34 : decode cX12_clears 34 = .ok (.aload_n 0, 1) := by decide +kernel
theorem dX12_clears_35 : decode cX12_clears 35 = .ok (.getfield 43, 3) := by decide +kernel
theorem dX12_clears_38 : decode cX12_clears 38 = .ok (.sipush 196, 3) := by decide +kernel
theorem dX12_clears_41 : decode cX12_clears 41 = .ok (.iload_n 1, 1) := by decide +kernel
theorem dX12_clears_42 : decode cX12_clears 42 = .ok (.iadd, 1) := by decide +kernel
theorem dX12_clears_43 : decode cX12_clears 43 = .ok (.iconst 0, 1) := by decide +kernel
theorem dX12_clears_44 : decode cX12_clears 44 = .ok (.iastore, 1) := by decide +kernel
theorem dX12_clears_45 : decode cX12_clears 45 = .ok (.iinc 1 1, 3) := by decide +kernel
theorem dX12_clears_48 : decode cX12_clears 48 = .ok (.goto (-20), 3) := by decide +kernel
theorem dX12_clears_51 : decode cX12_clears 51 = .ok (.iconst 0, 1) := by decide +kernel
theorem dX12_clears_52 : decode cX12_clears 52 = .ok (.istore_n 1, 1) := by decide +kernel
theorem dX12_clears_53 : decode cX12_clears 53 = .ok (.iload_n 1, 1) := by decide +kernel
theorem dX12_clears_54 : decode cX12_clears 54 = .ok (.bipush 7, 2) := by decide +kernel
theorem dX12_clears_56 : decode cX12_clears 56 = .ok (.if_icmp .ge 29, 3) := by decide +kernel
theorem dX12_clears_59 : decode cX12_clears 59 = .ok (.aload_n 0, 1) := by decide +kernel
theorem dX12_clears_60 : decode cX12_clears 60 = .ok (.getfield 37, 3) := by decide +kernel
theorem dX12_clears_63 : decode cX12_clears 63 = .ok (.bipush 28, 2) := by decide +kernel
theorem dX12_clears_65 : decode cX12_clears 65 = .ok (.iload_n 1, 1) := by decide +kernel
theorem dX12_clears_66 : decode cX12_clears 66 = .ok (.iadd, 1) := by decide +kernel
theorem dX12_clears_67 : decode cX12_clears 67 = .ok (.iload_n 1, 1) := by decide +kernel
theorem dX12_clears_68 : decode cX12_clears 68 = .ok (.iastore, 1) := by decide +kernel
theorem dX12_clears_69 : decode cX12_clears 69 = .ok (.aload_n 0, 1) := by decide +kernel
theorem dX12_clears_70 : decode cX12_clears 70 = .ok (.getfield 46, 3) := by decide +kernel
theorem dX12_clears_73 : decode cX12_clears 73 = .ok (.bipush 28, 2) := by decide +kernel
theorem dX12_clears_75 : decode cX12_clears 75 = .ok (.iload_n 1, 1) := by decide +kernel
theorem dX12_clears_76 : decode cX12_clears 76 = .ok (.iadd, 1) := by decide +kernel
theorem dX12_clears_77 : decode cX12_clears 77 = .ok (.iconst 0, 1) := by decide +kernel
theorem dX12_clears_78 : decode cX12_clears 78 = .ok (.iastore, 1) := by decide +kernel
theorem dX12_clears_79 : decode cX12_clears 79 = .ok (.iinc 1 1, 3) := by decide +kernel
theorem dX12_clears_82 : decode cX12_clears 82 = .ok (.goto (-29), 3) := by decide +kernel
theorem dX12_clears_85 : decode cX12_clears 85 = .ok (.return_, 1) := by decide +kernel
theorem dX12_hall_0 : decode cX12_hall 0 = .ok (.aload_n 0, 1) := by decide +kernel
theorem dX12_hall_1 : decode cX12_hall 1 = .ok (.iconst 0, 1) := by decide +kernel
theorem dX12_hall_2 : decode cX12_hall 2 = .ok (.putfield 89, 3) := by decide +kernel
theorem dX12_hall_5 : decode cX12_hall 5 = .ok (.aload_n 0, 1) := by decide +kernel
theorem dX12_hall_6 : decode cX12_hall 6 = .ok (.invokevirtual 215, 3) := by decide +kernel
theorem dX12_hall_9 : decode cX12_hall 9 = .ok (.aload_n 0, 1) := by decide +kernel
theorem dX12_hall_10 : decode cX12_hall 10 = .ok (.invokevirtual 218, 3) := by decide +kernel
theorem dX12_hall_13 : decode cX12_hall 13 = .ok (.aload_n 0, 1) := by decide +kernel
theorem dX12_hall_14 : decode cX12_hall 14 = .ok (.invokevirtual 179, 3) := by decide +kernel
theorem dX12_hall_17 : decode cX12_hall 17 = .ok (.ifCond .eq 72, 3) := by decide +kernel
theorem dX12_hall_20 : decode cX12_hall 20 = .ok (.aload_n 0, 1) := by decide +kernel
theorem dX12_hall_21 : decode cX12_hall 21 = .ok (.getfield 130, 3) := by decide +kernel
theorem dX12_hall_24 : decode cX12_hall 24 = .ok (.ifCond .eq 65, 3) := by decide +kernel
theorem dX12_hall_27 : decode cX12_hall 27 = .ok (.aload_n 0, 1) := by decide +kernel
theorem dX12_hall_28 : decode cX12_hall 28 = .ok (.getfield 31, 3) := by decide +kernel
theorem dX12_hall_31 : decode cX12_hall 31 = .ok (.iconst 4, 1) := by decide +kernel
theorem dX12_hall_32 : decode cX12_hall 32 = .ok (.iaload, 1) := by decide +kernel
theorem dX12_hall_33 : decode cX12_hall 33 = .ok (.ifCond .ne 28, 3) := by decide +kernel
theorem dX12_hall_36 : decode cX12_hall 36 = .ok (.aload_n 0, 1) := by decide +kernel
theorem dX12_hall_37 : decode cX12_hall 37 = .ok (.ldc2_w 221, 3) := by decide +kernel
theorem dX12_hall_40 : decode cX12_hall 40 = .ok (.invokevirtual 160, 3) := by decide +kernel
theorem dX12_hall_43 : decode cX12_hall 43 = .ok (.aload_n 0, 1) := by decide +kernel
theorem dX12_hall_44 : decode cX12_hall 44 = .ok (.iconst 0, 1) := by decide +kernel
theorem dX12_hall_45 : decode cX12_hall 45 = .ok (.aload_n 0, 1) := by decide +kernel
theorem dX12_hall_46 : decode cX12_hall 46 = .ok (.ldc2_w 223, 3) := by decide +kernel
theorem dX12_hall_49 : decode cX12_hall 49 = .ok (.iconst 2, 1) := by decide +kernel
theorem dX12_hall_50 : decode cX12_hall 50 = .ok (.bipush 7, 2) := by decide +kernel
theorem dX12_hall_52 : decode cX12_hall 52 = .ok (.invokevirtual 190, 3) := by decide +kernel
theorem dX12_hall_55 : decode cX12_hall 55 = .ok (.invokevirtual 195, 3) := by decide +kernel
theorem dX12_hall_58 : decode cX12_hall 58 = .ok (.goto 7, 3) := by decide +kernel
theorem dX12_hall_61 : decode cX12_hall 61 = .ok (.aload_n 0, 1) := by decide +kernel
theorem dX12_hall_62 : decode cX12_hall 62 = .ok (.invokevirtual 225, 3) := by decide +kernel
theorem dX12_hall_65 : decode cX12_hall 65 = .ok (.aload_n 0, 1) := by decide +kernel
theorem dX12_hall_66 : decode cX12_hall 66 = .ok (.invokevirtual 179, 3) := by decide +kernel
theorem dX12_hall_69 : decode cX12_hall 69 = .ok (.ifCond .eq 7, 3) := by decide +kernel
theorem dX12_hall_72 : decode cX12_hall 72 = .ok (.aload_n 0, 1) := by decide +kernel
theorem dX12_hall_73 : decode cX12_hall 73 = .ok (.invokevirtual 228, 3) := by decide +kernel
theorem dX12_hall_76 : decode cX12_hall 76 = .ok (.aload_n 0, 1) := by decide +kernel
theorem dX12_hall_77 : decode cX12_hall 77 = .ok (.getfield 31, 3) := by decide +kernel
theorem dX12_hall_80 : decode cX12_hall 80 = .ok (.iconst 4, 1) := by decide +kernel
theorem dX12_hall_81 : decode cX12_hall 81 = .ok (.dup2, 1) := by decide +kernel
theorem dX12_hall_82 : decode cX12_hall 82 = .ok (.iaload, 1) := by decide +kernel
theorem dX12_hall_83 : decode cX12_hall 83 = .ok (.iconst 1, 1) := by decide +kernel
theorem dX12_hall_84 : decode cX12_hall 84 = .ok (.iadd, 1) := by decide +kernel
theorem dX12_hall_85 : decode cX12_hall 85 = .ok (.iastore, 1) := by decide +kernel
theorem dX12_hall_86 : decode cX12_hall 86 = .ok (.goto (-73), 3) := by decide +kernel
theorem dX12_hall_89 : decode cX12_hall 89 = .ok (.aload_n 0, 1) := by decide +kernel
theorem dX12_hall_90 : decode cX12_hall 90 = .ok (.invokevirtual 231, 3) := by decide +kernel
theorem dX12_hall_93 : decode cX12_hall 93 = .ok (.aload_n 0, 1) := by decide +kernel
theorem dX12_hall_94 : decode cX12_hall 94 = .ok (.getfield 141, 3) := by decide +kernel
theorem dX12_hall_97 : decode cX12_hall 97 = .ok (.ifCond .eq 6, 3) := by decide +kernel
theorem dX12_hall_100 : decode cX12_hall 100 = .ok (.bipush (-4), 2) := by decide +kernel
theorem dX12_hall_102 : decode cX12_hall 102 = .ok (.ireturn, 1) := by decide +kernel
theorem dX12_hall_103 : decode cX12_hall 103 = .ok (.aload_n 0, 1) := by decide +kernel
theorem dX12_hall_104 : decode cX12_hall 104 = .ok (.iconst 2, 1) := by decide +kernel
theorem dX12_hall_105 : decode cX12_hall 105 = .ok (.invokevirtual 171, 3) := by decide +kernel
theorem dX12_hall_108 : decode cX12_hall 108 = .ok (.ifCond .ne 9, 3) := by decide +kernel
theorem dX12_hall_111 : decode cX12_hall 111 = .ok (.aload_n 0, 1) := by decide +kernel
theorem dX12_hall_112 : decode cX12_hall 112 = .ok (.iconst 2, 1) := by decide +kernel
theorem dX12_hall_113 : decode cX12_hall 113 = .ok (.iconst 2, 1) := by decide +kernel
theorem dX12_hall_114 : decode cX12_hall 114 = .ok (.invokevirtual 195, 3) := by decide +kernel
theorem dX12_hall_117 : decode cX12_hall 117 = .ok (.aload_n 0, 1) := by decide +kernel
theorem dX12_hall_118 : decode cX12_hall 118 = .ok (.iconst 4, 1) := by decide +kernel
theorem dX12_hall_119 : decode cX12_hall 119 = .ok (.iconst 0, 1) := by decide +kernel
theorem dX12_hall_120 : decode cX12_hall 120 = .ok (.invokevirtual 234, 3) := by decide +kernel
theorem dX12_hall_123 : decode cX12_hall 123 = .ok (.aload_n 0, 1) := by decide +kernel
theorem dX12_hall_124 : decode cX12_hall 124 = .ok (.getfield 31, 3) := by decide +kernel
theorem dX12_hall_127 : decode cX12_hall 127 = .ok (.iconst 0, 1) := by decide +kernel
theorem dX12_hall_128 : decode cX12_hall 128 = .ok (.iaload, 1) := by decide +kernel
theorem dX12_hall_129 : decode cX12_hall 129 = .ok (.ireturn, 1) := by decide +kernel
theorem dX12_copyRow_0 : decode cX12_copyRow 0 = .ok (.iconst 0, 1) := by decide +kernel
theorem dX12_copyRow_1 : decode cX12_copyRow 1 = .ok (.istore 4, 2) := by decide +kernel
theorem dX12_copyRow_3 : decode cX12_copyRow 3 = .ok (.iload 4, 2) := by decide +kernel
theorem dX12_copyRow_5 : decode cX12_copyRow 5 = .ok (.iload_n 1, 1) := by decide +kernel
theorem dX12_copyRow_6 : decode cX12_copyRow 6 = .ok (.if_icmp .ge 25, 3) := by decide +kernel
theorem dX12_copyRow_9 : decode cX12_copyRow 9 = .ok (.aload_n 0, 1) := by decide +kernel
theorem dX12_copyRow_10 : decode cX12_copyRow 10 = .ok (.iload_n 1, 1) := by decide +kernel
theorem dX12_copyRow_11 : decode cX12_copyRow 11 = .ok (.iload_n 3, 1) := by decide +kernel
theorem dX12_copyRow_12 : decode cX12_copyRow 12 = .ok (.imul, 1) := by decide +kernel
theorem dX12_copyRow_13 : decode cX12_copyRow 13 = .ok (.iload 4, 2) := by decide +kernel
theorem dX12_copyRow_15 : decode cX12_copyRow 15 = .ok (.iadd, 1) := by decide +kernel
theorem dX12_copyRow_16 : decode cX12_copyRow 16 = .ok (.aload_n 0, 1) := by decide +kernel
theorem dX12_copyRow_17 : decode cX12_copyRow 17 = .ok (.iload_n 1, 1) := by decide +kernel
theorem dX12_copyRow_18 : decode cX12_copyRow 18 = .ok (.iload_n 2, 1) := by decide +kernel
theorem dX12_copyRow_19 : decode cX12_copyRow 19 = .ok (.imul, 1) := by decide +kernel
theorem dX12_copyRow_20 : decode cX12_copyRow 20 = .ok (.iload 4, 2) := by decide +kernel
theorem dX12_copyRow_22 : decode cX12_copyRow 22 = .ok (.iadd, 1) := by decide +kernel
theorem dX12_copyRow_23 : decode cX12_copyRow 23 = .ok (.iaload, 1) := by decide +kernel
theorem dX12_copyRow_24 : decode cX12_copyRow 24 = .ok (.iastore, 1) := by decide +kernel
theorem dX12_copyRow_25 : decode cX12_copyRow 25 = .ok (.iinc 4 1, 3) := by decide +kernel
theorem dX12_copyRow_28 : decode cX12_copyRow 28 = .ok (.goto (-25), 3) := by decide +kernel
theorem dX12_copyRow_31 : decode cX12_copyRow 31 = .ok (.return_, 1) := by decide +kernel
theorem dX12_copyHall_0 : decode cX12_copyHall 0 = .ok (.aload_n 0, 1) := by decide +kernel
theorem dX12_copyHall_1 : decode cX12_copyHall 1 = .ok (.getfield 31, 3) := by decide +kernel
theorem dX12_copyHall_4 : decode cX12_copyHall 4 = .ok (.iconst 1, 1) := by decide +kernel
theorem dX12_copyHall_5 : decode cX12_copyHall 5 = .ok (.iload_n 1, 1) := by decide +kernel
theorem dX12_copyHall_6 : decode cX12_copyHall 6 = .ok (.iload_n 2, 1) := by decide +kernel
theorem dX12_copyHall_7 : decode cX12_copyHall 7 = .ok (.invokestatic 237, 3) := by decide +kernel
theorem dX12_copyHall_10 : decode cX12_copyHall 10 = .ok (.aload_n 0, 1) := by decide +kernel
theorem dX12_copyHall_11 : decode cX12_copyHall 11 = .ok (.getfield 34, 3) := by decide +kernel
theorem dX12_copyHall_14 : decode cX12_copyHall 14 = .ok (.iconst 4, 1) := by decide +kernel
theorem dX12_copyHall_15 : decode cX12_copyHall 15 = .ok (.iload_n 1, 1) := by decide +kernel
theorem dX12_copyHall_16 : decode cX12_copyHall 16 = .ok (.iload_n 2, 1) := by decide +kernel
theorem dX12_copyHall_17 : decode cX12_copyHall 17 = .ok (.invokestatic 237, 3) := by decide +kernel
theorem dX12_copyHall_20 : decode cX12_copyHall 20 = .ok (.aload_n 0, 1) := by decide +kernel
theorem dX12_copyHall_21 : decode cX12_copyHall 21 = .ok (.getfield 37, 3) := by decide +kernel
theorem dX12_copyHall_24 : decode cX12_copyHall 24 = .ok (.bipush 7, 2) := by decide +kernel
theorem dX12_copyHall_26 : decode cX12_copyHall 26 = .ok (.iload_n 1, 1) := by decide +kernel
theorem dX12_copyHall_27 : decode cX12_copyHall 27 = .ok (.iload_n 2, 1) := by decide +kernel
theorem dX12_copyHall_28 : decode cX12_copyHall 28 = .ok (.invokestatic 237, 3) := by decide +kernel
theorem dX12_copyHall_31 : decode cX12_copyHall 31 = .ok (.aload_n 0, 1) := by decide +kernel
theorem dX12_copyHall_32 : decode cX12_copyHall 32 = .ok (.getfield 40, 3) := by decide +kernel
theorem dX12_copyHall_35 : decode cX12_copyHall 35 = .ok (.bipush 24, 2) := by decide +kernel
theorem dX12_copyHall_37 : decode cX12_copyHall 37 = .ok (.iload_n 1, 1) := by decide +kernel
theorem dX12_copyHall_38 : decode cX12_copyHall 38 = .ok (.iload_n 2, 1) := by decide +kernel
theorem dX12_copyHall_39 : decode cX12_copyHall 39 = .ok (.invokestatic 237, 3) := by decide +kernel
theorem dX12_copyHall_42 : decode cX12_copyHall 42 = .ok (.aload_n 0, 1) := by decide +kernel
theorem dX12_copyHall_43 : decode cX12_copyHall 43 = .ok (.getfield 43, 3) := by decide +kernel
theorem dX12_copyHall_46 : decode cX12_copyHall 46 = .ok (.bipush 49, 2) := by decide +kernel
theorem dX12_copyHall_48 : decode cX12_copyHall 48 = .ok (.iload_n 1, 1) := by decide +kernel
theorem dX12_copyHall_49 : decode cX12_copyHall 49 = .ok (.iload_n 2, 1) := by decide +kernel
theorem dX12_copyHall_50 : decode cX12_copyHall 50 = .ok (.invokestatic 237, 3) := by decide +kernel
theorem dX12_copyHall_53 : decode cX12_copyHall 53 = .ok (.aload_n 0, 1) := by decide +kernel
theorem dX12_copyHall_54 : decode cX12_copyHall 54 = .ok (.getfield 46, 3) := by decide +kernel
theorem dX12_copyHall_57 : decode cX12_copyHall 57 = .ok (.bipush 7, 2) := by decide +kernel
theorem dX12_copyHall_59 : decode cX12_copyHall 59 = .ok (.iload_n 1, 1) := by decide +kernel
theorem dX12_copyHall_60 : decode cX12_copyHall 60 = .ok (.iload_n 2, 1) := by decide +kernel
theorem dX12_copyHall_61 : decode cX12_copyHall 61 = .ok (.invokestatic 237, 3) := by decide +kernel
theorem dX12_copyHall_64 : decode cX12_copyHall 64 = .ok (.aload_n 0, 1) := by decide +kernel
theorem dX12_copyHall_65 : decode cX12_copyHall 65 = .ok (.getfield 49, 3) := by decide +kernel
theorem dX12_copyHall_68 : decode cX12_copyHall 68 = .ok (.bipush 80, 2) := by decide +kernel
theorem dX12_copyHall_70 : decode cX12_copyHall 70 = .ok (.iload_n 1, 1) := by decide +kernel
theorem dX12_copyHall_71 : decode cX12_copyHall 71 = .ok (.iload_n 2, 1) := by decide +kernel
theorem dX12_copyHall_72 : decode cX12_copyHall 72 = .ok (.invokestatic 237, 3) := by decide +kernel
theorem dX12_copyHall_75 : decode cX12_copyHall 75 = .ok (.return_, 1) := by decide +kernel
theorem dX12_isHall_0 : decode cX12_isHall 0 = .ok (.aload_n 0, 1) := by decide +kernel
theorem dX12_isHall_1 : decode cX12_isHall 1 = .ok (.getfield 31, 3) := by decide +kernel
theorem dX12_isHall_4 : decode cX12_isHall 4 = .ok (.iconst 0, 1) := by decide +kernel
theorem dX12_isHall_5 : decode cX12_isHall 5 = .ok (.iaload, 1) := by decide +kernel
theorem dX12_isHall_6 : decode cX12_isHall 6 = .ok (.ifCond .le 7, 3) := by decide +kernel
theorem dX12_isHall_9 : decode cX12_isHall 9 = .ok (.iconst 1, 1) := by decide +kernel
theorem dX12_isHall_10 : decode cX12_isHall 10 = .ok (.goto 4, 3) := by decide +kernel
theorem dX12_isHall_13 : decode cX12_isHall 13 = .ok (.iconst 0, 1) := by decide +kernel
theorem dX12_isHall_14 : decode cX12_isHall 14 = .ok (.ireturn, 1) := by decide +kernel
theorem dX12_places_0 : decode cX12_places 0 = .ok (.aload_n 0, 1) := by decide +kernel
theorem dX12_places_1 : decode cX12_places 1 = .ok (.getfield 34, 3) := by decide +kernel
theorem dX12_places_4 : decode cX12_places 4 = .ok (.iconst 0, 1) := by decide +kernel
theorem dX12_places_5 : decode cX12_places 5 = .ok (.iaload, 1) := by decide +kernel
theorem dX12_places_6 : decode cX12_places 6 = .ok (.ireturn, 1) := by decide +kernel
theorem dX12_isPlace_0 : decode cX12_isPlace 0 = .ok (.lload_n 1, 1) := by decide +kernel
theorem dX12_isPlace_1 : decode cX12_isPlace 1 = .ok (.lconst 0, 1) := by decide +kernel
theorem dX12_isPlace_2 : decode cX12_isPlace 2 = .ok (.aload_n 0, 1) := by decide +kernel
theorem dX12_isPlace_3 : decode cX12_isPlace 3 = .ok (.invokevirtual 241, 3) := by decide +kernel
theorem dX12_isPlace_6 : decode cX12_isPlace 6 = .ok (.i2l, 1) := by decide +kernel
theorem dX12_isPlace_7 : decode cX12_isPlace 7 = .ok (.lconst 1, 1) := by decide +kernel
theorem dX12_isPlace_8 : decode cX12_isPlace 8 = .ok (.lsub, 1) := by decide +kernel
theorem dX12_isPlace_9 : decode cX12_isPlace 9 = .ok (.invokestatic 94, 3) := by decide +kernel
theorem dX12_isPlace_12 : decode cX12_isPlace 12 = .ok (.ireturn, 1) := by decide +kernel
theorem dX12_isBit_0 : decode cX12_isBit 0 = .ok (.iload_n 0, 1) := by decide +kernel
theorem dX12_isBit_1 : decode cX12_isBit 1 = .ok (.iload_n 1, 1) := by decide +kernel
theorem dX12_isBit_2 : decode cX12_isBit 2 = .ok (.ishr, 1) := by decide +kernel
theorem dX12_isBit_3 : decode cX12_isBit 3 = .ok (.iconst 1, 1) := by decide +kernel
theorem dX12_isBit_4 : decode cX12_isBit 4 = .ok (.iand, 1) := by decide +kernel
theorem dX12_isBit_5 : decode cX12_isBit 5 = .ok (.iconst 1, 1) := by decide +kernel
theorem dX12_isBit_6 : decode cX12_isBit 6 = .ok (.if_icmp .ne 7, 3) := by decide +kernel
theorem dX12_isBit_9 : decode cX12_isBit 9 = .ok (.iconst 1, 1) := by decide +kernel
theorem dX12_isBit_10 : decode cX12_isBit 10 = .ok (.goto 4, 3) := by decide +kernel
theorem dX12_isBit_13 : decode cX12_isBit 13 = .ok (.iconst 0, 1) := by decide +kernel
theorem dX12_isBit_14 : decode cX12_isBit 14 = .ok (.ireturn, 1) := by decide +kernel
theorem dX12_isHalf_0 : decode cX12_isHalf 0 = .ok (.iload_n 0, 1) := by decide +kernel
theorem dX12_isHalf_1 : decode cX12_isHalf 1 = .ok (.i2l, 1) := by decide +kernel
theorem dX12_isHalf_2 : decode cX12_isHalf 2 = .ok (.lconst 0, 1) := by decide +kernel
theorem dX12_isHalf_3 : decode cX12_isHalf 3 = .ok (.lconst 1, 1) := by decide +kernel
theorem dX12_isHalf_4 : decode cX12_isHalf 4 = .ok (.invokestatic 94, 3) := by decide +kernel
theorem dX12_isHalf_7 : decode cX12_isHalf 7 = .ok (.ireturn, 1) := by decide +kernel
theorem dX12_sizeOf_0 : decode cX12_sizeOf 0 = .ok (.iconst 0, 1) := by decide +kernel
theorem dX12_sizeOf_1 : decode cX12_sizeOf 1 = .ok (.istore_n 1, 1) := by decide +kernel
theorem dX12_sizeOf_2 : decode cX12_sizeOf 2 = .ok (.iload_n 0, 1) := by decide +kernel
theorem dX12_sizeOf_3 : decode cX12_sizeOf 3 = .ok (.istore_n 2, 1) := by decide +kernel
theorem dX12_sizeOf_4 : decode cX12_sizeOf 4 = .ok (.iload_n 2, 1) := by decide +kernel
theorem dX12_sizeOf_5 : decode cX12_sizeOf 5 = .ok (.ifCond .eq 15, 3) := by decide +kernel
theorem dX12_sizeOf_8 : decode cX12_sizeOf 8 = .ok (.iinc 1 1, 3) := by decide +kernel
theorem dX12_sizeOf_11 : decode cX12_sizeOf 11 = .ok (.iload_n 2, 1) := by decide +kernel
theorem dX12_sizeOf_12 : decode cX12_sizeOf 12 = .ok (.iload_n 2, 1) := by decide +kernel
theorem dX12_sizeOf_13 : decode cX12_sizeOf 13 = .ok (.iconst 1, 1) := by decide +kernel
theorem dX12_sizeOf_14 : decode cX12_sizeOf 14 = .ok (.isub, 1) := by decide +kernel
theorem dX12_sizeOf_15 : decode cX12_sizeOf 15 = .ok (.iand, 1) := by decide +kernel
theorem dX12_sizeOf_16 : decode cX12_sizeOf 16 = .ok (.istore_n 2, 1) := by decide +kernel
theorem dX12_sizeOf_17 : decode cX12_sizeOf 17 = .ok (.goto (-13), 3) := by decide +kernel
theorem dX12_sizeOf_20 : decode cX12_sizeOf 20 = .ok (.iload_n 1, 1) := by decide +kernel
theorem dX12_sizeOf_21 : decode cX12_sizeOf 21 = .ok (.ireturn, 1) := by decide +kernel
theorem dX12_change_0 : decode cX12_change 0 = .ok (.aload_n 0, 1) := by decide +kernel
theorem dX12_change_1 : decode cX12_change 1 = .ok (.iload_n 1, 1) := by decide +kernel
theorem dX12_change_2 : decode cX12_change 2 = .ok (.iaload, 1) := by decide +kernel
theorem dX12_change_3 : decode cX12_change 3 = .ok (.istore_n 3, 1) := by decide +kernel
theorem dX12_change_4 : decode cX12_change 4 = .ok (.aload_n 0, 1) := by decide +kernel
theorem dX12_change_5 : decode cX12_change 5 = .ok (.iload_n 1, 1) := by decide +kernel
theorem dX12_change_6 : decode cX12_change 6 = .ok (.aload_n 0, 1) := by decide +kernel
theorem dX12_change_7 : decode cX12_change 7 = .ok (.iload_n 2, 1) := by decide +kernel
theorem dX12_change_8 : decode cX12_change 8 = .ok (.iaload, 1) := by decide +kernel
theorem dX12_change_9 : decode cX12_change 9 = .ok (.iastore, 1) := by decide +kernel
theorem dX12_change_10 : decode cX12_change 10 = .ok (.aload_n 0, 1) := by decide +kernel
theorem dX12_change_11 : decode cX12_change 11 = .ok (.iload_n 2, 1) := by decide +kernel
theorem dX12_change_12 : decode cX12_change 12 = .ok (.iload_n 3, 1) := by decide +kernel
theorem dX12_change_13 : decode cX12_change 13 = .ok (.iastore, 1) := by decide +kernel
theorem dX12_change_14 : decode cX12_change 14 = .ok (.return_, 1) := by decide +kernel
theorem dX12_applies_0 : decode cX12_applies 0 = .ok (.iload_n 2, 1) := by decide +kernel
theorem dX12_applies_1 : decode cX12_applies 1 = .ok (.aload_n 0, 1) := by decide +kernel
theorem dX12_applies_2 : decode cX12_applies 2 = .ok (.getfield 40, 3) := by decide +kernel
theorem dX12_applies_5 : decode cX12_applies 5 = .ok (.iconst 4, 1) := by decide +kernel
theorem dX12_applies_6 : decode cX12_applies 6 = .ok (.iload_n 1, 1) := by decide +kernel
theorem dX12_applies_7 : decode cX12_applies 7 = .ok (.imul, 1) := by decide +kernel
theorem dX12_applies_8 : decode cX12_applies 8 = .ok (.iconst 3, 1) := by decide +kernel
theorem dX12_applies_9 : decode cX12_applies 9 = .ok (.iadd, 1) := by decide +kernel
theorem dX12_applies_10 : decode cX12_applies 10 = .ok (.iaload, 1) := by decide +kernel
theorem dX12_applies_11 : decode cX12_applies 11 = .ok (.isub, 1) := by decide +kernel
theorem dX12_applies_12 : decode cX12_applies 12 = .ok (.aload_n 0, 1) := by decide +kernel
theorem dX12_applies_13 : decode cX12_applies 13 = .ok (.getfield 40, 3) := by decide +kernel
theorem dX12_applies_16 : decode cX12_applies 16 = .ok (.iconst 4, 1) := by decide +kernel
theorem dX12_applies_17 : decode cX12_applies 17 = .ok (.iload_n 1, 1) := by decide +kernel
theorem dX12_applies_18 : decode cX12_applies 18 = .ok (.imul, 1) := by decide +kernel
theorem dX12_applies_19 : decode cX12_applies 19 = .ok (.iconst 2, 1) := by decide +kernel
theorem dX12_applies_20 : decode cX12_applies 20 = .ok (.iadd, 1) := by decide +kernel
theorem dX12_applies_21 : decode cX12_applies 21 = .ok (.iaload, 1) := by decide +kernel
theorem dX12_applies_22 : decode cX12_applies 22 = .ok (.irem, 1) := by decide +kernel
theorem dX12_applies_23 : decode cX12_applies 23 = .ok (.ifCond .ne 7, 3) := by decide +kernel
theorem dX12_applies_26 : decode cX12_applies 26 = .ok (.iconst 1, 1) := by decide +kernel
theorem dX12_applies_27 : decode cX12_applies 27 = .ok (.goto 4, 3) := by decide +kernel
theorem dX12_applies_30 : decode cX12_applies 30 = .ok (.iconst 0, 1) := by decide +kernel
theorem dX12_applies_31 : decode cX12_applies 31 = .ok (.ireturn, 1) := by decide +kernel
theorem dX12_nightGoes_0 : decode cX12_nightGoes 0 = .ok (.iconst 0, 1) := by decide +kernel
theorem dX12_nightGoes_1 : decode cX12_nightGoes 1 = .ok (.istore 4, 2) := by decide +kernel
theorem dX12_nightGoes_3 : decode cX12_nightGoes 3 = .ok (.iload 4, 2) := by decide +kernel
theorem dX12_nightGoes_5 : decode cX12_nightGoes 5 = .ok (.aload_n 0, 1) := by decide +kernel
theorem dX12_nightGoes_6 : decode cX12_nightGoes 6 = .ok (.getfield 34, 3) := by decide +kernel
theorem dX12_nightGoes_9 : decode cX12_nightGoes 9 = .ok (.iconst 1, 1) := by decide +kernel
theorem dX12_nightGoes_10 : decode cX12_nightGoes 10 = .ok (.iaload, 1) := by decide +kernel
theorem dX12_nightGoes_11 : decode cX12_nightGoes 11 = .ok (.if_icmp .ge 52, 3) := by decide +kernel
theorem dX12_nightGoes_14 : decode cX12_nightGoes 14 = .ok (.iload_n 3, 1) := by decide +kernel
theorem dX12_nightGoes_15 : decode cX12_nightGoes 15 = .ok (.iload 4, 2) := by decide +kernel
theorem dX12_nightGoes_17 : decode cX12_nightGoes 17 = .ok (.invokestatic 244, 3) := by decide +kernel
theorem dX12_nightGoes_20 : decode cX12_nightGoes 20 = .ok (.ifCond .ne 37, 3) := by decide +kernel
theorem dX12_nightGoes_23 : decode cX12_nightGoes 23 = .ok (.aload_n 0, 1) := by decide +kernel
theorem dX12_nightGoes_24 : decode cX12_nightGoes 24 = .ok (.iload 4, 2) := by decide +kernel
theorem dX12_nightGoes_26 : decode cX12_nightGoes 26 = .ok (.iload_n 2, 1) := by decide +kernel
theorem dX12_nightGoes_27 : decode cX12_nightGoes 27 = .ok (.invokevirtual 248, 3) := by decide +kernel
theorem dX12_nightGoes_30 : decode cX12_nightGoes 30 = .ok (.ifCond .eq 27, 3) := by decide +kernel
theorem dX12_nightGoes_33 : decode cX12_nightGoes 33 = .ok (.aload_n 1, 1) := by decide +kernel
theorem dX12_nightGoes_34 : decode cX12_nightGoes 34 = .ok (.aload_n 0, 1) := by decide +kernel
theorem dX12_nightGoes_35 : decode cX12_nightGoes 35 = .ok (.getfield 40, 3) := by decide +kernel
theorem dX12_nightGoes_38 : decode cX12_nightGoes 38 = .ok (.iconst 4, 1) := by decide +kernel
theorem dX12_nightGoes_39 : decode cX12_nightGoes 39 = .ok (.iload 4, 2) := by decide +kernel
theorem dX12_nightGoes_41 : decode cX12_nightGoes 41 = .ok (.imul, 1) := by decide +kernel
theorem dX12_nightGoes_42 : decode cX12_nightGoes 42 = .ok (.iaload, 1) := by decide +kernel
theorem dX12_nightGoes_43 : decode cX12_nightGoes 43 = .ok (.aload_n 0, 1) := by decide +kernel
theorem dX12_nightGoes_44 : decode cX12_nightGoes 44 = .ok (.getfield 40, 3) := by decide +kernel
theorem dX12_nightGoes_47 : decode cX12_nightGoes 47 = .ok (.iconst 4, 1) := by decide +kernel
theorem dX12_nightGoes_48 : decode cX12_nightGoes 48 = .ok (.iload 4, 2) := by decide +kernel
theorem dX12_nightGoes_50 : decode cX12_nightGoes 50 = .ok (.imul, 1) := by decide +kernel
theorem dX12_nightGoes_51 : decode cX12_nightGoes 51 = .ok (.iconst 1, 1) := by decide +kernel
theorem dX12_nightGoes_52 : decode cX12_nightGoes 52 = .ok (.iadd, 1) := by decide +kernel
theorem dX12_nightGoes_53 : decode cX12_nightGoes 53 = .ok (.iaload, 1) := by decide +kernel
theorem dX12_nightGoes_54 : decode cX12_nightGoes 54 = .ok (.invokestatic 251, 3) := by decide +kernel
theorem dX12_nightGoes_57 : decode cX12_nightGoes 57 = .ok (.iinc 4 1, 3) := by decide +kernel
theorem dX12_nightGoes_60 : decode cX12_nightGoes 60 = .ok (.goto (-57), 3) := by decide +kernel
theorem dX12_nightGoes_63 : decode cX12_nightGoes 63 = .ok (.return_, 1) := by decide +kernel
theorem dX12_lays_0 : decode cX12_lays 0 = .ok (.aload_n 0, 1) := by decide +kernel
theorem dX12_lays_1 : decode cX12_lays 1 = .ok (.iconst 0, 1) := by decide +kernel
theorem dX12_lays_2 : decode cX12_lays 2 = .ok (.putfield 255, 3) := by decide +kernel
theorem dX12_lays_5 : decode cX12_lays 5 = .ok (.iconst 0, 1) := by decide +kernel
theorem dX12_lays_6 : decode cX12_lays 6 = .ok (.istore_n 1, 1) := by decide +kernel
theorem dX12_lays_7 : decode cX12_lays 7 = .ok (.iload_n 1, 1) := by decide +kernel
theorem dX12_lays_8 : decode cX12_lays 8 = .ok (.aload_n 0, 1) := by decide +kernel
theorem dX12_lays_9 : decode cX12_lays 9 = .ok (.invokevirtual 241, 3) := by decide +kernel
theorem dX12_lays_12 : decode cX12_lays 12 = .ok (.if_icmp .ge 21, 3) := by decide +kernel
theorem dX12_lays_15 : decode cX12_lays 15 = .ok (.aload_n 0, 1) := by decide +kernel
theorem dX12_lays_16 : decode cX12_lays 16 = .ok (.getfield 59, 3) := by decide +kernel
theorem dX12_lays_19 : decode cX12_lays 19 = .ok (.iload_n 1, 1) := by decide +kernel
theorem dX12_lays_20 : decode cX12_lays 20 = .ok (.aload_n 0, 1) := by decide +kernel
theorem dX12_lays_21 : decode cX12_lays 21 = .ok (.getfield 37, 3) := by decide +kernel
theorem dX12_lays_24 : decode cX12_lays 24 = .ok (.iload_n 1, 1) := by decide +kernel
theorem dX12_lays_25 : decode cX12_lays 25 = .ok (.iaload, 1) := by decide +kernel
theorem dX12_lays_26 : decode cX12_lays 26 = .ok (.iastore, 1) := by decide +kernel
theorem dX12_lays_27 : decode cX12_lays 27 = .ok (.iinc 1 1, 3) := by decide +kernel
theorem dX12_lays_30 : decode cX12_lays 30 = .ok (.goto (-23), 3) := by decide +kernel
theorem dX12_lays_33 : decode cX12_lays 33 = .ok (.iconst 0, 1) := by decide +kernel
theorem dX12_lays_34 : decode cX12_lays 34 = .ok (.istore_n 1, 1) := by decide +kernel
theorem dX12_lays_35 : decode cX12_lays 35 = .ok (.iload_n 1, 1) := by decide +kernel
theorem dX12_lays_36 : decode cX12_lays 36 = .ok (.aload_n 0, 1) := by decide +kernel
theorem dX12_lays_37 : decode cX12_lays 37 = .ok (.getfield 34, 3) := by decide +kernel
theorem dX12_lays_40 : decode cX12_lays 40 = .ok (.iconst 3, 1) := by decide +kernel
theorem dX12_lays_41 : decode cX12_lays 41 = .ok (.iaload, 1) := by decide +kernel
theorem dX12_lays_42 : decode cX12_lays 42 = .ok (.if_icmp .ge 72, 3) := by decide +kernel
theorem dX12_lays_45 : decode cX12_lays 45 = .ok (.aload_n 0, 1) := by decide +kernel
theorem dX12_lays_46 : decode cX12_lays 46 = .ok (.getfield 49, 3) := by decide +kernel
theorem dX12_lays_49 : decode cX12_lays 49 = .ok (.iconst 2, 1) := by decide +kernel
theorem dX12_lays_50 : decode cX12_lays 50 = .ok (.iload_n 1, 1) := by decide +kernel
theorem dX12_lays_51 : decode cX12_lays 51 = .ok (.imul, 1) := by decide +kernel
theorem dX12_lays_52 : decode cX12_lays 52 = .ok (.iaload, 1) := by decide +kernel
theorem dX12_lays_53 : decode cX12_lays 53 = .ok (.iconst (-1), 1) := by decide +kernel
theorem dX12_lays_54 : decode cX12_lays 54 = .ok (.if_icmp .ne 29, 3) := by decide +kernel
theorem dX12_lays_57 : decode cX12_lays 57 = .ok (.aload_n 0, 1) := by decide +kernel
theorem dX12_lays_58 : decode cX12_lays 58 = .ok (.aload_n 0, 1) := by decide +kernel
theorem dX12_lays_59 : decode cX12_lays 59 = .ok (.getfield 59, 3) := by decide +kernel
theorem dX12_lays_62 : decode cX12_lays 62 = .ok (.aload_n 0, 1) := by decide +kernel
theorem dX12_lays_63 : decode cX12_lays 63 = .ok (.getfield 255, 3) := by decide +kernel
theorem dX12_lays_66 : decode cX12_lays 66 = .ok (.iconst 0, 1) := by decide +kernel
theorem dX12_lays_67 : decode cX12_lays 67 = .ok (.invokevirtual 258, 3) := by decide +kernel
theorem dX12_lays_70 : decode cX12_lays 70 = .ok (.aload_n 0, 1) := by decide +kernel
theorem dX12_lays_71 : decode cX12_lays 71 = .ok (.dup, 1) := by decide +kernel
theorem dX12_lays_72 : decode cX12_lays 72 = .ok (.getfield 255, 3) := by decide +kernel
theorem dX12_lays_75 : decode cX12_lays 75 = .ok (.iconst 1, 1) := by decide +kernel
theorem dX12_lays_76 : decode cX12_lays 76 = .ok (.iadd, 1) := by decide +kernel
theorem dX12_lays_77 : decode cX12_lays 77 = .ok (.putfield 255, 3) := by decide +kernel
theorem dX12_lays_80 : decode cX12_lays 80 = .ok (.goto 28, 3) := by decide +kernel
theorem dX12_lays_83 : decode cX12_lays 83 = .ok (.aload_n 0, 1) := by decide +kernel
theorem dX12_lays_84 : decode cX12_lays 84 = .ok (.getfield 59, 3) := by decide +kernel
theorem dX12_lays_87 : decode cX12_lays 87 = .ok (.aload_n 0, 1) := by decide +kernel
theorem dX12_lays_88 : decode cX12_lays 88 = .ok (.getfield 49, 3) := by decide +kernel
theorem dX12_lays_91 : decode cX12_lays 91 = .ok (.iconst 2, 1) := by decide +kernel
theorem dX12_lays_92 : decode cX12_lays 92 = .ok (.iload_n 1, 1) := by decide +kernel
theorem dX12_lays_93 : decode cX12_lays 93 = .ok (.imul, 1) := by decide +kernel
theorem dX12_lays_94 : decode cX12_lays 94 = .ok (.iaload, 1) := by decide +kernel
theorem dX12_lays_95 : decode cX12_lays 95 = .ok (.aload_n 0, 1) := by decide +kernel
theorem dX12_lays_96 : decode cX12_lays 96 = .ok (.getfield 49, 3) := by decide +kernel
theorem dX12_lays_99 : decode cX12_lays 99 = .ok (.iconst 2, 1) := by decide +kernel
theorem dX12_lays_100 : decode cX12_lays 100 = .ok (.iload_n 1, 1) := by decide +kernel
theorem dX12_lays_101 : decode cX12_lays 101 = .ok (.imul, 1) := by decide +kernel
theorem dX12_lays_102 : decode cX12_lays 102 = .ok (.iconst 1, 1) := by decide +kernel
theorem dX12_lays_103 : decode cX12_lays 103 = .ok (.iadd, 1) := by decide +kernel
theorem dX12_lays_104 : decode cX12_lays 104 = .ok (.iaload, 1) := by decide +kernel
theorem dX12_lays_105 : decode cX12_lays 105 = .ok (.invokestatic 251, 3) := by decide +kernel
theorem dX12_lays_108 : decode cX12_lays 108 = .ok (.iinc 1 1, 3) := by decide +kernel
theorem dX12_lays_111 : decode cX12_lays 111 = .ok (.goto (-76), 3) := by decide +kernel
theorem dX12_lays_114 : decode cX12_lays 114 = .ok (.return_, 1) := by decide +kernel
theorem dX12_goesOn_0 : decode cX12_goesOn 0 = .ok (.iconst 0, 1) := by decide +kernel
theorem dX12_goesOn_1 : decode cX12_goesOn 1 = .ok (.istore_n 2, 1) := by decide +kernel
theorem dX12_goesOn_2 : decode cX12_goesOn 2 = .ok (.iload_n 2, 1) := by decide +kernel
theorem dX12_goesOn_3 : decode cX12_goesOn 3 = .ok (.iload_n 1, 1) := by decide +kernel
theorem dX12_goesOn_4 : decode cX12_goesOn 4 = .ok (.sipush 25200, 3) := by decide +kernel
theorem dX12_goesOn_7 : decode cX12_goesOn 7 = .ok (.irem, 1) := by decide +kernel
theorem dX12_goesOn_8 : decode cX12_goesOn 8 = .ok (.if_icmp .ge 27, 3) := by decide +kernel
theorem dX12_goesOn_11 : decode cX12_goesOn 11 = .ok (.aload_n 0, 1) := by decide +kernel
theorem dX12_goesOn_12 : decode cX12_goesOn 12 = .ok (.aload_n 0, 1) := by decide +kernel
theorem dX12_goesOn_13 : decode cX12_goesOn 13 = .ok (.getfield 59, 3) := by decide +kernel
theorem dX12_goesOn_16 : decode cX12_goesOn 16 = .ok (.aload_n 0, 1) := by decide +kernel
theorem dX12_goesOn_17 : decode cX12_goesOn 17 = .ok (.getfield 255, 3) := by decide +kernel
theorem dX12_goesOn_20 : decode cX12_goesOn 20 = .ok (.iload_n 2, 1) := by decide +kernel
theorem dX12_goesOn_21 : decode cX12_goesOn 21 = .ok (.iadd, 1) := by decide +kernel
theorem dX12_goesOn_22 : decode cX12_goesOn 22 = .ok (.bipush 60, 2) := by decide +kernel
theorem dX12_goesOn_24 : decode cX12_goesOn 24 = .ok (.irem, 1) := by decide +kernel
theorem dX12_goesOn_25 : decode cX12_goesOn 25 = .ok (.iconst 0, 1) := by decide +kernel
theorem dX12_goesOn_26 : decode cX12_goesOn 26 = .ok (.invokevirtual 258, 3) := by decide +kernel
theorem dX12_goesOn_29 : decode cX12_goesOn 29 = .ok (.iinc 2 1, 3) := by decide +kernel
theorem dX12_goesOn_32 : decode cX12_goesOn 32 = .ok (.goto (-30), 3) := by decide +kernel
theorem dX12_goesOn_35 : decode cX12_goesOn 35 = .ok (.return_, 1) := by decide +kernel
theorem dX12_rightNow_0 : decode cX12_rightNow 0 = .ok (.iconst 0, 1) := by decide +kernel
theorem dX12_rightNow_1 : decode cX12_rightNow 1 = .ok (.istore_n 1, 1) := by decide +kernel
theorem dX12_rightNow_2 : decode cX12_rightNow 2 = .ok (.iconst 0, 1) := by decide +kernel
theorem dX12_rightNow_3 : decode cX12_rightNow 3 = .ok (.istore_n 2, 1) := by decide +kernel
theorem dX12_rightNow_4 : decode cX12_rightNow 4 = .ok (.iload_n 2, 1) := by decide +kernel
theorem dX12_rightNow_5 : decode cX12_rightNow 5 = .ok (.aload_n 0, 1) := by decide +kernel
theorem dX12_rightNow_6 : decode cX12_rightNow 6 = .ok (.invokevirtual 241, 3) := by decide +kernel
theorem dX12_rightNow_9 : decode cX12_rightNow 9 = .ok (.if_icmp .ge 29, 3) := by decide +kernel
theorem dX12_rightNow_12 : decode cX12_rightNow 12 = .ok (.iload_n 1, 1) := by decide +kernel
theorem dX12_rightNow_13 : decode cX12_rightNow 13 = .ok (.aload_n 0, 1) := by decide +kernel
theorem dX12_rightNow_14 : decode cX12_rightNow 14 = .ok (.getfield 59, 3) := by decide +kernel
theorem dX12_rightNow_17 : decode cX12_rightNow 17 = .ok (.iload_n 2, 1) := by decide +kernel
theorem dX12_rightNow_18 : decode cX12_rightNow 18 = .ok (.iaload, 1) := by decide +kernel
theorem dX12_rightNow_19 : decode cX12_rightNow 19 = .ok (.iload_n 2, 1) := by decide +kernel
theorem dX12_rightNow_20 : decode cX12_rightNow 20 = .ok (.if_icmp .ne 9, 3) := by decide +kernel
theorem dX12_rightNow_23 : decode cX12_rightNow 23 = .ok (.iconst 1, 1) := by decide +kernel
theorem dX12_rightNow_24 : decode cX12_rightNow 24 = .ok (.iload_n 2, 1) := by decide +kernel
theorem dX12_rightNow_25 : decode cX12_rightNow 25 = .ok (.ishl, 1) := by decide +kernel
theorem dX12_rightNow_26 : decode cX12_rightNow 26 = .ok (.goto 4, 3) := by decide +kernel
theorem dX12_rightNow_29 : decode cX12_rightNow 29 = .ok (.iconst 0, 1) := by decide +kernel
theorem dX12_rightNow_30 : decode cX12_rightNow 30 = .ok (.ior, 1) := by decide +kernel
theorem dX12_rightNow_31 : decode cX12_rightNow 31 = .ok (.istore_n 1, 1) := by decide +kernel
theorem dX12_rightNow_32 : decode cX12_rightNow 32 = .ok (.iinc 2 1, 3) := by decide +kernel
theorem dX12_rightNow_35 : decode cX12_rightNow 35 = .ok (.goto (-31), 3) := by decide +kernel
theorem dX12_rightNow_38 : decode cX12_rightNow 38 = .ok (.iload_n 1, 1) := by decide +kernel
theorem dX12_rightNow_39 : decode cX12_rightNow 39 = .ok (.ireturn, 1) := by decide +kernel
theorem dX12_placeOf_0 : decode cX12_placeOf 0 = .ok (.iconst 0, 1) := by decide +kernel
theorem dX12_placeOf_1 : decode cX12_placeOf 1 = .ok (.istore_n 2, 1) := by decide +kernel
theorem dX12_placeOf_2 : decode cX12_placeOf 2 = .ok (.aload_n 0, 1) := by decide +kernel
theorem dX12_placeOf_3 : decode cX12_placeOf 3 = .ok (.getfield 59, 3) := by decide +kernel
theorem dX12_placeOf_6 : decode cX12_placeOf 6 = .ok (.iload_n 2, 1) := by decide +kernel
theorem dX12_placeOf_7 : decode cX12_placeOf 7 = .ok (.iaload, 1) := by decide +kernel
theorem dX12_placeOf_8 : decode cX12_placeOf 8 = .ok (.iload_n 1, 1) := by decide +kernel
theorem dX12_placeOf_9 : decode cX12_placeOf 9 = .ok (.if_icmp .eq 9, 3) := by decide +kernel
theorem dX12_placeOf_12 : decode cX12_placeOf 12 = .ok (.iinc 2 1, 3) := by decide +kernel
theorem dX12_placeOf_15 : decode cX12_placeOf 15 = .ok (.goto (-13), 3) := by decide +kernel
theorem dX12_placeOf_18 : decode cX12_placeOf 18 = .ok (.iload_n 2, 1) := by decide +kernel
theorem dX12_placeOf_19 : decode cX12_placeOf 19 = .ok (.ireturn, 1) := by decide +kernel
theorem dX12_isLater_0 : decode cX12_isLater 0 = .ok (.iload_n 0, 1) := by decide +kernel
theorem dX12_isLater_1 : decode cX12_isLater 1 = .ok (.i2l, 1) := by decide +kernel
theorem dX12_isLater_2 : decode cX12_isLater 2 = .ok (.lconst 0, 1) := by decide +kernel
theorem dX12_isLater_3 : decode cX12_isLater 3 = .ok (.ldc2_w 261, 3) := by decide +kernel
theorem dX12_isLater_6 : decode cX12_isLater 6 = .ok (.invokestatic 94, 3) := by decide +kernel
theorem dX12_isLater_9 : decode cX12_isLater 9 = .ok (.ireturn, 1) := by decide +kernel
theorem dX12_law_0 : decode cX12_law 0 = .ok (.aload_n 0, 1) := by decide +kernel
theorem dX12_law_1 : decode cX12_law 1 = .ok (.iconst 0, 1) := by decide +kernel
theorem dX12_law_2 : decode cX12_law 2 = .ok (.putfield 89, 3) := by decide +kernel
theorem dX12_law_5 : decode cX12_law 5 = .ok (.iload_n 1, 1) := by decide +kernel
theorem dX12_law_6 : decode cX12_law 6 = .ok (.i2l, 1) := by decide +kernel
theorem dX12_law_7 : decode cX12_law 7 = .ok (.lconst 0, 1) := by decide +kernel
theorem dX12_law_8 : decode cX12_law 8 = .ok (.aload_n 0, 1) := by decide +kernel
theorem dX12_law_9 : decode cX12_law 9 = .ok (.getfield 34, 3) := by decide +kernel
theorem dX12_law_12 : decode cX12_law 12 = .ok (.iconst 1, 1) := by decide +kernel
theorem dX12_law_13 : decode cX12_law 13 = .ok (.iaload, 1) := by decide +kernel
theorem dX12_law_14 : decode cX12_law 14 = .ok (.iconst 1, 1) := by decide +kernel
theorem dX12_law_15 : decode cX12_law 15 = .ok (.isub, 1) := by decide +kernel
theorem dX12_law_16 : decode cX12_law 16 = .ok (.i2l, 1) := by decide +kernel
theorem dX12_law_17 : decode cX12_law 17 = .ok (.invokestatic 94, 3) := by decide +kernel
theorem dX12_law_20 : decode cX12_law 20 = .ok (.ifCond .eq 28, 3) := by decide +kernel
theorem dX12_law_23 : decode cX12_law 23 = .ok (.iload_n 2, 1) := by decide +kernel
theorem dX12_law_24 : decode cX12_law 24 = .ok (.i2l, 1) := by decide +kernel
theorem dX12_law_25 : decode cX12_law 25 = .ok (.lconst 0, 1) := by decide +kernel
theorem dX12_law_26 : decode cX12_law 26 = .ok (.ldc2_w 92, 3) := by decide +kernel
theorem dX12_law_29 : decode cX12_law 29 = .ok (.invokestatic 94, 3) := by decide +kernel
theorem dX12_law_32 : decode cX12_law 32 = .ok (.ifCond .eq 16, 3) := by decide +kernel
theorem dX12_law_35 : decode cX12_law 35 = .ok (.aload_n 0, 1) := by decide +kernel
theorem dX12_law_36 : decode cX12_law 36 = .ok (.getfield 40, 3) := by decide +kernel
theorem dX12_law_39 : decode cX12_law 39 = .ok (.iconst 4, 1) := by decide +kernel
theorem dX12_law_40 : decode cX12_law 40 = .ok (.iload_n 1, 1) := by decide +kernel
theorem dX12_law_41 : decode cX12_law 41 = .ok (.imul, 1) := by decide +kernel
theorem dX12_law_42 : decode cX12_law 42 = .ok (.iload_n 2, 1) := by decide +kernel
theorem dX12_law_43 : decode cX12_law 43 = .ok (.iadd, 1) := by decide +kernel
theorem dX12_law_44 : decode cX12_law 44 = .ok (.iaload, 1) := by decide +kernel
theorem dX12_law_45 : decode cX12_law 45 = .ok (.goto 5, 3) := by decide +kernel
theorem dX12_law_48 : decode cX12_law 48 = .ok (.bipush (-2), 2) := by decide +kernel
theorem dX12_law_50 : decode cX12_law 50 = .ok (.ireturn, 1) := by decide +kernel
theorem dX12_suits_0 : decode cX12_suits 0 = .ok (.aload_n 0, 1) := by decide +kernel
theorem dX12_suits_1 : decode cX12_suits 1 = .ok (.iconst 0, 1) := by decide +kernel
theorem dX12_suits_2 : decode cX12_suits 2 = .ok (.putfield 89, 3) := by decide +kernel
theorem dX12_suits_5 : decode cX12_suits 5 = .ok (.aload_n 0, 1) := by decide +kernel
theorem dX12_suits_6 : decode cX12_suits 6 = .ok (.iload_n 1, 1) := by decide +kernel
theorem dX12_suits_7 : decode cX12_suits 7 = .ok (.i2l, 1) := by decide +kernel
theorem dX12_suits_8 : decode cX12_suits 8 = .ok (.invokevirtual 263, 3) := by decide +kernel
theorem dX12_suits_11 : decode cX12_suits 11 = .ok (.ifCond .eq 26, 3) := by decide +kernel
theorem dX12_suits_14 : decode cX12_suits 14 = .ok (.aload_n 0, 1) := by decide +kernel
theorem dX12_suits_15 : decode cX12_suits 15 = .ok (.iload_n 2, 1) := by decide +kernel
theorem dX12_suits_16 : decode cX12_suits 16 = .ok (.i2l, 1) := by decide +kernel
theorem dX12_suits_17 : decode cX12_suits 17 = .ok (.invokevirtual 263, 3) := by decide +kernel
theorem dX12_suits_20 : decode cX12_suits 20 = .ok (.ifCond .eq 17, 3) := by decide +kernel
theorem dX12_suits_23 : decode cX12_suits 23 = .ok (.aload_n 0, 1) := by decide +kernel
theorem dX12_suits_24 : decode cX12_suits 24 = .ok (.getfield 43, 3) := by decide +kernel
theorem dX12_suits_27 : decode cX12_suits 27 = .ok (.bipush 7, 2) := by decide +kernel
theorem dX12_suits_29 : decode cX12_suits 29 = .ok (.iload_n 1, 1) := by decide +kernel
theorem dX12_suits_30 : decode cX12_suits 30 = .ok (.imul, 1) := by decide +kernel
theorem dX12_suits_31 : decode cX12_suits 31 = .ok (.iload_n 2, 1) := by decide +kernel
theorem dX12_suits_32 : decode cX12_suits 32 = .ok (.iadd, 1) := by decide +kernel
theorem dX12_suits_33 : decode cX12_suits 33 = .ok (.iaload, 1) := by decide +kernel
theorem dX12_suits_34 : decode cX12_suits 34 = .ok (.goto 5, 3) := by decide +kernel
theorem dX12_suits_37 : decode cX12_suits 37 = .ok (.bipush (-2), 2) := by decide +kernel
theorem dX12_suits_39 : decode cX12_suits 39 = .ok (.ireturn, 1) := by decide +kernel
theorem dX12_apart_0 : decode cX12_apart 0 = .ok (.aload_n 0, 1) := by decide +kernel
theorem dX12_apart_1 : decode cX12_apart 1 = .ok (.iconst 0, 1) := by decide +kernel
theorem dX12_apart_2 : decode cX12_apart 2 = .ok (.putfield 89, 3) := by decide +kernel
theorem dX12_apart_5 : decode cX12_apart 5 = .ok (.aload_n 0, 1) := by decide +kernel
theorem dX12_apart_6 : decode cX12_apart 6 = .ok (.iload_n 1, 1) := by decide +kernel
theorem dX12_apart_7 : decode cX12_apart 7 = .ok (.i2l, 1) := by decide +kernel
theorem dX12_apart_8 : decode cX12_apart 8 = .ok (.invokevirtual 263, 3) := by decide +kernel
theorem dX12_apart_11 : decode cX12_apart 11 = .ok (.ifCond .eq 12, 3) := by decide +kernel
theorem dX12_apart_14 : decode cX12_apart 14 = .ok (.aload_n 0, 1) := by decide +kernel
theorem dX12_apart_15 : decode cX12_apart 15 = .ok (.getfield 46, 3) := by decide +kernel
theorem dX12_apart_18 : decode cX12_apart 18 = .ok (.iload_n 1, 1) := by decide +kernel
theorem dX12_apart_19 : decode cX12_apart 19 = .ok (.iaload, 1) := by decide +kernel
theorem dX12_apart_20 : decode cX12_apart 20 = .ok (.goto 5, 3) := by decide +kernel
theorem dX12_apart_23 : decode cX12_apart 23 = .ok (.bipush (-2), 2) := by decide +kernel
theorem dX12_apart_25 : decode cX12_apart 25 = .ok (.ireturn, 1) := by decide +kernel
theorem dX12_at_0 : decode cX12_at 0 = .ok (.aload_n 0, 1) := by decide +kernel
theorem dX12_at_1 : decode cX12_at 1 = .ok (.iconst 0, 1) := by decide +kernel
theorem dX12_at_2 : decode cX12_at 2 = .ok (.putfield 89, 3) := by decide +kernel
theorem dX12_at_5 : decode cX12_at 5 = .ok (.aload_n 0, 1) := by decide +kernel
theorem dX12_at_6 : decode cX12_at 6 = .ok (.iload_n 1, 1) := by decide +kernel
theorem dX12_at_7 : decode cX12_at 7 = .ok (.i2l, 1) := by decide +kernel
theorem dX12_at_8 : decode cX12_at 8 = .ok (.invokevirtual 263, 3) := by decide +kernel
theorem dX12_at_11 : decode cX12_at 11 = .ok (.ifCond .ne 6, 3) := by decide +kernel
theorem dX12_at_14 : decode cX12_at 14 = .ok (.bipush (-2), 2) := by decide +kernel
theorem dX12_at_16 : decode cX12_at 16 = .ok (.ireturn, 1) := by decide +kernel
theorem dX12_at_17 : decode cX12_at 17 = .ok (.aload_n 0, 1) := by decide +kernel
theorem dX12_at_18 : decode cX12_at 18 = .ok (.invokevirtual 266, 3) := by decide +kernel
theorem dX12_at_21 : decode cX12_at 21 = .ok (.aload_n 0, 1) := by decide +kernel
theorem dX12_at_22 : decode cX12_at 22 = .ok (.getfield 59, 3) := by decide +kernel
theorem dX12_at_25 : decode cX12_at 25 = .ok (.iload_n 1, 1) := by decide +kernel
theorem dX12_at_26 : decode cX12_at 26 = .ok (.iaload, 1) := by decide +kernel
theorem dX12_at_27 : decode cX12_at 27 = .ok (.ireturn, 1) := by decide +kernel
theorem dX12_where_0 : decode cX12_where 0 = .ok (.aload_n 0, 1) := by decide +kernel
theorem dX12_where_1 : decode cX12_where 1 = .ok (.iconst 0, 1) := by decide +kernel
theorem dX12_where_2 : decode cX12_where 2 = .ok (.putfield 89, 3) := by decide +kernel
theorem dX12_where_5 : decode cX12_where 5 = .ok (.aload_n 0, 1) := by decide +kernel
theorem dX12_where_6 : decode cX12_where 6 = .ok (.iload_n 1, 1) := by decide +kernel
theorem dX12_where_7 : decode cX12_where 7 = .ok (.i2l, 1) := by decide +kernel
theorem dX12_where_8 : decode cX12_where 8 = .ok (.invokevirtual 263, 3) := by decide +kernel
theorem dX12_where_11 : decode cX12_where 11 = .ok (.ifCond .ne 6, 3) := by decide +kernel
theorem dX12_where_14 : decode cX12_where 14 = .ok (.bipush (-2), 2) := by decide +kernel
theorem dX12_where_16 : decode cX12_where 16 = .ok (.ireturn, 1) := by decide +kernel
theorem dX12_where_17 : decode cX12_where 17 = .ok (.aload_n 0, 1) := by decide +kernel
theorem dX12_where_18 : decode cX12_where 18 = .ok (.invokevirtual 266, 3) := by decide +kernel
theorem dX12_where_21 : decode cX12_where 21 = .ok (.aload_n 0, 1) := by decide +kernel
theorem dX12_where_22 : decode cX12_where 22 = .ok (.iload_n 1, 1) := by decide +kernel
theorem dX12_where_23 : decode cX12_where 23 = .ok (.invokevirtual 269, 3) := by decide +kernel
theorem dX12_where_26 : decode cX12_where 26 = .ok (.ireturn, 1) := by decide +kernel
theorem dX12_later_0 : decode cX12_later 0 = .ok (.aload_n 0, 1) := by decide +kernel
theorem dX12_later_1 : decode cX12_later 1 = .ok (.iconst 0, 1) := by decide +kernel
theorem dX12_later_2 : decode cX12_later 2 = .ok (.putfield 89, 3) := by decide +kernel
theorem dX12_later_5 : decode cX12_later 5 = .ok (.aload_n 0, 1) := by decide +kernel
theorem dX12_later_6 : decode cX12_later 6 = .ok (.iload_n 1, 1) := by decide +kernel
theorem dX12_later_7 : decode cX12_later 7 = .ok (.i2l, 1) := by decide +kernel
theorem dX12_later_8 : decode cX12_later 8 = .ok (.invokevirtual 263, 3) := by decide +kernel
theorem dX12_later_11 : decode cX12_later 11 = .ok (.ifCond .eq 10, 3) := by decide +kernel
theorem dX12_later_14 : decode cX12_later 14 = .ok (.iload_n 2, 1) := by decide +kernel
theorem dX12_later_15 : decode cX12_later 15 = .ok (.invokestatic 272, 3) := by decide +kernel
theorem dX12_later_18 : decode cX12_later 18 = .ok (.ifCond .ne 6, 3) := by decide +kernel
theorem dX12_later_21 : decode cX12_later 21 = .ok (.bipush (-2), 2) := by decide +kernel
theorem dX12_later_23 : decode cX12_later 23 = .ok (.ireturn, 1) := by decide +kernel
theorem dX12_later_24 : decode cX12_later 24 = .ok (.aload_n 0, 1) := by decide +kernel
theorem dX12_later_25 : decode cX12_later 25 = .ok (.invokevirtual 266, 3) := by decide +kernel
theorem dX12_later_28 : decode cX12_later 28 = .ok (.aload_n 0, 1) := by decide +kernel
theorem dX12_later_29 : decode cX12_later 29 = .ok (.iload_n 2, 1) := by decide +kernel
theorem dX12_later_30 : decode cX12_later 30 = .ok (.invokevirtual 275, 3) := by decide +kernel
theorem dX12_later_33 : decode cX12_later 33 = .ok (.aload_n 0, 1) := by decide +kernel
theorem dX12_later_34 : decode cX12_later 34 = .ok (.getfield 59, 3) := by decide +kernel
theorem dX12_later_37 : decode cX12_later 37 = .ok (.iload_n 1, 1) := by decide +kernel
theorem dX12_later_38 : decode cX12_later 38 = .ok (.iaload, 1) := by decide +kernel
theorem dX12_later_39 : decode cX12_later 39 = .ok (.ireturn, 1) := by decide +kernel
theorem dX12_right_0 : decode cX12_right 0 = .ok (.aload_n 0, 1) := by decide +kernel
theorem dX12_right_1 : decode cX12_right 1 = .ok (.iconst 0, 1) := by decide +kernel
theorem dX12_right_2 : decode cX12_right 2 = .ok (.putfield 89, 3) := by decide +kernel
theorem dX12_right_5 : decode cX12_right 5 = .ok (.aload_n 0, 1) := by decide +kernel

theorem dX0_init_0 : decode cX0_init 0 = .ok (.aload_n 0, 1) := by decide +kernel
theorem dX0_init_1 : decode cX0_init 1 = .ok (.invokespecial 3, 3) := by decide +kernel
theorem dX0_init_4 : decode cX0_init 4 = .ok (.aload_n 0, 1) := by decide +kernel
theorem dX0_init_5 : decode cX0_init 5 = .ok (.iconst 5, 1) := by decide +kernel
theorem dX0_init_6 : decode cX0_init 6 = .ok (.newarray .int, 2) := by decide +kernel
theorem dX0_init_8 : decode cX0_init 8 = .ok (.putfield 9, 3) := by decide +kernel
theorem dX0_init_11 : decode cX0_init 11 = .ok (.aload_n 0, 1) := by decide +kernel
theorem dX0_init_12 : decode cX0_init 12 = .ok (.iconst 5, 1) := by decide +kernel
theorem dX0_init_13 : decode cX0_init 13 = .ok (.newarray .int, 2) := by decide +kernel
theorem dX0_init_15 : decode cX0_init 15 = .ok (.putfield 15, 3) := by decide +kernel
theorem dX0_init_18 : decode cX0_init 18 = .ok (.aload_n 0, 1) := by decide +kernel
theorem dX0_init_19 : decode cX0_init 19 = .ok (.iconst 5, 1) := by decide +kernel
theorem dX0_init_20 : decode cX0_init 20 = .ok (.newarray .int, 2) := by decide +kernel
theorem dX0_init_22 : decode cX0_init 22 = .ok (.putfield 18, 3) := by decide +kernel
theorem dX0_init_25 : decode cX0_init 25 = .ok (.aload_n 0, 1) := by decide +kernel
theorem dX0_init_26 : decode cX0_init 26 = .ok (.iconst 5, 1) := by decide +kernel
theorem dX0_init_27 : decode cX0_init 27 = .ok (.newarray .int, 2) := by decide +kernel
theorem dX0_init_29 : decode cX0_init 29 = .ok (.putfield 21, 3) := by decide +kernel
theorem dX0_init_32 : decode cX0_init 32 = .ok (.aload_n 0, 1) := by decide +kernel
theorem dX0_init_33 : decode cX0_init 33 = .ok (.iconst 5, 1) := by decide +kernel
theorem dX0_init_34 : decode cX0_init 34 = .ok (.iconst 5, 1) := by decide +kernel
theorem dX0_init_35 : decode cX0_init 35 = .ok (.multianewarray 24 2, 4) := by decide +kernel
theorem dX0_init_39 : decode cX0_init 39 = .ok (.putfield 26, 3) := by decide +kernel
theorem dX0_init_42 : decode cX0_init 42 = .ok (.aload_n 0, 1) := by decide +kernel
theorem dX0_init_43 : decode cX0_init 43 = .ok (.iconst 5, 1) := by decide +kernel
theorem dX0_init_44 : decode cX0_init 44 = .ok (.bipush 40, 2) := by decide +kernel
theorem dX0_init_46 : decode cX0_init 46 = .ok (.multianewarray 24 2, 4) := by decide +kernel
theorem dX0_init_50 : decode cX0_init 50 = .ok (.putfield 29, 3) := by decide +kernel
theorem dX0_init_53 : decode cX0_init 53 = .ok (.aload_n 0, 1) := by decide +kernel
theorem dX0_init_54 : decode cX0_init 54 = .ok (.iconst 5, 1) := by decide +kernel
theorem dX0_init_55 : decode cX0_init 55 = .ok (.newarray .int, 2) := by decide +kernel
theorem dX0_init_57 : decode cX0_init 57 = .ok (.putfield 32, 3) := by decide +kernel
theorem dX0_init_60 : decode cX0_init 60 = .ok (.aload_n 0, 1) := by decide +kernel
theorem dX0_init_61 : decode cX0_init 61 = .ok (.iconst 5, 1) := by decide +kernel
theorem dX0_init_62 : decode cX0_init 62 = .ok (.newarray .int, 2) := by decide +kernel
theorem dX0_init_64 : decode cX0_init 64 = .ok (.putfield 35, 3) := by decide +kernel
theorem dX0_init_67 : decode cX0_init 67 = .ok (.aload_n 0, 1) := by decide +kernel
theorem dX0_init_68 : decode cX0_init 68 = .ok (.iconst 5, 1) := by decide +kernel
theorem dX0_init_69 : decode cX0_init 69 = .ok (.newarray .int, 2) := by decide +kernel
theorem dX0_init_71 : decode cX0_init 71 = .ok (.putfield 38, 3) := by decide +kernel
theorem dX0_init_74 : decode cX0_init 74 = .ok (.return_, 1) := by decide +kernel
theorem dX0_become_0 : decode cX0_become 0 = .ok (.aload_n 0, 1) := by decide +kernel
theorem dX0_become_1 : decode cX0_become 1 = .ok (.aload_n 1, 1) := by decide +kernel
theorem dX0_become_2 : decode cX0_become 2 = .ok (.getfield 41, 3) := by decide +kernel
theorem dX0_become_5 : decode cX0_become 5 = .ok (.putfield 41, 3) := by decide +kernel
theorem dX0_become_8 : decode cX0_become 8 = .ok (.aload_n 0, 1) := by decide +kernel
theorem dX0_become_9 : decode cX0_become 9 = .ok (.aload_n 1, 1) := by decide +kernel
theorem dX0_become_10 : decode cX0_become 10 = .ok (.getfield 45, 3) := by decide +kernel
theorem dX0_become_13 : decode cX0_become 13 = .ok (.putfield 45, 3) := by decide +kernel
theorem dX0_become_16 : decode cX0_become 16 = .ok (.aload_n 1, 1) := by decide +kernel
theorem dX0_become_17 : decode cX0_become 17 = .ok (.getfield 9, 3) := by decide +kernel
theorem dX0_become_20 : decode cX0_become 20 = .ok (.aload_n 0, 1) := by decide +kernel
theorem dX0_become_21 : decode cX0_become 21 = .ok (.getfield 9, 3) := by decide +kernel
theorem dX0_become_24 : decode cX0_become 24 = .ok (.invokestatic 48, 3) := by decide +kernel
theorem dX0_become_27 : decode cX0_become 27 = .ok (.aload_n 1, 1) := by decide +kernel
theorem dX0_become_28 : decode cX0_become 28 = .ok (.getfield 15, 3) := by decide +kernel
theorem dX0_become_31 : decode cX0_become 31 = .ok (.aload_n 0, 1) := by decide +kernel
theorem dX0_become_32 : decode cX0_become 32 = .ok (.getfield 15, 3) := by decide +kernel
theorem dX0_become_35 : decode cX0_become 35 = .ok (.invokestatic 48, 3) := by decide +kernel
theorem dX0_become_38 : decode cX0_become 38 = .ok (.aload_n 1, 1) := by decide +kernel
theorem dX0_become_39 : decode cX0_become 39 = .ok (.getfield 18, 3) := by decide +kernel
theorem dX0_become_42 : decode cX0_become 42 = .ok (.aload_n 0, 1) := by decide +kernel
theorem dX0_become_43 : decode cX0_become 43 = .ok (.getfield 18, 3) := by decide +kernel
theorem dX0_become_46 : decode cX0_become 46 = .ok (.invokestatic 48, 3) := by decide +kernel
theorem dX0_become_49 : decode cX0_become 49 = .ok (.aload_n 1, 1) := by decide +kernel
theorem dX0_become_50 : decode cX0_become 50 = .ok (.getfield 21, 3) := by decide +kernel
theorem dX0_become_53 : decode cX0_become 53 = .ok (.aload_n 0, 1) := by decide +kernel
theorem dX0_become_54 : decode cX0_become 54 = .ok (.getfield 21, 3) := by decide +kernel
theorem dX0_become_57 : decode cX0_become 57 = .ok (.invokestatic 48, 3) := by decide +kernel
theorem dX0_become_60 : decode cX0_become 60 = .ok (.aload_n 1, 1) := by decide +kernel
theorem dX0_become_61 : decode cX0_become 61 = .ok (.getfield 32, 3) := by decide +kernel
theorem dX0_become_64 : decode cX0_become 64 = .ok (.aload_n 0, 1) := by decide +kernel
theorem dX0_become_65 : decode cX0_become 65 = .ok (.getfield 32, 3) := by decide +kernel
theorem dX0_become_68 : decode cX0_become 68 = .ok (.invokestatic 48, 3) := by decide +kernel
theorem dX0_become_71 : decode cX0_become 71 = .ok (.aload_n 1, 1) := by decide +kernel
theorem dX0_become_72 : decode cX0_become 72 = .ok (.getfield 35, 3) := by decide +kernel
theorem dX0_become_75 : decode cX0_become 75 = .ok (.aload_n 0, 1) := by decide +kernel
theorem dX0_become_76 : decode cX0_become 76 = .ok (.getfield 35, 3) := by decide +kernel
theorem dX0_become_79 : decode cX0_become 79 = .ok (.invokestatic 48, 3) := by decide +kernel
theorem dX0_become_82 : decode cX0_become 82 = .ok (.aload_n 1, 1) := by decide +kernel
theorem dX0_become_83 : decode cX0_become 83 = .ok (.getfield 38, 3) := by decide +kernel
theorem dX0_become_86 : decode cX0_become 86 = .ok (.aload_n 0, 1) := by decide +kernel
theorem dX0_become_87 : decode cX0_become 87 = .ok (.getfield 38, 3) := by decide +kernel
theorem dX0_become_90 : decode cX0_become 90 = .ok (.invokestatic 48, 3) := by decide +kernel
theorem dX0_become_93 : decode cX0_become 93 = .ok (.iconst 0, 1) := by decide +kernel
theorem dX0_become_94 : decode cX0_become 94 = .ok (.istore_n 2, 1) := by decide +kernel
theorem dX0_become_95 : decode cX0_become 95 = .ok (.iload_n 2, 1) := by decide +kernel
theorem dX0_become_96 : decode cX0_become 96 = .ok (.iconst 5, 1) := by decide +kernel
theorem dX0_become_97 : decode cX0_become 97 = .ok (.if_icmp .ge 39, 3) := by decide +kernel
theorem dX0_become_100 : decode cX0_become 100 = .ok (.aload_n 1, 1) := by decide +kernel
theorem dX0_become_101 : decode cX0_become 101 = .ok (.getfield 26, 3) := by decide +kernel
theorem dX0_become_104 : decode cX0_become 104 = .ok (.iload_n 2, 1) := by decide +kernel
theorem dX0_become_105 : decode cX0_become 105 = .ok (.aaload, 1) := by decide +kernel
theorem dX0_become_106 : decode cX0_become 106 = .ok (.aload_n 0, 1) := by decide +kernel
theorem dX0_become_107 : decode cX0_become 107 = .ok (.getfield 26, 3) := by decide +kernel
theorem dX0_become_110 : decode cX0_become 110 = .ok (.iload_n 2, 1) := by decide +kernel
theorem dX0_become_111 : decode cX0_become 111 = .ok (.aaload, 1) := by decide +kernel
theorem dX0_become_112 : decode cX0_become 112 = .ok (.invokestatic 48, 3) := by decide +kernel
theorem dX0_become_115 : decode cX0_become 115 = .ok (.aload_n 1, 1) := by decide +kernel
theorem dX0_become_116 : decode cX0_become 116 = .ok (.getfield 29, 3) := by decide +kernel
theorem dX0_become_119 : decode cX0_become 119 = .ok (.iload_n 2, 1) := by decide +kernel
theorem dX0_become_120 : decode cX0_become 120 = .ok (.aaload, 1) := by decide +kernel
theorem dX0_become_121 : decode cX0_become 121 = .ok (.aload_n 0, 1) := by decide +kernel
theorem dX0_become_122 : decode cX0_become 122 = .ok (.getfield 29, 3) := by decide +kernel
theorem dX0_become_125 : decode cX0_become 125 = .ok (.iload_n 2, 1) := by decide +kernel
theorem dX0_become_126 : decode cX0_become 126 = .ok (.aaload, 1) := by decide +kernel
theorem dX0_become_127 : decode cX0_become 127 = .ok (.invokestatic 48, 3) := by decide +kernel
theorem dX0_become_130 : decode cX0_become 130 = .ok (.iinc 2 1, 3) := by decide +kernel
theorem dX0_become_133 : decode cX0_become 133 = .ok (.goto (-38), 3) := by decide +kernel
theorem dX0_become_136 : decode cX0_become 136 = .ok (.return_, 1) := by decide +kernel
theorem dX0_copyRow_0 : decode cX0_copyRow 0 = .ok (.aload_n 0, 1) := by decide +kernel
theorem dX0_copyRow_1 : decode cX0_copyRow 1 = .ok (.iconst 0, 1) := by decide +kernel
theorem dX0_copyRow_2 : decode cX0_copyRow 2 = .ok (.aload_n 1, 1) := by decide +kernel
theorem dX0_copyRow_3 : decode cX0_copyRow 3 = .ok (.iconst 0, 1) := by decide +kernel
theorem dX0_copyRow_4 : decode cX0_copyRow 4 = .ok (.aload_n 0, 1) := by decide +kernel
theorem dX0_copyRow_5 : decode cX0_copyRow 5 = .ok (.arraylength, 1) := by decide +kernel
theorem dX0_copyRow_6 : decode cX0_copyRow 6 = .ok (.aload_n 1, 1) := by decide +kernel
theorem dX0_copyRow_7 : decode cX0_copyRow 7 = .ok (.arraylength, 1) := by decide +kernel
theorem dX0_copyRow_8 : decode cX0_copyRow 8 = .ok (.invokestatic 52, 3) := by decide +kernel
theorem dX0_copyRow_11 : decode cX0_copyRow 11 = .ok (.invokestatic 58, 3) := by decide +kernel
theorem dX0_copyRow_14 : decode cX0_copyRow 14 = .ok (.return_, 1) := by decide +kernel
theorem dX0_sum_0 : decode cX0_sum 0 = .ok (.iconst 0, 1) := by decide +kernel
theorem dX0_sum_1 : decode cX0_sum 1 = .ok (.istore_n 1, 1) := by decide +kernel
theorem dX0_sum_2 : decode cX0_sum 2 = .ok (.aload_n 0, 1) := by decide +kernel
theorem dX0_sum_3 : decode cX0_sum 3 = .ok (.astore_n 2, 1) := by decide +kernel
theorem dX0_sum_4 : decode cX0_sum 4 = .ok (.aload_n 2, 1) := by decide +kernel
theorem dX0_sum_5 : decode cX0_sum 5 = .ok (.arraylength, 1) := by decide +kernel
theorem dX0_sum_6 : decode cX0_sum 6 = .ok (.istore_n 3, 1) := by decide +kernel
theorem dX0_sum_7 : decode cX0_sum 7 = .ok (.iconst 0, 1) := by decide +kernel
theorem dX0_sum_8 : decode cX0_sum 8 = .ok (.istore 4, 2) := by decide +kernel
theorem dX0_sum_10 : decode cX0_sum 10 = .ok (.iload 4, 2) := by decide +kernel
theorem dX0_sum_12 : decode cX0_sum 12 = .ok (.iload_n 3, 1) := by decide +kernel
theorem dX0_sum_13 : decode cX0_sum 13 = .ok (.if_icmp .ge 20, 3) := by decide +kernel
theorem dX0_sum_16 : decode cX0_sum 16 = .ok (.aload_n 2, 1) := by decide +kernel
theorem dX0_sum_17 : decode cX0_sum 17 = .ok (.iload 4, 2) := by decide +kernel
theorem dX0_sum_19 : decode cX0_sum 19 = .ok (.iaload, 1) := by decide +kernel
theorem dX0_sum_20 : decode cX0_sum 20 = .ok (.istore 5, 2) := by decide +kernel
theorem dX0_sum_22 : decode cX0_sum 22 = .ok (.iload_n 1, 1) := by decide +kernel
theorem dX0_sum_23 : decode cX0_sum 23 = .ok (.iload 5, 2) := by decide +kernel
theorem dX0_sum_25 : decode cX0_sum 25 = .ok (.iadd, 1) := by decide +kernel
theorem dX0_sum_26 : decode cX0_sum 26 = .ok (.istore_n 1, 1) := by decide +kernel
theorem dX0_sum_27 : decode cX0_sum 27 = .ok (.iinc 4 1, 3) := by decide +kernel
theorem dX0_sum_30 : decode cX0_sum 30 = .ok (.goto (-20), 3) := by decide +kernel
theorem dX0_sum_33 : decode cX0_sum 33 = .ok (.iload_n 1, 1) := by decide +kernel
theorem dX0_sum_34 : decode cX0_sum 34 = .ok (.ireturn, 1) := by decide +kernel
theorem dX0_hasSpace_0 : decode cX0_hasSpace 0 = .ok (.iload_n 1, 1) := by decide +kernel
theorem dX0_hasSpace_1 : decode cX0_hasSpace 1 = .ok (.ifCond .lt 15, 3) := by decide +kernel
theorem dX0_hasSpace_4 : decode cX0_hasSpace 4 = .ok (.iload_n 1, 1) := by decide +kernel
theorem dX0_hasSpace_5 : decode cX0_hasSpace 5 = .ok (.aload_n 0, 1) := by decide +kernel
theorem dX0_hasSpace_6 : decode cX0_hasSpace 6 = .ok (.getfield 41, 3) := by decide +kernel
theorem dX0_hasSpace_9 : decode cX0_hasSpace 9 = .ok (.if_icmp .ge 7, 3) := by decide +kernel
theorem dX0_hasSpace_12 : decode cX0_hasSpace 12 = .ok (.iconst 1, 1) := by decide +kernel
theorem dX0_hasSpace_13 : decode cX0_hasSpace 13 = .ok (.goto 4, 3) := by decide +kernel
theorem dX0_hasSpace_16 : decode cX0_hasSpace 16 = .ok (.iconst 0, 1) := by decide +kernel
theorem dX0_hasSpace_17 : decode cX0_hasSpace 17 = .ok (.ireturn, 1) := by decide +kernel
theorem dX0_hasPage_0 : decode cX0_hasPage 0 = .ok (.aload_n 0, 1) := by decide +kernel
theorem dX0_hasPage_1 : decode cX0_hasPage 1 = .ok (.iload_n 1, 1) := by decide +kernel
theorem dX0_hasPage_2 : decode cX0_hasPage 2 = .ok (.invokevirtual 64, 3) := by decide +kernel
theorem dX0_hasPage_5 : decode cX0_hasPage 5 = .ok (.ifCond .eq 17, 3) := by decide +kernel
theorem dX0_hasPage_8 : decode cX0_hasPage 8 = .ok (.iload_n 2, 1) := by decide +kernel
theorem dX0_hasPage_9 : decode cX0_hasPage 9 = .ok (.ifCond .lt 13, 3) := by decide +kernel
theorem dX0_hasPage_12 : decode cX0_hasPage 12 = .ok (.iload_n 2, 1) := by decide +kernel
theorem dX0_hasPage_13 : decode cX0_hasPage 13 = .ok (.bipush 40, 2) := by decide +kernel
theorem dX0_hasPage_15 : decode cX0_hasPage 15 = .ok (.if_icmp .ge 7, 3) := by decide +kernel
theorem dX0_hasPage_18 : decode cX0_hasPage 18 = .ok (.iconst 1, 1) := by decide +kernel
theorem dX0_hasPage_19 : decode cX0_hasPage 19 = .ok (.goto 4, 3) := by decide +kernel
theorem dX0_hasPage_22 : decode cX0_hasPage 22 = .ok (.iconst 0, 1) := by decide +kernel
theorem dX0_hasPage_23 : decode cX0_hasPage 23 = .ok (.ireturn, 1) := by decide +kernel
theorem dX0_isWritten_0 : decode cX0_isWritten 0 = .ok (.aload_n 0, 1) := by decide +kernel
theorem dX0_isWritten_1 : decode cX0_isWritten 1 = .ok (.iload_n 1, 1) := by decide +kernel
theorem dX0_isWritten_2 : decode cX0_isWritten 2 = .ok (.iload_n 2, 1) := by decide +kernel
theorem dX0_isWritten_3 : decode cX0_isWritten 3 = .ok (.invokevirtual 68, 3) := by decide +kernel
theorem dX0_isWritten_6 : decode cX0_isWritten 6 = .ok (.ifCond .eq 18, 3) := by decide +kernel
theorem dX0_isWritten_9 : decode cX0_isWritten 9 = .ok (.aload_n 0, 1) := by decide +kernel
theorem dX0_isWritten_10 : decode cX0_isWritten 10 = .ok (.getfield 29, 3) := by decide +kernel
theorem dX0_isWritten_13 : decode cX0_isWritten 13 = .ok (.iload_n 1, 1) := by decide +kernel
theorem dX0_isWritten_14 : decode cX0_isWritten 14 = .ok (.aaload, 1) := by decide +kernel
theorem dX0_isWritten_15 : decode cX0_isWritten 15 = .ok (.iload_n 2, 1) := by decide +kernel
theorem dX0_isWritten_16 : decode cX0_isWritten 16 = .ok (.iaload, 1) := by decide +kernel
theorem dX0_isWritten_17 : decode cX0_isWritten 17 = .ok (.ifCond .le 7, 3) := by decide +kernel
theorem dX0_isWritten_20 : decode cX0_isWritten 20 = .ok (.iconst 1, 1) := by decide +kernel
theorem dX0_isWritten_21 : decode cX0_isWritten 21 = .ok (.goto 4, 3) := by decide +kernel
theorem dX0_isWritten_24 : decode cX0_isWritten 24 = .ok (.iconst 0, 1) := by decide +kernel
theorem dX0_isWritten_25 : decode cX0_isWritten 25 = .ok (.ireturn, 1) := by decide +kernel
theorem dX0_pagesOf_0 : decode cX0_pagesOf 0 = .ok (.aload_n 0, 1) := by decide +kernel
theorem dX0_pagesOf_1 : decode cX0_pagesOf 1 = .ok (.getfield 18, 3) := by decide +kernel
theorem dX0_pagesOf_4 : decode cX0_pagesOf 4 = .ok (.iload_n 1, 1) := by decide +kernel
theorem dX0_pagesOf_5 : decode cX0_pagesOf 5 = .ok (.iaload, 1) := by decide +kernel
theorem dX0_pagesOf_6 : decode cX0_pagesOf 6 = .ok (.aload_n 0, 1) := by decide +kernel
theorem dX0_pagesOf_7 : decode cX0_pagesOf 7 = .ok (.getfield 21, 3) := by decide +kernel
theorem dX0_pagesOf_10 : decode cX0_pagesOf 10 = .ok (.iload_n 1, 1) := by decide +kernel
theorem dX0_pagesOf_11 : decode cX0_pagesOf 11 = .ok (.iaload, 1) := by decide +kernel
theorem dX0_pagesOf_12 : decode cX0_pagesOf 12 = .ok (.iadd, 1) := by decide +kernel
theorem dX0_pagesOf_13 : decode cX0_pagesOf 13 = .ok (.aload_n 0, 1) := by decide +kernel
theorem dX0_pagesOf_14 : decode cX0_pagesOf 14 = .ok (.getfield 26, 3) := by decide +kernel
theorem dX0_pagesOf_17 : decode cX0_pagesOf 17 = .ok (.iload_n 1, 1) := by decide +kernel
theorem dX0_pagesOf_18 : decode cX0_pagesOf 18 = .ok (.aaload, 1) := by decide +kernel
theorem dX0_pagesOf_19 : decode cX0_pagesOf 19 = .ok (.invokestatic 72, 3) := by decide +kernel
theorem dX0_pagesOf_22 : decode cX0_pagesOf 22 = .ok (.iadd, 1) := by decide +kernel
theorem dX0_pagesOf_23 : decode cX0_pagesOf 23 = .ok (.ireturn, 1) := by decide +kernel
theorem dX0_pagesOfAll_0 : decode cX0_pagesOfAll 0 = .ok (.iconst 0, 1) := by decide +kernel
theorem dX0_pagesOfAll_1 : decode cX0_pagesOfAll 1 = .ok (.istore_n 1, 1) := by decide +kernel
theorem dX0_pagesOfAll_2 : decode cX0_pagesOfAll 2 = .ok (.iconst 0, 1) := by decide +kernel
theorem dX0_pagesOfAll_3 : decode cX0_pagesOfAll 3 = .ok (.istore_n 2, 1) := by decide +kernel
theorem dX0_pagesOfAll_4 : decode cX0_pagesOfAll 4 = .ok (.iload_n 2, 1) := by decide +kernel
theorem dX0_pagesOfAll_5 : decode cX0_pagesOfAll 5 = .ok (.aload_n 0, 1) := by decide +kernel
theorem dX0_pagesOfAll_6 : decode cX0_pagesOfAll 6 = .ok (.getfield 41, 3) := by decide +kernel
theorem dX0_pagesOfAll_9 : decode cX0_pagesOfAll 9 = .ok (.if_icmp .ge 17, 3) := by decide +kernel
theorem dX0_pagesOfAll_12 : decode cX0_pagesOfAll 12 = .ok (.iload_n 1, 1) := by decide +kernel
theorem dX0_pagesOfAll_13 : decode cX0_pagesOfAll 13 = .ok (.aload_n 0, 1) := by decide +kernel
theorem dX0_pagesOfAll_14 : decode cX0_pagesOfAll 14 = .ok (.iload_n 2, 1) := by decide +kernel
theorem dX0_pagesOfAll_15 : decode cX0_pagesOfAll 15 = .ok (.invokevirtual 76, 3) := by decide +kernel
theorem dX0_pagesOfAll_18 : decode cX0_pagesOfAll 18 = .ok (.iadd, 1) := by decide +kernel
theorem dX0_pagesOfAll_19 : decode cX0_pagesOfAll 19 = .ok (.istore_n 1, 1) := by decide +kernel
theorem dX0_pagesOfAll_20 : decode cX0_pagesOfAll 20 = .ok (.iinc 2 1, 3) := by decide +kernel
theorem dX0_pagesOfAll_23 : decode cX0_pagesOfAll 23 = .ok (.goto (-19), 3) := by decide +kernel
theorem dX0_pagesOfAll_26 : decode cX0_pagesOfAll 26 = .ok (.iload_n 1, 1) := by decide +kernel
theorem dX0_pagesOfAll_27 : decode cX0_pagesOfAll 27 = .ok (.ireturn, 1) := by decide +kernel
theorem dX0_idleOf_0 : decode cX0_idleOf 0 = .ok (.aload_n 0, 1) := by decide +kernel
theorem dX0_idleOf_1 : decode cX0_idleOf 1 = .ok (.getfield 9, 3) := by decide +kernel
theorem dX0_idleOf_4 : decode cX0_idleOf 4 = .ok (.iload_n 1, 1) := by decide +kernel
theorem dX0_idleOf_5 : decode cX0_idleOf 5 = .ok (.iaload, 1) := by decide +kernel
theorem dX0_idleOf_6 : decode cX0_idleOf 6 = .ok (.aload_n 0, 1) := by decide +kernel
theorem dX0_idleOf_7 : decode cX0_idleOf 7 = .ok (.getfield 18, 3) := by decide +kernel
theorem dX0_idleOf_10 : decode cX0_idleOf 10 = .ok (.iload_n 1, 1) := by decide +kernel
theorem dX0_idleOf_11 : decode cX0_idleOf 11 = .ok (.iaload, 1) := by decide +kernel
theorem dX0_idleOf_12 : decode cX0_idleOf 12 = .ok (.isub, 1) := by decide +kernel
theorem dX0_idleOf_13 : decode cX0_idleOf 13 = .ok (.istore_n 2, 1) := by decide +kernel
theorem dX0_idleOf_14 : decode cX0_idleOf 14 = .ok (.iconst 0, 1) := by decide +kernel
theorem dX0_idleOf_15 : decode cX0_idleOf 15 = .ok (.istore_n 3, 1) := by decide +kernel
theorem dX0_idleOf_16 : decode cX0_idleOf 16 = .ok (.iload_n 3, 1) := by decide +kernel
theorem dX0_idleOf_17 : decode cX0_idleOf 17 = .ok (.iconst 5, 1) := by decide +kernel
theorem dX0_idleOf_18 : decode cX0_idleOf 18 = .ok (.if_icmp .ge 20, 3) := by decide +kernel
theorem dX0_idleOf_21 : decode cX0_idleOf 21 = .ok (.iload_n 2, 1) := by decide +kernel
theorem dX0_idleOf_22 : decode cX0_idleOf 22 = .ok (.aload_n 0, 1) := by decide +kernel
theorem dX0_idleOf_23 : decode cX0_idleOf 23 = .ok (.getfield 26, 3) := by decide +kernel
theorem dX0_idleOf_26 : decode cX0_idleOf 26 = .ok (.iload_n 3, 1) := by decide +kernel
theorem dX0_idleOf_27 : decode cX0_idleOf 27 = .ok (.aaload, 1) := by decide +kernel
theorem dX0_idleOf_28 : decode cX0_idleOf 28 = .ok (.iload_n 1, 1) := by decide +kernel
theorem dX0_idleOf_29 : decode cX0_idleOf 29 = .ok (.iaload, 1) := by decide +kernel
theorem dX0_idleOf_30 : decode cX0_idleOf 30 = .ok (.isub, 1) := by decide +kernel
theorem dX0_idleOf_31 : decode cX0_idleOf 31 = .ok (.istore_n 2, 1) := by decide +kernel
theorem dX0_idleOf_32 : decode cX0_idleOf 32 = .ok (.iinc 3 1, 3) := by decide +kernel
theorem dX0_idleOf_35 : decode cX0_idleOf 35 = .ok (.goto (-19), 3) := by decide +kernel
theorem dX0_idleOf_38 : decode cX0_idleOf 38 = .ok (.iload_n 2, 1) := by decide +kernel
theorem dX0_idleOf_39 : decode cX0_idleOf 39 = .ok (.ireturn, 1) := by decide +kernel
theorem dX0_lendsOf_0 : decode cX0_lendsOf 0 = .ok (.aload_n 0, 1) := by decide +kernel
theorem dX0_lendsOf_1 : decode cX0_lendsOf 1 = .ok (.getfield 9, 3) := by decide +kernel
theorem dX0_lendsOf_4 : decode cX0_lendsOf 4 = .ok (.iload_n 1, 1) := by decide +kernel
theorem dX0_lendsOf_5 : decode cX0_lendsOf 5 = .ok (.iaload, 1) := by decide +kernel
theorem dX0_lendsOf_6 : decode cX0_lendsOf 6 = .ok (.aload_n 0, 1) := by decide +kernel
theorem dX0_lendsOf_7 : decode cX0_lendsOf 7 = .ok (.getfield 18, 3) := by decide +kernel
theorem dX0_lendsOf_10 : decode cX0_lendsOf 10 = .ok (.iload_n 1, 1) := by decide +kernel
theorem dX0_lendsOf_11 : decode cX0_lendsOf 11 = .ok (.iaload, 1) := by decide +kernel
theorem dX0_lendsOf_12 : decode cX0_lendsOf 12 = .ok (.isub, 1) := by decide +kernel
theorem dX0_lendsOf_13 : decode cX0_lendsOf 13 = .ok (.aload_n 0, 1) := by decide +kernel
theorem dX0_lendsOf_14 : decode cX0_lendsOf 14 = .ok (.iload_n 1, 1) := by decide +kernel
theorem dX0_lendsOf_15 : decode cX0_lendsOf 15 = .ok (.invokevirtual 80, 3) := by decide +kernel
theorem dX0_lendsOf_18 : decode cX0_lendsOf 18 = .ok (.isub, 1) := by decide +kernel
theorem dX0_lendsOf_19 : decode cX0_lendsOf 19 = .ok (.ireturn, 1) := by decide +kernel
theorem dX0_commonRoom_0 : decode cX0_commonRoom 0 = .ok (.bipush 60, 2) := by decide +kernel
theorem dX0_commonRoom_2 : decode cX0_commonRoom 2 = .ok (.aload_n 0, 1) := by decide +kernel
theorem dX0_commonRoom_3 : decode cX0_commonRoom 3 = .ok (.getfield 9, 3) := by decide +kernel
theorem dX0_commonRoom_6 : decode cX0_commonRoom 6 = .ok (.invokestatic 72, 3) := by decide +kernel
theorem dX0_commonRoom_9 : decode cX0_commonRoom 9 = .ok (.isub, 1) := by decide +kernel
theorem dX0_commonRoom_10 : decode cX0_commonRoom 10 = .ok (.ireturn, 1) := by decide +kernel
theorem dX0_freeCommonRoom_0 : decode cX0_freeCommonRoom 0 = .ok (.bipush 60, 2) := by decide +kernel
theorem dX0_freeCommonRoom_2 : decode cX0_freeCommonRoom 2 = .ok (.aload_n 0, 1) := by decide +kernel
theorem dX0_freeCommonRoom_3 : decode cX0_freeCommonRoom 3 = .ok (.getfield 9, 3) := by decide +kernel
theorem dX0_freeCommonRoom_6 : decode cX0_freeCommonRoom 6 = .ok (.invokestatic 72, 3) := by decide +kernel
theorem dX0_freeCommonRoom_9 : decode cX0_freeCommonRoom 9 = .ok (.isub, 1) := by decide +kernel
theorem dX0_freeCommonRoom_10 : decode cX0_freeCommonRoom 10 = .ok (.aload_n 0, 1) := by decide +kernel
theorem dX0_freeCommonRoom_11 : decode cX0_freeCommonRoom 11 = .ok (.getfield 21, 3) := by decide +kernel
theorem dX0_freeCommonRoom_14 : decode cX0_freeCommonRoom 14 = .ok (.invokestatic 72, 3) := by decide +kernel
theorem dX0_freeCommonRoom_17 : decode cX0_freeCommonRoom 17 = .ok (.isub, 1) := by decide +kernel
theorem dX0_freeCommonRoom_18 : decode cX0_freeCommonRoom 18 = .ok (.ireturn, 1) := by decide +kernel
theorem dX0_loansOfAll_0 : decode cX0_loansOfAll 0 = .ok (.iconst 0, 1) := by decide +kernel
theorem dX0_loansOfAll_1 : decode cX0_loansOfAll 1 = .ok (.istore_n 1, 1) := by decide +kernel
theorem dX0_loansOfAll_2 : decode cX0_loansOfAll 2 = .ok (.iconst 0, 1) := by decide +kernel
theorem dX0_loansOfAll_3 : decode cX0_loansOfAll 3 = .ok (.istore_n 2, 1) := by decide +kernel
theorem dX0_loansOfAll_4 : decode cX0_loansOfAll 4 = .ok (.iload_n 2, 1) := by decide +kernel
theorem dX0_loansOfAll_5 : decode cX0_loansOfAll 5 = .ok (.aload_n 0, 1) := by decide +kernel
theorem dX0_loansOfAll_6 : decode cX0_loansOfAll 6 = .ok (.getfield 41, 3) := by decide +kernel
theorem dX0_loansOfAll_9 : decode cX0_loansOfAll 9 = .ok (.if_icmp .ge 21, 3) := by decide +kernel
theorem dX0_loansOfAll_12 : decode cX0_loansOfAll 12 = .ok (.iload_n 1, 1) := by decide +kernel
theorem dX0_loansOfAll_13 : decode cX0_loansOfAll 13 = .ok (.aload_n 0, 1) := by decide +kernel
theorem dX0_loansOfAll_14 : decode cX0_loansOfAll 14 = .ok (.getfield 26, 3) := by decide +kernel
theorem dX0_loansOfAll_17 : decode cX0_loansOfAll 17 = .ok (.iload_n 2, 1) := by decide +kernel
theorem dX0_loansOfAll_18 : decode cX0_loansOfAll 18 = .ok (.aaload, 1) := by decide +kernel
theorem dX0_loansOfAll_19 : decode cX0_loansOfAll 19 = .ok (.invokestatic 72, 3) := by decide +kernel
theorem dX0_loansOfAll_22 : decode cX0_loansOfAll 22 = .ok (.iadd, 1) := by decide +kernel
theorem dX0_loansOfAll_23 : decode cX0_loansOfAll 23 = .ok (.istore_n 1, 1) := by decide +kernel
theorem dX0_loansOfAll_24 : decode cX0_loansOfAll 24 = .ok (.iinc 2 1, 3) := by decide +kernel
theorem dX0_loansOfAll_27 : decode cX0_loansOfAll 27 = .ok (.goto (-23), 3) := by decide +kernel
theorem dX0_loansOfAll_30 : decode cX0_loansOfAll 30 = .ok (.iload_n 1, 1) := by decide +kernel
theorem dX0_loansOfAll_31 : decode cX0_loansOfAll 31 = .ok (.ireturn, 1) := by decide +kernel
theorem dX0_lostByAll_0 : decode cX0_lostByAll 0 = .ok (.aload_n 0, 1) := by decide +kernel
theorem dX0_lostByAll_1 : decode cX0_lostByAll 1 = .ok (.getfield 35, 3) := by decide +kernel
theorem dX0_lostByAll_4 : decode cX0_lostByAll 4 = .ok (.invokestatic 72, 3) := by decide +kernel
theorem dX0_lostByAll_7 : decode cX0_lostByAll 7 = .ok (.ireturn, 1) := by decide +kernel
theorem dX0_noiseOf_0 : decode cX0_noiseOf 0 = .ok (.aload_n 0, 1) := by decide +kernel
theorem dX0_noiseOf_1 : decode cX0_noiseOf 1 = .ok (.getfield 32, 3) := by decide +kernel
theorem dX0_noiseOf_4 : decode cX0_noiseOf 4 = .ok (.iload_n 1, 1) := by decide +kernel
theorem dX0_noiseOf_5 : decode cX0_noiseOf 5 = .ok (.iaload, 1) := by decide +kernel
theorem dX0_noiseOf_6 : decode cX0_noiseOf 6 = .ok (.iconst 2, 1) := by decide +kernel
theorem dX0_noiseOf_7 : decode cX0_noiseOf 7 = .ok (.aload_n 0, 1) := by decide +kernel
theorem dX0_noiseOf_8 : decode cX0_noiseOf 8 = .ok (.getfield 35, 3) := by decide +kernel
theorem dX0_noiseOf_11 : decode cX0_noiseOf 11 = .ok (.iload_n 1, 1) := by decide +kernel
theorem dX0_noiseOf_12 : decode cX0_noiseOf 12 = .ok (.iaload, 1) := by decide +kernel
theorem dX0_noiseOf_13 : decode cX0_noiseOf 13 = .ok (.imul, 1) := by decide +kernel
theorem dX0_noiseOf_14 : decode cX0_noiseOf 14 = .ok (.isub, 1) := by decide +kernel
theorem dX0_noiseOf_15 : decode cX0_noiseOf 15 = .ok (.ireturn, 1) := by decide +kernel
theorem dX0_firstLoserSince_0 : decode cX0_firstLoserSince 0 = .ok (.iconst 0, 1) := by decide +kernel
theorem dX0_firstLoserSince_1 : decode cX0_firstLoserSince 1 = .ok (.istore_n 2, 1) := by decide +kernel
theorem dX0_firstLoserSince_2 : decode cX0_firstLoserSince 2 = .ok (.iload_n 2, 1) := by decide +kernel
theorem dX0_firstLoserSince_3 : decode cX0_firstLoserSince 3 = .ok (.aload_n 0, 1) := by decide +kernel
theorem dX0_firstLoserSince_4 : decode cX0_firstLoserSince 4 = .ok (.getfield 41, 3) := by decide +kernel
theorem dX0_firstLoserSince_7 : decode cX0_firstLoserSince 7 = .ok (.if_icmp .ge 26, 3) := by decide +kernel
theorem dX0_firstLoserSince_10 : decode cX0_firstLoserSince 10 = .ok (.aload_n 0, 1) := by decide +kernel
theorem dX0_firstLoserSince_11 : decode cX0_firstLoserSince 11 = .ok (.getfield 35, 3) := by decide +kernel
theorem dX0_firstLoserSince_14 : decode cX0_firstLoserSince 14 = .ok (.iload_n 2, 1) := by decide +kernel
theorem dX0_firstLoserSince_15 : decode cX0_firstLoserSince 15 = .ok (.iaload, 1) := by decide +kernel
theorem dX0_firstLoserSince_16 : decode cX0_firstLoserSince 16 = .ok (.aload_n 1, 1) := by decide +kernel
theorem dX0_firstLoserSince_17 : decode cX0_firstLoserSince 17 = .ok (.getfield 35, 3) := by decide +kernel
theorem dX0_firstLoserSince_20 : decode cX0_firstLoserSince 20 = .ok (.iload_n 2, 1) := by decide +kernel
theorem dX0_firstLoserSince_21 : decode cX0_firstLoserSince 21 = .ok (.iaload, 1) := by decide +kernel
theorem dX0_firstLoserSince_22 : decode cX0_firstLoserSince 22 = .ok (.if_icmp .le 5, 3) := by decide +kernel
theorem dX0_firstLoserSince_25 : decode cX0_firstLoserSince 25 = .ok (.iload_n 2, 1) := by decide +kernel
theorem dX0_firstLoserSince_26 : decode cX0_firstLoserSince 26 = .ok (.ireturn, 1) := by decide +kernel
theorem dX0_firstLoserSince_27 : decode cX0_firstLoserSince 27 = .ok (.iinc 2 1, 3) := by decide +kernel
theorem dX0_firstLoserSince_30 : decode cX0_firstLoserSince 30 = .ok (.goto (-28), 3) := by decide +kernel
theorem dX0_firstLoserSince_33 : decode cX0_firstLoserSince 33 = .ok (.iconst (-1), 1) := by decide +kernel
theorem dX0_firstLoserSince_34 : decode cX0_firstLoserSince 34 = .ok (.ireturn, 1) := by decide +kernel
theorem dX0_numberOfAll_0 : decode cX0_numberOfAll 0 = .ok (.iload_n 1, 1) := by decide +kernel
theorem dX0_numberOfAll_1 : decode cX0_numberOfAll 1 = .ok (.tableswitch 90 0 7 #[47, 52, 57, 62, 67, 72, 77, 85], 47) := by decide +kernel
theorem dX0_numberOfAll_48 : decode cX0_numberOfAll 48 = .ok (.aload_n 0, 1) := by decide +kernel
theorem dX0_numberOfAll_49 : decode cX0_numberOfAll 49 = .ok (.getfield 41, 3) := by decide +kernel
theorem dX0_numberOfAll_52 : decode cX0_numberOfAll 52 = .ok (.ireturn, 1) := by decide +kernel
theorem dX0_numberOfAll_53 : decode cX0_numberOfAll 53 = .ok (.aload_n 0, 1) := by decide +kernel
theorem dX0_numberOfAll_54 : decode cX0_numberOfAll 54 = .ok (.invokevirtual 83, 3) := by decide +kernel
theorem dX0_numberOfAll_57 : decode cX0_numberOfAll 57 = .ok (.ireturn, 1) := by decide +kernel
theorem dX0_numberOfAll_58 : decode cX0_numberOfAll 58 = .ok (.aload_n 0, 1) := by decide +kernel
theorem dX0_numberOfAll_59 : decode cX0_numberOfAll 59 = .ok (.invokevirtual 87, 3) := by decide +kernel
theorem dX0_numberOfAll_62 : decode cX0_numberOfAll 62 = .ok (.ireturn, 1) := by decide +kernel
theorem dX0_numberOfAll_63 : decode cX0_numberOfAll 63 = .ok (.aload_n 0, 1) := by decide +kernel
theorem dX0_numberOfAll_64 : decode cX0_numberOfAll 64 = .ok (.invokevirtual 90, 3) := by decide +kernel
theorem dX0_numberOfAll_67 : decode cX0_numberOfAll 67 = .ok (.ireturn, 1) := by decide +kernel
theorem dX0_numberOfAll_68 : decode cX0_numberOfAll 68 = .ok (.aload_n 0, 1) := by decide +kernel
theorem dX0_numberOfAll_69 : decode cX0_numberOfAll 69 = .ok (.invokevirtual 93, 3) := by decide +kernel
theorem dX0_numberOfAll_72 : decode cX0_numberOfAll 72 = .ok (.ireturn, 1) := by decide +kernel
theorem dX0_numberOfAll_73 : decode cX0_numberOfAll 73 = .ok (.aload_n 0, 1) := by decide +kernel
theorem dX0_numberOfAll_74 : decode cX0_numberOfAll 74 = .ok (.getfield 45, 3) := by decide +kernel
theorem dX0_numberOfAll_77 : decode cX0_numberOfAll 77 = .ok (.ireturn, 1) := by decide +kernel
theorem dX0_numberOfAll_78 : decode cX0_numberOfAll 78 = .ok (.aload_n 0, 1) := by decide +kernel
theorem dX0_numberOfAll_79 : decode cX0_numberOfAll 79 = .ok (.getfield 32, 3) := by decide +kernel
theorem dX0_numberOfAll_82 : decode cX0_numberOfAll 82 = .ok (.invokestatic 72, 3) := by decide +kernel
theorem dX0_numberOfAll_85 : decode cX0_numberOfAll 85 = .ok (.ireturn, 1) := by decide +kernel
theorem dX0_numberOfAll_86 : decode cX0_numberOfAll 86 = .ok (.aload_n 0, 1) := by decide +kernel
theorem dX0_numberOfAll_87 : decode cX0_numberOfAll 87 = .ok (.invokevirtual 96, 3) := by decide +kernel
theorem dX0_numberOfAll_90 : decode cX0_numberOfAll 90 = .ok (.ireturn, 1) := by decide +kernel
theorem dX0_numberOfAll_91 : decode cX0_numberOfAll 91 = .ok (.aload_n 0, 1) := by decide +kernel
theorem dX0_numberOfAll_92 : decode cX0_numberOfAll 92 = .ok (.getfield 38, 3) := by decide +kernel
theorem dX0_numberOfAll_95 : decode cX0_numberOfAll 95 = .ok (.invokestatic 72, 3) := by decide +kernel
theorem dX0_numberOfAll_98 : decode cX0_numberOfAll 98 = .ok (.ireturn, 1) := by decide +kernel
theorem dX0_sizeOf_0 : decode cX0_sizeOf 0 = .ok (.iload_n 2, 1) := by decide +kernel
theorem dX0_sizeOf_1 : decode cX0_sizeOf 1 = .ok (.tableswitch 93 0 6 #[43, 50, 57, 63, 70, 77, 87], 43) := by decide +kernel
theorem dX0_sizeOf_44 : decode cX0_sizeOf 44 = .ok (.aload_n 0, 1) := by decide +kernel
theorem dX0_sizeOf_45 : decode cX0_sizeOf 45 = .ok (.getfield 9, 3) := by decide +kernel
theorem dX0_sizeOf_48 : decode cX0_sizeOf 48 = .ok (.iload_n 1, 1) := by decide +kernel
theorem dX0_sizeOf_49 : decode cX0_sizeOf 49 = .ok (.iaload, 1) := by decide +kernel
theorem dX0_sizeOf_50 : decode cX0_sizeOf 50 = .ok (.ireturn, 1) := by decide +kernel
theorem dX0_sizeOf_51 : decode cX0_sizeOf 51 = .ok (.aload_n 0, 1) := by decide +kernel
theorem dX0_sizeOf_52 : decode cX0_sizeOf 52 = .ok (.getfield 15, 3) := by decide +kernel
theorem dX0_sizeOf_55 : decode cX0_sizeOf 55 = .ok (.iload_n 1, 1) := by decide +kernel
theorem dX0_sizeOf_56 : decode cX0_sizeOf 56 = .ok (.iaload, 1) := by decide +kernel
theorem dX0_sizeOf_57 : decode cX0_sizeOf 57 = .ok (.ireturn, 1) := by decide +kernel
theorem dX0_sizeOf_58 : decode cX0_sizeOf 58 = .ok (.aload_n 0, 1) := by decide +kernel
theorem dX0_sizeOf_59 : decode cX0_sizeOf 59 = .ok (.iload_n 1, 1) := by decide +kernel
theorem dX0_sizeOf_60 : decode cX0_sizeOf 60 = .ok (.invokevirtual 76, 3) := by decide +kernel
theorem dX0_sizeOf_63 : decode cX0_sizeOf 63 = .ok (.ireturn, 1) := by decide +kernel
theorem dX0_sizeOf_64 : decode cX0_sizeOf 64 = .ok (.aload_n 0, 1) := by decide +kernel
theorem dX0_sizeOf_65 : decode cX0_sizeOf 65 = .ok (.getfield 18, 3) := by decide +kernel
theorem dX0_sizeOf_68 : decode cX0_sizeOf 68 = .ok (.iload_n 1, 1) := by decide +kernel
theorem dX0_sizeOf_69 : decode cX0_sizeOf 69 = .ok (.iaload, 1) := by decide +kernel
theorem dX0_sizeOf_70 : decode cX0_sizeOf 70 = .ok (.ireturn, 1) := by decide +kernel
theorem dX0_sizeOf_71 : decode cX0_sizeOf 71 = .ok (.aload_n 0, 1) := by decide +kernel
theorem dX0_sizeOf_72 : decode cX0_sizeOf 72 = .ok (.getfield 21, 3) := by decide +kernel
theorem dX0_sizeOf_75 : decode cX0_sizeOf 75 = .ok (.iload_n 1, 1) := by decide +kernel
theorem dX0_sizeOf_76 : decode cX0_sizeOf 76 = .ok (.iaload, 1) := by decide +kernel
theorem dX0_sizeOf_77 : decode cX0_sizeOf 77 = .ok (.ireturn, 1) := by decide +kernel
theorem dX0_sizeOf_78 : decode cX0_sizeOf 78 = .ok (.aload_n 0, 1) := by decide +kernel
theorem dX0_sizeOf_79 : decode cX0_sizeOf 79 = .ok (.getfield 26, 3) := by decide +kernel
theorem dX0_sizeOf_82 : decode cX0_sizeOf 82 = .ok (.iload_n 1, 1) := by decide +kernel
theorem dX0_sizeOf_83 : decode cX0_sizeOf 83 = .ok (.aaload, 1) := by decide +kernel
theorem dX0_sizeOf_84 : decode cX0_sizeOf 84 = .ok (.invokestatic 72, 3) := by decide +kernel
theorem dX0_sizeOf_87 : decode cX0_sizeOf 87 = .ok (.ireturn, 1) := by decide +kernel
theorem dX0_sizeOf_88 : decode cX0_sizeOf 88 = .ok (.aload_n 0, 1) := by decide +kernel
theorem dX0_sizeOf_89 : decode cX0_sizeOf 89 = .ok (.iload_n 1, 1) := by decide +kernel
theorem dX0_sizeOf_90 : decode cX0_sizeOf 90 = .ok (.invokevirtual 99, 3) := by decide +kernel
theorem dX0_sizeOf_93 : decode cX0_sizeOf 93 = .ok (.ireturn, 1) := by decide +kernel
theorem dX0_sizeOf_94 : decode cX0_sizeOf 94 = .ok (.aload_n 0, 1) := by decide +kernel
theorem dX0_sizeOf_95 : decode cX0_sizeOf 95 = .ok (.iload_n 1, 1) := by decide +kernel
theorem dX0_sizeOf_96 : decode cX0_sizeOf 96 = .ok (.invokevirtual 80, 3) := by decide +kernel
theorem dX0_sizeOf_99 : decode cX0_sizeOf 99 = .ok (.ireturn, 1) := by decide +kernel
theorem dX0_countOf_0 : decode cX0_countOf 0 = .ok (.iload_n 2, 1) := by decide +kernel
theorem dX0_countOf_1 : decode cX0_countOf 1 = .ok (.lookupswitch 41 #[(8, 27), (9, 34)], 27) := by decide +kernel
theorem dX0_countOf_28 : decode cX0_countOf 28 = .ok (.aload_n 0, 1) := by decide +kernel
theorem dX0_countOf_29 : decode cX0_countOf 29 = .ok (.getfield 32, 3) := by decide +kernel
theorem dX0_countOf_32 : decode cX0_countOf 32 = .ok (.iload_n 1, 1) := by decide +kernel
theorem dX0_countOf_33 : decode cX0_countOf 33 = .ok (.iaload, 1) := by decide +kernel
theorem dX0_countOf_34 : decode cX0_countOf 34 = .ok (.ireturn, 1) := by decide +kernel
theorem dX0_countOf_35 : decode cX0_countOf 35 = .ok (.aload_n 0, 1) := by decide +kernel
theorem dX0_countOf_36 : decode cX0_countOf 36 = .ok (.getfield 35, 3) := by decide +kernel
theorem dX0_countOf_39 : decode cX0_countOf 39 = .ok (.iload_n 1, 1) := by decide +kernel
theorem dX0_countOf_40 : decode cX0_countOf 40 = .ok (.iaload, 1) := by decide +kernel
theorem dX0_countOf_41 : decode cX0_countOf 41 = .ok (.ireturn, 1) := by decide +kernel
theorem dX0_countOf_42 : decode cX0_countOf 42 = .ok (.aload_n 0, 1) := by decide +kernel
theorem dX0_countOf_43 : decode cX0_countOf 43 = .ok (.getfield 38, 3) := by decide +kernel
theorem dX0_countOf_46 : decode cX0_countOf 46 = .ok (.iload_n 1, 1) := by decide +kernel
theorem dX0_countOf_47 : decode cX0_countOf 47 = .ok (.iaload, 1) := by decide +kernel
theorem dX0_countOf_48 : decode cX0_countOf 48 = .ok (.ireturn, 1) := by decide +kernel
theorem dX0_pageByAge_0 : decode cX0_pageByAge 0 = .ok (.iload_n 2, 1) := by decide +kernel
theorem dX0_pageByAge_1 : decode cX0_pageByAge 1 = .ok (.bipush 40, 2) := by decide +kernel
theorem dX0_pageByAge_3 : decode cX0_pageByAge 3 = .ok (.if_icmp .lt 5, 3) := by decide +kernel
theorem dX0_pageByAge_6 : decode cX0_pageByAge 6 = .ok (.iconst (-1), 1) := by decide +kernel
theorem dX0_pageByAge_7 : decode cX0_pageByAge 7 = .ok (.ireturn, 1) := by decide +kernel
theorem dX0_pageByAge_8 : decode cX0_pageByAge 8 = .ok (.aload_n 0, 1) := by decide +kernel
theorem dX0_pageByAge_9 : decode cX0_pageByAge 9 = .ok (.iload_n 1, 1) := by decide +kernel
theorem dX0_pageByAge_10 : decode cX0_pageByAge 10 = .ok (.iconst 0, 1) := by decide +kernel
theorem dX0_pageByAge_11 : decode cX0_pageByAge 11 = .ok (.invokevirtual 102, 3) := by decide +kernel
theorem dX0_pageByAge_14 : decode cX0_pageByAge 14 = .ok (.istore_n 3, 1) := by decide +kernel
theorem dX0_pageByAge_15 : decode cX0_pageByAge 15 = .ok (.iconst 0, 1) := by decide +kernel
theorem dX0_pageByAge_16 : decode cX0_pageByAge 16 = .ok (.istore 4, 2) := by decide +kernel
theorem dX0_pageByAge_18 : decode cX0_pageByAge 18 = .ok (.iload 4, 2) := by decide +kernel
theorem dX0_pageByAge_20 : decode cX0_pageByAge 20 = .ok (.iload_n 2, 1) := by decide +kernel
theorem dX0_pageByAge_21 : decode cX0_pageByAge 21 = .ok (.if_icmp .ge 28, 3) := by decide +kernel
theorem dX0_pageByAge_24 : decode cX0_pageByAge 24 = .ok (.iload_n 3, 1) := by decide +kernel
theorem dX0_pageByAge_25 : decode cX0_pageByAge 25 = .ok (.iconst (-1), 1) := by decide +kernel
theorem dX0_pageByAge_26 : decode cX0_pageByAge 26 = .ok (.if_icmp .eq 23, 3) := by decide +kernel
theorem dX0_pageByAge_29 : decode cX0_pageByAge 29 = .ok (.aload_n 0, 1) := by decide +kernel
theorem dX0_pageByAge_30 : decode cX0_pageByAge 30 = .ok (.iload_n 1, 1) := by decide +kernel
theorem dX0_pageByAge_31 : decode cX0_pageByAge 31 = .ok (.aload_n 0, 1) := by decide +kernel
theorem dX0_pageByAge_32 : decode cX0_pageByAge 32 = .ok (.getfield 29, 3) := by decide +kernel
theorem dX0_pageByAge_35 : decode cX0_pageByAge 35 = .ok (.iload_n 1, 1) := by decide +kernel
theorem dX0_pageByAge_36 : decode cX0_pageByAge 36 = .ok (.aaload, 1) := by decide +kernel
theorem dX0_pageByAge_37 : decode cX0_pageByAge 37 = .ok (.iload_n 3, 1) := by decide +kernel
theorem dX0_pageByAge_38 : decode cX0_pageByAge 38 = .ok (.iaload, 1) := by decide +kernel
theorem dX0_pageByAge_39 : decode cX0_pageByAge 39 = .ok (.invokevirtual 102, 3) := by decide +kernel
theorem dX0_pageByAge_42 : decode cX0_pageByAge 42 = .ok (.istore_n 3, 1) := by decide +kernel
theorem dX0_pageByAge_43 : decode cX0_pageByAge 43 = .ok (.iinc 4 1, 3) := by decide +kernel
theorem dX0_pageByAge_46 : decode cX0_pageByAge 46 = .ok (.goto (-28), 3) := by decide +kernel
theorem dX0_pageByAge_49 : decode cX0_pageByAge 49 = .ok (.iload_n 3, 1) := by decide +kernel
theorem dX0_pageByAge_50 : decode cX0_pageByAge 50 = .ok (.ireturn, 1) := by decide +kernel
theorem dX0_oldestAfter_0 : decode cX0_oldestAfter 0 = .ok (.iconst (-1), 1) := by decide +kernel
theorem dX0_oldestAfter_1 : decode cX0_oldestAfter 1 = .ok (.istore_n 3, 1) := by decide +kernel
theorem dX0_oldestAfter_2 : decode cX0_oldestAfter 2 = .ok (.iconst 0, 1) := by decide +kernel
theorem dX0_oldestAfter_3 : decode cX0_oldestAfter 3 = .ok (.istore 4, 2) := by decide +kernel
theorem dX0_oldestAfter_5 : decode cX0_oldestAfter 5 = .ok (.iload 4, 2) := by decide +kernel
theorem dX0_oldestAfter_7 : decode cX0_oldestAfter 7 = .ok (.bipush 40, 2) := by decide +kernel
theorem dX0_oldestAfter_9 : decode cX0_oldestAfter 9 = .ok (.if_icmp .ge 50, 3) := by decide +kernel
theorem dX0_oldestAfter_12 : decode cX0_oldestAfter 12 = .ok (.aload_n 0, 1) := by decide +kernel
theorem dX0_oldestAfter_13 : decode cX0_oldestAfter 13 = .ok (.getfield 29, 3) := by decide +kernel
theorem dX0_oldestAfter_16 : decode cX0_oldestAfter 16 = .ok (.iload_n 1, 1) := by decide +kernel
theorem dX0_oldestAfter_17 : decode cX0_oldestAfter 17 = .ok (.aaload, 1) := by decide +kernel
theorem dX0_oldestAfter_18 : decode cX0_oldestAfter 18 = .ok (.iload 4, 2) := by decide +kernel
theorem dX0_oldestAfter_20 : decode cX0_oldestAfter 20 = .ok (.iaload, 1) := by decide +kernel
theorem dX0_oldestAfter_21 : decode cX0_oldestAfter 21 = .ok (.iload_n 2, 1) := by decide +kernel
theorem dX0_oldestAfter_22 : decode cX0_oldestAfter 22 = .ok (.if_icmp .le 31, 3) := by decide +kernel
theorem dX0_oldestAfter_25 : decode cX0_oldestAfter 25 = .ok (.iload_n 3, 1) := by decide +kernel
theorem dX0_oldestAfter_26 : decode cX0_oldestAfter 26 = .ok (.iconst (-1), 1) := by decide +kernel
theorem dX0_oldestAfter_27 : decode cX0_oldestAfter 27 = .ok (.if_icmp .eq 23, 3) := by decide +kernel
theorem dX0_oldestAfter_30 : decode cX0_oldestAfter 30 = .ok (.aload_n 0, 1) := by decide +kernel
theorem dX0_oldestAfter_31 : decode cX0_oldestAfter 31 = .ok (.getfield 29, 3) := by decide +kernel
theorem dX0_oldestAfter_34 : decode cX0_oldestAfter 34 = .ok (.iload_n 1, 1) := by decide +kernel
theorem dX0_oldestAfter_35 : decode cX0_oldestAfter 35 = .ok (.aaload, 1) := by decide +kernel
theorem dX0_oldestAfter_36 : decode cX0_oldestAfter 36 = .ok (.iload 4, 2) := by decide +kernel
theorem dX0_oldestAfter_38 : decode cX0_oldestAfter 38 = .ok (.iaload, 1) := by decide +kernel
theorem dX0_oldestAfter_39 : decode cX0_oldestAfter 39 = .ok (.aload_n 0, 1) := by decide +kernel
theorem dX0_oldestAfter_40 : decode cX0_oldestAfter 40 = .ok (.getfield 29, 3) := by decide +kernel
theorem dX0_oldestAfter_43 : decode cX0_oldestAfter 43 = .ok (.iload_n 1, 1) := by decide +kernel
theorem dX0_oldestAfter_44 : decode cX0_oldestAfter 44 = .ok (.aaload, 1) := by decide +kernel
theorem dX0_oldestAfter_45 : decode cX0_oldestAfter 45 = .ok (.iload_n 3, 1) := by decide +kernel
theorem dX0_oldestAfter_46 : decode cX0_oldestAfter 46 = .ok (.iaload, 1) := by decide +kernel
theorem dX0_oldestAfter_47 : decode cX0_oldestAfter 47 = .ok (.if_icmp .ge 6, 3) := by decide +kernel
theorem dX0_oldestAfter_50 : decode cX0_oldestAfter 50 = .ok (.iload 4, 2) := by decide +kernel
theorem dX0_oldestAfter_52 : decode cX0_oldestAfter 52 = .ok (.istore_n 3, 1) := by decide +kernel
theorem dX0_oldestAfter_53 : decode cX0_oldestAfter 53 = .ok (.iinc 4 1, 3) := by decide +kernel
theorem dX0_oldestAfter_56 : decode cX0_oldestAfter 56 = .ok (.goto (-51), 3) := by decide +kernel
theorem dX0_oldestAfter_59 : decode cX0_oldestAfter 59 = .ok (.iload_n 3, 1) := by decide +kernel
theorem dX0_oldestAfter_60 : decode cX0_oldestAfter 60 = .ok (.ireturn, 1) := by decide +kernel
theorem dX0_areBounds_0 : decode cX0_areBounds 0 = .ok (.iload_n 1, 1) := by decide +kernel
theorem dX0_areBounds_1 : decode cX0_areBounds 1 = .ok (.ifCond .lt 23, 3) := by decide +kernel
theorem dX0_areBounds_4 : decode cX0_areBounds 4 = .ok (.iload_n 1, 1) := by decide +kernel
theorem dX0_areBounds_5 : decode cX0_areBounds 5 = .ok (.iload_n 2, 1) := by decide +kernel
theorem dX0_areBounds_6 : decode cX0_areBounds 6 = .ok (.if_icmp .gt 18, 3) := by decide +kernel
theorem dX0_areBounds_9 : decode cX0_areBounds 9 = .ok (.iload_n 2, 1) := by decide +kernel
theorem dX0_areBounds_10 : decode cX0_areBounds 10 = .ok (.iconst 1, 1) := by decide +kernel
theorem dX0_areBounds_11 : decode cX0_areBounds 11 = .ok (.if_icmp .lt 13, 3) := by decide +kernel
theorem dX0_areBounds_14 : decode cX0_areBounds 14 = .ok (.iload_n 2, 1) := by decide +kernel
theorem dX0_areBounds_15 : decode cX0_areBounds 15 = .ok (.bipush 60, 2) := by decide +kernel
theorem dX0_areBounds_17 : decode cX0_areBounds 17 = .ok (.if_icmp .gt 7, 3) := by decide +kernel
theorem dX0_areBounds_20 : decode cX0_areBounds 20 = .ok (.iconst 1, 1) := by decide +kernel
theorem dX0_areBounds_21 : decode cX0_areBounds 21 = .ok (.goto 4, 3) := by decide +kernel
theorem dX0_areBounds_24 : decode cX0_areBounds 24 = .ok (.iconst 0, 1) := by decide +kernel
theorem dX0_areBounds_25 : decode cX0_areBounds 25 = .ok (.ireturn, 1) := by decide +kernel
theorem dX0_hasRoomForSpace_0 : decode cX0_hasRoomForSpace 0 = .ok (.aload_n 0, 1) := by decide +kernel
theorem dX0_hasRoomForSpace_1 : decode cX0_hasRoomForSpace 1 = .ok (.getfield 41, 3) := by decide +kernel
theorem dX0_hasRoomForSpace_4 : decode cX0_hasRoomForSpace 4 = .ok (.iconst 5, 1) := by decide +kernel
theorem dX0_hasRoomForSpace_5 : decode cX0_hasRoomForSpace 5 = .ok (.if_icmp .ge 15, 3) := by decide +kernel
theorem dX0_hasRoomForSpace_8 : decode cX0_hasRoomForSpace 8 = .ok (.iload_n 1, 1) := by decide +kernel
theorem dX0_hasRoomForSpace_9 : decode cX0_hasRoomForSpace 9 = .ok (.aload_n 0, 1) := by decide +kernel
theorem dX0_hasRoomForSpace_10 : decode cX0_hasRoomForSpace 10 = .ok (.invokevirtual 90, 3) := by decide +kernel
theorem dX0_hasRoomForSpace_13 : decode cX0_hasRoomForSpace 13 = .ok (.if_icmp .gt 7, 3) := by decide +kernel
theorem dX0_hasRoomForSpace_16 : decode cX0_hasRoomForSpace 16 = .ok (.iconst 1, 1) := by decide +kernel
theorem dX0_hasRoomForSpace_17 : decode cX0_hasRoomForSpace 17 = .ok (.goto 4, 3) := by decide +kernel
theorem dX0_hasRoomForSpace_20 : decode cX0_hasRoomForSpace 20 = .ok (.iconst 0, 1) := by decide +kernel
theorem dX0_hasRoomForSpace_21 : decode cX0_hasRoomForSpace 21 = .ok (.ireturn, 1) := by decide +kernel
theorem dX0_addSpace_0 : decode cX0_addSpace 0 = .ok (.aload_n 0, 1) := by decide +kernel
theorem dX0_addSpace_1 : decode cX0_addSpace 1 = .ok (.iload_n 1, 1) := by decide +kernel
theorem dX0_addSpace_2 : decode cX0_addSpace 2 = .ok (.iload_n 2, 1) := by decide +kernel
theorem dX0_addSpace_3 : decode cX0_addSpace 3 = .ok (.invokevirtual 105, 3) := by decide +kernel
theorem dX0_addSpace_6 : decode cX0_addSpace 6 = .ok (.ifCond .eq 11, 3) := by decide +kernel
theorem dX0_addSpace_9 : decode cX0_addSpace 9 = .ok (.aload_n 0, 1) := by decide +kernel
theorem dX0_addSpace_10 : decode cX0_addSpace 10 = .ok (.iload_n 1, 1) := by decide +kernel
theorem dX0_addSpace_11 : decode cX0_addSpace 11 = .ok (.invokevirtual 108, 3) := by decide +kernel
theorem dX0_addSpace_14 : decode cX0_addSpace 14 = .ok (.ifCond .ne 5, 3) := by decide +kernel
theorem dX0_addSpace_17 : decode cX0_addSpace 17 = .ok (.iconst (-1), 1) := by decide +kernel
theorem dX0_addSpace_18 : decode cX0_addSpace 18 = .ok (.ireturn, 1) := by decide +kernel
theorem dX0_addSpace_19 : decode cX0_addSpace 19 = .ok (.aload_n 0, 1) := by decide +kernel
theorem dX0_addSpace_20 : decode cX0_addSpace 20 = .ok (.getfield 9, 3) := by decide +kernel
theorem dX0_addSpace_23 : decode cX0_addSpace 23 = .ok (.aload_n 0, 1) := by decide +kernel
theorem dX0_addSpace_24 : decode cX0_addSpace 24 = .ok (.getfield 41, 3) := by decide +kernel
theorem dX0_addSpace_27 : decode cX0_addSpace 27 = .ok (.iload_n 1, 1) := by decide +kernel
theorem dX0_addSpace_28 : decode cX0_addSpace 28 = .ok (.iastore, 1) := by decide +kernel
theorem dX0_addSpace_29 : decode cX0_addSpace 29 = .ok (.aload_n 0, 1) := by decide +kernel
theorem dX0_addSpace_30 : decode cX0_addSpace 30 = .ok (.getfield 15, 3) := by decide +kernel
theorem dX0_addSpace_33 : decode cX0_addSpace 33 = .ok (.aload_n 0, 1) := by decide +kernel
theorem dX0_addSpace_34 : decode cX0_addSpace 34 = .ok (.getfield 41, 3) := by decide +kernel
theorem dX0_addSpace_37 : decode cX0_addSpace 37 = .ok (.iload_n 2, 1) := by decide +kernel
theorem dX0_addSpace_38 : decode cX0_addSpace 38 = .ok (.iastore, 1) := by decide +kernel
theorem dX0_addSpace_39 : decode cX0_addSpace 39 = .ok (.aload_n 0, 1) := by decide +kernel
theorem dX0_addSpace_40 : decode cX0_addSpace 40 = .ok (.dup, 1) := by decide +kernel
theorem dX0_addSpace_41 : decode cX0_addSpace 41 = .ok (.getfield 41, 3) := by decide +kernel
theorem dX0_addSpace_44 : decode cX0_addSpace 44 = .ok (.iconst 1, 1) := by decide +kernel
theorem dX0_addSpace_45 : decode cX0_addSpace 45 = .ok (.iadd, 1) := by decide +kernel
theorem dX0_addSpace_46 : decode cX0_addSpace 46 = .ok (.putfield 41, 3) := by decide +kernel
theorem dX0_addSpace_49 : decode cX0_addSpace 49 = .ok (.aload_n 0, 1) := by decide +kernel
theorem dX0_addSpace_50 : decode cX0_addSpace 50 = .ok (.getfield 41, 3) := by decide +kernel
theorem dX0_addSpace_53 : decode cX0_addSpace 53 = .ok (.iconst 1, 1) := by decide +kernel
theorem dX0_addSpace_54 : decode cX0_addSpace 54 = .ok (.isub, 1) := by decide +kernel
theorem dX0_addSpace_55 : decode cX0_addSpace 55 = .ok (.ireturn, 1) := by decide +kernel
theorem dX0_smallestFloor_0 : decode cX0_smallestFloor 0 = .ok (.aload_n 0, 1) := by decide +kernel
theorem dX0_smallestFloor_1 : decode cX0_smallestFloor 1 = .ok (.getfield 9, 3) := by decide +kernel
theorem dX0_smallestFloor_4 : decode cX0_smallestFloor 4 = .ok (.iload_n 1, 1) := by decide +kernel
theorem dX0_smallestFloor_5 : decode cX0_smallestFloor 5 = .ok (.iaload, 1) := by decide +kernel
theorem dX0_smallestFloor_6 : decode cX0_smallestFloor 6 = .ok (.aload_n 0, 1) := by decide +kernel
theorem dX0_smallestFloor_7 : decode cX0_smallestFloor 7 = .ok (.iload_n 1, 1) := by decide +kernel
theorem dX0_smallestFloor_8 : decode cX0_smallestFloor 8 = .ok (.invokevirtual 80, 3) := by decide +kernel
theorem dX0_smallestFloor_11 : decode cX0_smallestFloor 11 = .ok (.isub, 1) := by decide +kernel
theorem dX0_smallestFloor_12 : decode cX0_smallestFloor 12 = .ok (.ireturn, 1) := by decide +kernel
theorem dX0_greatestFloor_0 : decode cX0_greatestFloor 0 = .ok (.aload_n 0, 1) := by decide +kernel
theorem dX0_greatestFloor_1 : decode cX0_greatestFloor 1 = .ok (.getfield 15, 3) := by decide +kernel
theorem dX0_greatestFloor_4 : decode cX0_greatestFloor 4 = .ok (.iload_n 1, 1) := by decide +kernel
theorem dX0_greatestFloor_5 : decode cX0_greatestFloor 5 = .ok (.iaload, 1) := by decide +kernel
theorem dX0_greatestFloor_6 : decode cX0_greatestFloor 6 = .ok (.aload_n 0, 1) := by decide +kernel
theorem dX0_greatestFloor_7 : decode cX0_greatestFloor 7 = .ok (.getfield 9, 3) := by decide +kernel
theorem dX0_greatestFloor_10 : decode cX0_greatestFloor 10 = .ok (.iload_n 1, 1) := by decide +kernel
theorem dX0_greatestFloor_11 : decode cX0_greatestFloor 11 = .ok (.iaload, 1) := by decide +kernel
theorem dX0_greatestFloor_12 : decode cX0_greatestFloor 12 = .ok (.aload_n 0, 1) := by decide +kernel
theorem dX0_greatestFloor_13 : decode cX0_greatestFloor 13 = .ok (.invokevirtual 90, 3) := by decide +kernel
theorem dX0_greatestFloor_16 : decode cX0_greatestFloor 16 = .ok (.iadd, 1) := by decide +kernel
theorem dX0_greatestFloor_17 : decode cX0_greatestFloor 17 = .ok (.invokestatic 52, 3) := by decide +kernel
theorem dX0_greatestFloor_20 : decode cX0_greatestFloor 20 = .ok (.ireturn, 1) := by decide +kernel
theorem dX0_takesFloor_0 : decode cX0_takesFloor 0 = .ok (.aload_n 0, 1) := by decide +kernel
theorem dX0_takesFloor_1 : decode cX0_takesFloor 1 = .ok (.iload_n 1, 1) := by decide +kernel
theorem dX0_takesFloor_2 : decode cX0_takesFloor 2 = .ok (.invokevirtual 64, 3) := by decide +kernel
theorem dX0_takesFloor_5 : decode cX0_takesFloor 5 = .ok (.ifCond .eq 25, 3) := by decide +kernel
theorem dX0_takesFloor_8 : decode cX0_takesFloor 8 = .ok (.iload_n 2, 1) := by decide +kernel
theorem dX0_takesFloor_9 : decode cX0_takesFloor 9 = .ok (.aload_n 0, 1) := by decide +kernel
theorem dX0_takesFloor_10 : decode cX0_takesFloor 10 = .ok (.iload_n 1, 1) := by decide +kernel
theorem dX0_takesFloor_11 : decode cX0_takesFloor 11 = .ok (.invokevirtual 111, 3) := by decide +kernel
theorem dX0_takesFloor_14 : decode cX0_takesFloor 14 = .ok (.if_icmp .lt 16, 3) := by decide +kernel
theorem dX0_takesFloor_17 : decode cX0_takesFloor 17 = .ok (.iload_n 2, 1) := by decide +kernel
theorem dX0_takesFloor_18 : decode cX0_takesFloor 18 = .ok (.aload_n 0, 1) := by decide +kernel
theorem dX0_takesFloor_19 : decode cX0_takesFloor 19 = .ok (.iload_n 1, 1) := by decide +kernel
theorem dX0_takesFloor_20 : decode cX0_takesFloor 20 = .ok (.invokevirtual 114, 3) := by decide +kernel
theorem dX0_takesFloor_23 : decode cX0_takesFloor 23 = .ok (.if_icmp .gt 7, 3) := by decide +kernel
theorem dX0_takesFloor_26 : decode cX0_takesFloor 26 = .ok (.iconst 1, 1) := by decide +kernel
theorem dX0_takesFloor_27 : decode cX0_takesFloor 27 = .ok (.goto 4, 3) := by decide +kernel
theorem dX0_takesFloor_30 : decode cX0_takesFloor 30 = .ok (.iconst 0, 1) := by decide +kernel
theorem dX0_takesFloor_31 : decode cX0_takesFloor 31 = .ok (.ireturn, 1) := by decide +kernel
theorem dX0_changeFloor_0 : decode cX0_changeFloor 0 = .ok (.aload_n 0, 1) := by decide +kernel
theorem dX0_changeFloor_1 : decode cX0_changeFloor 1 = .ok (.iload_n 1, 1) := by decide +kernel
theorem dX0_changeFloor_2 : decode cX0_changeFloor 2 = .ok (.iload_n 2, 1) := by decide +kernel
theorem dX0_changeFloor_3 : decode cX0_changeFloor 3 = .ok (.invokevirtual 117, 3) := by decide +kernel
theorem dX0_changeFloor_6 : decode cX0_changeFloor 6 = .ok (.ifCond .ne 5, 3) := by decide +kernel
theorem dX0_changeFloor_9 : decode cX0_changeFloor 9 = .ok (.iconst 0, 1) := by decide +kernel
theorem dX0_changeFloor_10 : decode cX0_changeFloor 10 = .ok (.ireturn, 1) := by decide +kernel
theorem dX0_changeFloor_11 : decode cX0_changeFloor 11 = .ok (.aload_n 0, 1) := by decide +kernel
theorem dX0_changeFloor_12 : decode cX0_changeFloor 12 = .ok (.getfield 9, 3) := by decide +kernel
theorem dX0_changeFloor_15 : decode cX0_changeFloor 15 = .ok (.iload_n 1, 1) := by decide +kernel
theorem dX0_changeFloor_16 : decode cX0_changeFloor 16 = .ok (.iload_n 2, 1) := by decide +kernel
theorem dX0_changeFloor_17 : decode cX0_changeFloor 17 = .ok (.iastore, 1) := by decide +kernel
theorem dX0_changeFloor_18 : decode cX0_changeFloor 18 = .ok (.iconst 1, 1) := by decide +kernel
theorem dX0_changeFloor_19 : decode cX0_changeFloor 19 = .ok (.ireturn, 1) := by decide +kernel
theorem dX0_takesCeiling_0 : decode cX0_takesCeiling 0 = .ok (.aload_n 0, 1) := by decide +kernel
theorem dX0_takesCeiling_1 : decode cX0_takesCeiling 1 = .ok (.iload_n 1, 1) := by decide +kernel
theorem dX0_takesCeiling_2 : decode cX0_takesCeiling 2 = .ok (.invokevirtual 64, 3) := by decide +kernel
theorem dX0_takesCeiling_5 : decode cX0_takesCeiling 5 = .ok (.ifCond .eq 21, 3) := by decide +kernel
theorem dX0_takesCeiling_8 : decode cX0_takesCeiling 8 = .ok (.aload_n 0, 1) := by decide +kernel
theorem dX0_takesCeiling_9 : decode cX0_takesCeiling 9 = .ok (.aload_n 0, 1) := by decide +kernel
theorem dX0_takesCeiling_10 : decode cX0_takesCeiling 10 = .ok (.getfield 9, 3) := by decide +kernel
theorem dX0_takesCeiling_13 : decode cX0_takesCeiling 13 = .ok (.iload_n 1, 1) := by decide +kernel
theorem dX0_takesCeiling_14 : decode cX0_takesCeiling 14 = .ok (.iaload, 1) := by decide +kernel
theorem dX0_takesCeiling_15 : decode cX0_takesCeiling 15 = .ok (.iload_n 2, 1) := by decide +kernel
theorem dX0_takesCeiling_16 : decode cX0_takesCeiling 16 = .ok (.invokevirtual 105, 3) := by decide +kernel
theorem dX0_takesCeiling_19 : decode cX0_takesCeiling 19 = .ok (.ifCond .eq 7, 3) := by decide +kernel
theorem dX0_takesCeiling_22 : decode cX0_takesCeiling 22 = .ok (.iconst 1, 1) := by decide +kernel
theorem dX0_takesCeiling_23 : decode cX0_takesCeiling 23 = .ok (.goto 4, 3) := by decide +kernel
theorem dX0_takesCeiling_26 : decode cX0_takesCeiling 26 = .ok (.iconst 0, 1) := by decide +kernel
theorem dX0_takesCeiling_27 : decode cX0_takesCeiling 27 = .ok (.ireturn, 1) := by decide +kernel
theorem dX0_changeCeiling_0 : decode cX0_changeCeiling 0 = .ok (.aload_n 0, 1) := by decide +kernel
theorem dX0_changeCeiling_1 : decode cX0_changeCeiling 1 = .ok (.iload_n 1, 1) := by decide +kernel
theorem dX0_changeCeiling_2 : decode cX0_changeCeiling 2 = .ok (.iload_n 2, 1) := by decide +kernel
theorem dX0_changeCeiling_3 : decode cX0_changeCeiling 3 = .ok (.invokevirtual 120, 3) := by decide +kernel
theorem dX0_changeCeiling_6 : decode cX0_changeCeiling 6 = .ok (.ifCond .ne 5, 3) := by decide +kernel
theorem dX0_changeCeiling_9 : decode cX0_changeCeiling 9 = .ok (.iconst 0, 1) := by decide +kernel
theorem dX0_changeCeiling_10 : decode cX0_changeCeiling 10 = .ok (.ireturn, 1) := by decide +kernel
theorem dX0_changeCeiling_11 : decode cX0_changeCeiling 11 = .ok (.aload_n 0, 1) := by decide +kernel
theorem dX0_changeCeiling_12 : decode cX0_changeCeiling 12 = .ok (.getfield 15, 3) := by decide +kernel
theorem dX0_changeCeiling_15 : decode cX0_changeCeiling 15 = .ok (.iload_n 1, 1) := by decide +kernel
theorem dX0_changeCeiling_16 : decode cX0_changeCeiling 16 = .ok (.iload_n 2, 1) := by decide +kernel
theorem dX0_changeCeiling_17 : decode cX0_changeCeiling 17 = .ok (.iastore, 1) := by decide +kernel
theorem dX0_changeCeiling_18 : decode cX0_changeCeiling 18 = .ok (.iconst 1, 1) := by decide +kernel
theorem dX0_changeCeiling_19 : decode cX0_changeCeiling 19 = .ok (.ireturn, 1) := by decide +kernel
theorem dX0_putPage_0 : decode cX0_putPage 0 = .ok (.aload_n 0, 1) := by decide +kernel
theorem dX0_putPage_1 : decode cX0_putPage 1 = .ok (.iload_n 1, 1) := by decide +kernel
theorem dX0_putPage_2 : decode cX0_putPage 2 = .ok (.iload_n 2, 1) := by decide +kernel
theorem dX0_putPage_3 : decode cX0_putPage 3 = .ok (.invokevirtual 68, 3) := by decide +kernel
theorem dX0_putPage_6 : decode cX0_putPage 6 = .ok (.ifCond .ne 5, 3) := by decide +kernel
theorem dX0_putPage_9 : decode cX0_putPage 9 = .ok (.iconst (-1), 1) := by decide +kernel
theorem dX0_putPage_10 : decode cX0_putPage 10 = .ok (.ireturn, 1) := by decide +kernel
theorem dX0_putPage_11 : decode cX0_putPage 11 = .ok (.aload_n 0, 1) := by decide +kernel
theorem dX0_putPage_12 : decode cX0_putPage 12 = .ok (.iload_n 1, 1) := by decide +kernel
theorem dX0_putPage_13 : decode cX0_putPage 13 = .ok (.iload_n 2, 1) := by decide +kernel
theorem dX0_putPage_14 : decode cX0_putPage 14 = .ok (.invokevirtual 123, 3) := by decide +kernel
theorem dX0_putPage_17 : decode cX0_putPage 17 = .ok (.ifCond .eq 7, 3) := by decide +kernel
theorem dX0_putPage_20 : decode cX0_putPage 20 = .ok (.iconst 0, 1) := by decide +kernel
theorem dX0_putPage_21 : decode cX0_putPage 21 = .ok (.goto 8, 3) := by decide +kernel
theorem dX0_putPage_24 : decode cX0_putPage 24 = .ok (.aload_n 0, 1) := by decide +kernel
theorem dX0_putPage_25 : decode cX0_putPage 25 = .ok (.iload_n 1, 1) := by decide +kernel
theorem dX0_putPage_26 : decode cX0_putPage 26 = .ok (.invokevirtual 126, 3) := by decide +kernel
theorem dX0_putPage_29 : decode cX0_putPage 29 = .ok (.istore_n 3, 1) := by decide +kernel
theorem dX0_putPage_30 : decode cX0_putPage 30 = .ok (.iload_n 3, 1) := by decide +kernel
theorem dX0_putPage_31 : decode cX0_putPage 31 = .ok (.iconst 5, 1) := by decide +kernel
theorem dX0_putPage_32 : decode cX0_putPage 32 = .ok (.if_icmp .ne 15, 3) := by decide +kernel
theorem dX0_putPage_35 : decode cX0_putPage 35 = .ok (.aload_n 0, 1) := by decide +kernel
theorem dX0_putPage_36 : decode cX0_putPage 36 = .ok (.getfield 38, 3) := by decide +kernel
theorem dX0_putPage_39 : decode cX0_putPage 39 = .ok (.iload_n 1, 1) := by decide +kernel
theorem dX0_putPage_40 : decode cX0_putPage 40 = .ok (.dup2, 1) := by decide +kernel
theorem dX0_putPage_41 : decode cX0_putPage 41 = .ok (.iaload, 1) := by decide +kernel
theorem dX0_putPage_42 : decode cX0_putPage 42 = .ok (.iconst 1, 1) := by decide +kernel
theorem dX0_putPage_43 : decode cX0_putPage 43 = .ok (.iadd, 1) := by decide +kernel
theorem dX0_putPage_44 : decode cX0_putPage 44 = .ok (.iastore, 1) := by decide +kernel
theorem dX0_putPage_45 : decode cX0_putPage 45 = .ok (.iconst 5, 1) := by decide +kernel
theorem dX0_putPage_46 : decode cX0_putPage 46 = .ok (.ireturn, 1) := by decide +kernel
theorem dX0_putPage_47 : decode cX0_putPage 47 = .ok (.aload_n 0, 1) := by decide +kernel
theorem dX0_putPage_48 : decode cX0_putPage 48 = .ok (.dup, 1) := by decide +kernel
theorem dX0_putPage_49 : decode cX0_putPage 49 = .ok (.getfield 45, 3) := by decide +kernel
theorem dX0_putPage_52 : decode cX0_putPage 52 = .ok (.iconst 1, 1) := by decide +kernel
theorem dX0_putPage_53 : decode cX0_putPage 53 = .ok (.iadd, 1) := by decide +kernel
theorem dX0_putPage_54 : decode cX0_putPage 54 = .ok (.putfield 45, 3) := by decide +kernel
theorem dX0_putPage_57 : decode cX0_putPage 57 = .ok (.aload_n 0, 1) := by decide +kernel
theorem dX0_putPage_58 : decode cX0_putPage 58 = .ok (.getfield 29, 3) := by decide +kernel
theorem dX0_putPage_61 : decode cX0_putPage 61 = .ok (.iload_n 1, 1) := by decide +kernel
theorem dX0_putPage_62 : decode cX0_putPage 62 = .ok (.aaload, 1) := by decide +kernel
theorem dX0_putPage_63 : decode cX0_putPage 63 = .ok (.iload_n 2, 1) := by decide +kernel
theorem dX0_putPage_64 : decode cX0_putPage 64 = .ok (.aload_n 0, 1) := by decide +kernel
theorem dX0_putPage_65 : decode cX0_putPage 65 = .ok (.getfield 45, 3) := by decide +kernel
theorem dX0_putPage_68 : decode cX0_putPage 68 = .ok (.iastore, 1) := by decide +kernel
theorem dX0_putPage_69 : decode cX0_putPage 69 = .ok (.iload_n 3, 1) := by decide +kernel
theorem dX0_putPage_70 : decode cX0_putPage 70 = .ok (.ireturn, 1) := by decide +kernel
theorem dX0_dropPage_0 : decode cX0_dropPage 0 = .ok (.aload_n 0, 1) := by decide +kernel
theorem dX0_dropPage_1 : decode cX0_dropPage 1 = .ok (.iload_n 1, 1) := by decide +kernel
theorem dX0_dropPage_2 : decode cX0_dropPage 2 = .ok (.iload_n 2, 1) := by decide +kernel
theorem dX0_dropPage_3 : decode cX0_dropPage 3 = .ok (.invokevirtual 123, 3) := by decide +kernel
theorem dX0_dropPage_6 : decode cX0_dropPage 6 = .ok (.ifCond .ne 5, 3) := by decide +kernel
theorem dX0_dropPage_9 : decode cX0_dropPage 9 = .ok (.iconst 0, 1) := by decide +kernel
theorem dX0_dropPage_10 : decode cX0_dropPage 10 = .ok (.ireturn, 1) := by decide +kernel
theorem dX0_dropPage_11 : decode cX0_dropPage 11 = .ok (.aload_n 0, 1) := by decide +kernel
theorem dX0_dropPage_12 : decode cX0_dropPage 12 = .ok (.getfield 29, 3) := by decide +kernel
theorem dX0_dropPage_15 : decode cX0_dropPage 15 = .ok (.iload_n 1, 1) := by decide +kernel
theorem dX0_dropPage_16 : decode cX0_dropPage 16 = .ok (.aaload, 1) := by decide +kernel
theorem dX0_dropPage_17 : decode cX0_dropPage 17 = .ok (.iload_n 2, 1) := by decide +kernel
theorem dX0_dropPage_18 : decode cX0_dropPage 18 = .ok (.iconst 0, 1) := by decide +kernel
theorem dX0_dropPage_19 : decode cX0_dropPage 19 = .ok (.iastore, 1) := by decide +kernel
theorem dX0_dropPage_20 : decode cX0_dropPage 20 = .ok (.aload_n 0, 1) := by decide +kernel
theorem dX0_dropPage_21 : decode cX0_dropPage 21 = .ok (.iload_n 1, 1) := by decide +kernel
theorem dX0_dropPage_22 : decode cX0_dropPage 22 = .ok (.invokevirtual 129, 3) := by decide +kernel
theorem dX0_dropPage_25 : decode cX0_dropPage 25 = .ok (.istore_n 3, 1) := by decide +kernel
theorem dX0_dropPage_26 : decode cX0_dropPage 26 = .ok (.iload_n 3, 1) := by decide +kernel
theorem dX0_dropPage_27 : decode cX0_dropPage 27 = .ok (.iconst (-1), 1) := by decide +kernel
theorem dX0_dropPage_28 : decode cX0_dropPage 28 = .ok (.if_icmp .eq 18, 3) := by decide +kernel
theorem dX0_dropPage_31 : decode cX0_dropPage 31 = .ok (.aload_n 0, 1) := by decide +kernel
theorem dX0_dropPage_32 : decode cX0_dropPage 32 = .ok (.getfield 26, 3) := by decide +kernel
theorem dX0_dropPage_35 : decode cX0_dropPage 35 = .ok (.iload_n 1, 1) := by decide +kernel
theorem dX0_dropPage_36 : decode cX0_dropPage 36 = .ok (.aaload, 1) := by decide +kernel
theorem dX0_dropPage_37 : decode cX0_dropPage 37 = .ok (.iload_n 3, 1) := by decide +kernel
theorem dX0_dropPage_38 : decode cX0_dropPage 38 = .ok (.dup2, 1) := by decide +kernel
theorem dX0_dropPage_39 : decode cX0_dropPage 39 = .ok (.iaload, 1) := by decide +kernel
theorem dX0_dropPage_40 : decode cX0_dropPage 40 = .ok (.iconst 1, 1) := by decide +kernel
theorem dX0_dropPage_41 : decode cX0_dropPage 41 = .ok (.isub, 1) := by decide +kernel
theorem dX0_dropPage_42 : decode cX0_dropPage 42 = .ok (.iastore, 1) := by decide +kernel
theorem dX0_dropPage_43 : decode cX0_dropPage 43 = .ok (.goto 35, 3) := by decide +kernel
theorem dX0_dropPage_46 : decode cX0_dropPage 46 = .ok (.aload_n 0, 1) := by decide +kernel
theorem dX0_dropPage_47 : decode cX0_dropPage 47 = .ok (.getfield 21, 3) := by decide +kernel
theorem dX0_dropPage_50 : decode cX0_dropPage 50 = .ok (.iload_n 1, 1) := by decide +kernel
theorem dX0_dropPage_51 : decode cX0_dropPage 51 = .ok (.iaload, 1) := by decide +kernel
theorem dX0_dropPage_52 : decode cX0_dropPage 52 = .ok (.ifCond .le 16, 3) := by decide +kernel
theorem dX0_dropPage_55 : decode cX0_dropPage 55 = .ok (.aload_n 0, 1) := by decide +kernel
theorem dX0_dropPage_56 : decode cX0_dropPage 56 = .ok (.getfield 21, 3) := by decide +kernel
theorem dX0_dropPage_59 : decode cX0_dropPage 59 = .ok (.iload_n 1, 1) := by decide +kernel
theorem dX0_dropPage_60 : decode cX0_dropPage 60 = .ok (.dup2, 1) := by decide +kernel
theorem dX0_dropPage_61 : decode cX0_dropPage 61 = .ok (.iaload, 1) := by decide +kernel
theorem dX0_dropPage_62 : decode cX0_dropPage 62 = .ok (.iconst 1, 1) := by decide +kernel
theorem dX0_dropPage_63 : decode cX0_dropPage 63 = .ok (.isub, 1) := by decide +kernel
theorem dX0_dropPage_64 : decode cX0_dropPage 64 = .ok (.iastore, 1) := by decide +kernel
theorem dX0_dropPage_65 : decode cX0_dropPage 65 = .ok (.goto 13, 3) := by decide +kernel
theorem dX0_dropPage_68 : decode cX0_dropPage 68 = .ok (.aload_n 0, 1) := by decide +kernel
theorem dX0_dropPage_69 : decode cX0_dropPage 69 = .ok (.getfield 18, 3) := by decide +kernel
theorem dX0_dropPage_72 : decode cX0_dropPage 72 = .ok (.iload_n 1, 1) := by decide +kernel
theorem dX0_dropPage_73 : decode cX0_dropPage 73 = .ok (.dup2, 1) := by decide +kernel
theorem dX0_dropPage_74 : decode cX0_dropPage 74 = .ok (.iaload, 1) := by decide +kernel
theorem dX0_dropPage_75 : decode cX0_dropPage 75 = .ok (.iconst 1, 1) := by decide +kernel
theorem dX0_dropPage_76 : decode cX0_dropPage 76 = .ok (.isub, 1) := by decide +kernel
theorem dX0_dropPage_77 : decode cX0_dropPage 77 = .ok (.iastore, 1) := by decide +kernel
theorem dX0_dropPage_78 : decode cX0_dropPage 78 = .ok (.iconst 1, 1) := by decide +kernel
theorem dX0_dropPage_79 : decode cX0_dropPage 79 = .ok (.ireturn, 1) := by decide +kernel
theorem dX0_takeBlock_0 : decode cX0_takeBlock 0 = .ok (.aload_n 0, 1) := by decide +kernel
theorem dX0_takeBlock_1 : decode cX0_takeBlock 1 = .ok (.iload_n 1, 1) := by decide +kernel
theorem dX0_takeBlock_2 : decode cX0_takeBlock 2 = .ok (.invokevirtual 76, 3) := by decide +kernel
theorem dX0_takeBlock_5 : decode cX0_takeBlock 5 = .ok (.aload_n 0, 1) := by decide +kernel
theorem dX0_takeBlock_6 : decode cX0_takeBlock 6 = .ok (.getfield 15, 3) := by decide +kernel
theorem dX0_takeBlock_9 : decode cX0_takeBlock 9 = .ok (.iload_n 1, 1) := by decide +kernel
theorem dX0_takeBlock_10 : decode cX0_takeBlock 10 = .ok (.iaload, 1) := by decide +kernel
theorem dX0_takeBlock_11 : decode cX0_takeBlock 11 = .ok (.if_icmp .lt 5, 3) := by decide +kernel
theorem dX0_takeBlock_14 : decode cX0_takeBlock 14 = .ok (.iconst 5, 1) := by decide +kernel
theorem dX0_takeBlock_15 : decode cX0_takeBlock 15 = .ok (.ireturn, 1) := by decide +kernel
theorem dX0_takeBlock_16 : decode cX0_takeBlock 16 = .ok (.aload_n 0, 1) := by decide +kernel
theorem dX0_takeBlock_17 : decode cX0_takeBlock 17 = .ok (.iload_n 1, 1) := by decide +kernel
theorem dX0_takeBlock_18 : decode cX0_takeBlock 18 = .ok (.invokevirtual 80, 3) := by decide +kernel
theorem dX0_takeBlock_21 : decode cX0_takeBlock 21 = .ok (.ifCond .le 15, 3) := by decide +kernel
theorem dX0_takeBlock_24 : decode cX0_takeBlock 24 = .ok (.aload_n 0, 1) := by decide +kernel
theorem dX0_takeBlock_25 : decode cX0_takeBlock 25 = .ok (.getfield 18, 3) := by decide +kernel
theorem dX0_takeBlock_28 : decode cX0_takeBlock 28 = .ok (.iload_n 1, 1) := by decide +kernel
theorem dX0_takeBlock_29 : decode cX0_takeBlock 29 = .ok (.dup2, 1) := by decide +kernel
theorem dX0_takeBlock_30 : decode cX0_takeBlock 30 = .ok (.iaload, 1) := by decide +kernel
theorem dX0_takeBlock_31 : decode cX0_takeBlock 31 = .ok (.iconst 1, 1) := by decide +kernel
theorem dX0_takeBlock_32 : decode cX0_takeBlock 32 = .ok (.iadd, 1) := by decide +kernel
theorem dX0_takeBlock_33 : decode cX0_takeBlock 33 = .ok (.iastore, 1) := by decide +kernel
theorem dX0_takeBlock_34 : decode cX0_takeBlock 34 = .ok (.iconst 1, 1) := by decide +kernel
theorem dX0_takeBlock_35 : decode cX0_takeBlock 35 = .ok (.ireturn, 1) := by decide +kernel
theorem dX0_takeBlock_36 : decode cX0_takeBlock 36 = .ok (.aload_n 0, 1) := by decide +kernel
theorem dX0_takeBlock_37 : decode cX0_takeBlock 37 = .ok (.getfield 18, 3) := by decide +kernel
theorem dX0_takeBlock_40 : decode cX0_takeBlock 40 = .ok (.iload_n 1, 1) := by decide +kernel
theorem dX0_takeBlock_41 : decode cX0_takeBlock 41 = .ok (.iaload, 1) := by decide +kernel
theorem dX0_takeBlock_42 : decode cX0_takeBlock 42 = .ok (.aload_n 0, 1) := by decide +kernel
theorem dX0_takeBlock_43 : decode cX0_takeBlock 43 = .ok (.getfield 9, 3) := by decide +kernel
theorem dX0_takeBlock_46 : decode cX0_takeBlock 46 = .ok (.iload_n 1, 1) := by decide +kernel
theorem dX0_takeBlock_47 : decode cX0_takeBlock 47 = .ok (.iaload, 1) := by decide +kernel
theorem dX0_takeBlock_48 : decode cX0_takeBlock 48 = .ok (.if_icmp .ge 20, 3) := by decide +kernel
theorem dX0_takeBlock_51 : decode cX0_takeBlock 51 = .ok (.aload_n 0, 1) := by decide +kernel
theorem dX0_takeBlock_52 : decode cX0_takeBlock 52 = .ok (.iload_n 1, 1) := by decide +kernel
theorem dX0_takeBlock_53 : decode cX0_takeBlock 53 = .ok (.invokevirtual 132, 3) := by decide +kernel
theorem dX0_takeBlock_56 : decode cX0_takeBlock 56 = .ok (.aload_n 0, 1) := by decide +kernel
theorem dX0_takeBlock_57 : decode cX0_takeBlock 57 = .ok (.getfield 18, 3) := by decide +kernel
theorem dX0_takeBlock_60 : decode cX0_takeBlock 60 = .ok (.iload_n 1, 1) := by decide +kernel
theorem dX0_takeBlock_61 : decode cX0_takeBlock 61 = .ok (.dup2, 1) := by decide +kernel
theorem dX0_takeBlock_62 : decode cX0_takeBlock 62 = .ok (.iaload, 1) := by decide +kernel
theorem dX0_takeBlock_63 : decode cX0_takeBlock 63 = .ok (.iconst 1, 1) := by decide +kernel
theorem dX0_takeBlock_64 : decode cX0_takeBlock 64 = .ok (.iadd, 1) := by decide +kernel
theorem dX0_takeBlock_65 : decode cX0_takeBlock 65 = .ok (.iastore, 1) := by decide +kernel
theorem dX0_takeBlock_66 : decode cX0_takeBlock 66 = .ok (.iconst 2, 1) := by decide +kernel
theorem dX0_takeBlock_67 : decode cX0_takeBlock 67 = .ok (.ireturn, 1) := by decide +kernel
theorem dX0_takeBlock_68 : decode cX0_takeBlock 68 = .ok (.aload_n 0, 1) := by decide +kernel
theorem dX0_takeBlock_69 : decode cX0_takeBlock 69 = .ok (.invokevirtual 90, 3) := by decide +kernel
theorem dX0_takeBlock_72 : decode cX0_takeBlock 72 = .ok (.ifCond .le 15, 3) := by decide +kernel
theorem dX0_takeBlock_75 : decode cX0_takeBlock 75 = .ok (.aload_n 0, 1) := by decide +kernel
theorem dX0_takeBlock_76 : decode cX0_takeBlock 76 = .ok (.getfield 21, 3) := by decide +kernel
theorem dX0_takeBlock_79 : decode cX0_takeBlock 79 = .ok (.iload_n 1, 1) := by decide +kernel
theorem dX0_takeBlock_80 : decode cX0_takeBlock 80 = .ok (.dup2, 1) := by decide +kernel
theorem dX0_takeBlock_81 : decode cX0_takeBlock 81 = .ok (.iaload, 1) := by decide +kernel
theorem dX0_takeBlock_82 : decode cX0_takeBlock 82 = .ok (.iconst 1, 1) := by decide +kernel
theorem dX0_takeBlock_83 : decode cX0_takeBlock 83 = .ok (.iadd, 1) := by decide +kernel
theorem dX0_takeBlock_84 : decode cX0_takeBlock 84 = .ok (.iastore, 1) := by decide +kernel
theorem dX0_takeBlock_85 : decode cX0_takeBlock 85 = .ok (.iconst 3, 1) := by decide +kernel
theorem dX0_takeBlock_86 : decode cX0_takeBlock 86 = .ok (.ireturn, 1) := by decide +kernel
theorem dX0_takeBlock_87 : decode cX0_takeBlock 87 = .ok (.aload_n 0, 1) := by decide +kernel
theorem dX0_takeBlock_88 : decode cX0_takeBlock 88 = .ok (.iload_n 1, 1) := by decide +kernel
theorem dX0_takeBlock_89 : decode cX0_takeBlock 89 = .ok (.iload_n 1, 1) := by decide +kernel
theorem dX0_takeBlock_90 : decode cX0_takeBlock 90 = .ok (.invokevirtual 136, 3) := by decide +kernel
theorem dX0_takeBlock_93 : decode cX0_takeBlock 93 = .ok (.istore_n 2, 1) := by decide +kernel
theorem dX0_takeBlock_94 : decode cX0_takeBlock 94 = .ok (.iload_n 2, 1) := by decide +kernel
theorem dX0_takeBlock_95 : decode cX0_takeBlock 95 = .ok (.iconst (-1), 1) := by decide +kernel
theorem dX0_takeBlock_96 : decode cX0_takeBlock 96 = .ok (.if_icmp .ne 5, 3) := by decide +kernel
theorem dX0_takeBlock_99 : decode cX0_takeBlock 99 = .ok (.iconst 5, 1) := by decide +kernel
theorem dX0_takeBlock_100 : decode cX0_takeBlock 100 = .ok (.ireturn, 1) := by decide +kernel
theorem dX0_takeBlock_101 : decode cX0_takeBlock 101 = .ok (.aload_n 0, 1) := by decide +kernel
theorem dX0_takeBlock_102 : decode cX0_takeBlock 102 = .ok (.getfield 26, 3) := by decide +kernel
theorem dX0_takeBlock_105 : decode cX0_takeBlock 105 = .ok (.iload_n 1, 1) := by decide +kernel
theorem dX0_takeBlock_106 : decode cX0_takeBlock 106 = .ok (.aaload, 1) := by decide +kernel
theorem dX0_takeBlock_107 : decode cX0_takeBlock 107 = .ok (.iload_n 2, 1) := by decide +kernel
theorem dX0_takeBlock_108 : decode cX0_takeBlock 108 = .ok (.dup2, 1) := by decide +kernel
theorem dX0_takeBlock_109 : decode cX0_takeBlock 109 = .ok (.iaload, 1) := by decide +kernel
theorem dX0_takeBlock_110 : decode cX0_takeBlock 110 = .ok (.iconst 1, 1) := by decide +kernel
theorem dX0_takeBlock_111 : decode cX0_takeBlock 111 = .ok (.iadd, 1) := by decide +kernel
theorem dX0_takeBlock_112 : decode cX0_takeBlock 112 = .ok (.iastore, 1) := by decide +kernel
theorem dX0_takeBlock_113 : decode cX0_takeBlock 113 = .ok (.iconst 4, 1) := by decide +kernel
theorem dX0_takeBlock_114 : decode cX0_takeBlock 114 = .ok (.ireturn, 1) := by decide +kernel
theorem dX0_recallLoan_0 : decode cX0_recallLoan 0 = .ok (.aload_n 0, 1) := by decide +kernel
theorem dX0_recallLoan_1 : decode cX0_recallLoan 1 = .ok (.iload_n 1, 1) := by decide +kernel
theorem dX0_recallLoan_2 : decode cX0_recallLoan 2 = .ok (.invokevirtual 139, 3) := by decide +kernel
theorem dX0_recallLoan_5 : decode cX0_recallLoan 5 = .ok (.istore_n 2, 1) := by decide +kernel
theorem dX0_recallLoan_6 : decode cX0_recallLoan 6 = .ok (.iload_n 2, 1) := by decide +kernel
theorem dX0_recallLoan_7 : decode cX0_recallLoan 7 = .ok (.iconst (-1), 1) := by decide +kernel
theorem dX0_recallLoan_8 : decode cX0_recallLoan 8 = .ok (.if_icmp .ne 4, 3) := by decide +kernel
theorem dX0_recallLoan_11 : decode cX0_recallLoan 11 = .ok (.return_, 1) := by decide +kernel
theorem dX0_recallLoan_12 : decode cX0_recallLoan 12 = .ok (.aload_n 0, 1) := by decide +kernel
theorem dX0_recallLoan_13 : decode cX0_recallLoan 13 = .ok (.getfield 26, 3) := by decide +kernel
theorem dX0_recallLoan_16 : decode cX0_recallLoan 16 = .ok (.iload_n 2, 1) := by decide +kernel
theorem dX0_recallLoan_17 : decode cX0_recallLoan 17 = .ok (.aaload, 1) := by decide +kernel
theorem dX0_recallLoan_18 : decode cX0_recallLoan 18 = .ok (.iload_n 1, 1) := by decide +kernel
theorem dX0_recallLoan_19 : decode cX0_recallLoan 19 = .ok (.dup2, 1) := by decide +kernel
theorem dX0_recallLoan_20 : decode cX0_recallLoan 20 = .ok (.iaload, 1) := by decide +kernel
theorem dX0_recallLoan_21 : decode cX0_recallLoan 21 = .ok (.iconst 1, 1) := by decide +kernel
theorem dX0_recallLoan_22 : decode cX0_recallLoan 22 = .ok (.isub, 1) := by decide +kernel
theorem dX0_recallLoan_23 : decode cX0_recallLoan 23 = .ok (.iastore, 1) := by decide +kernel
theorem dX0_recallLoan_24 : decode cX0_recallLoan 24 = .ok (.aload_n 0, 1) := by decide +kernel
theorem dX0_recallLoan_25 : decode cX0_recallLoan 25 = .ok (.getfield 32, 3) := by decide +kernel
theorem dX0_recallLoan_28 : decode cX0_recallLoan 28 = .ok (.iload_n 1, 1) := by decide +kernel
theorem dX0_recallLoan_29 : decode cX0_recallLoan 29 = .ok (.dup2, 1) := by decide +kernel
theorem dX0_recallLoan_30 : decode cX0_recallLoan 30 = .ok (.iaload, 1) := by decide +kernel
theorem dX0_recallLoan_31 : decode cX0_recallLoan 31 = .ok (.iconst 1, 1) := by decide +kernel
theorem dX0_recallLoan_32 : decode cX0_recallLoan 32 = .ok (.iadd, 1) := by decide +kernel
theorem dX0_recallLoan_33 : decode cX0_recallLoan 33 = .ok (.iastore, 1) := by decide +kernel
theorem dX0_recallLoan_34 : decode cX0_recallLoan 34 = .ok (.aload_n 0, 1) := by decide +kernel
theorem dX0_recallLoan_35 : decode cX0_recallLoan 35 = .ok (.iload_n 2, 1) := by decide +kernel
theorem dX0_recallLoan_36 : decode cX0_recallLoan 36 = .ok (.invokevirtual 80, 3) := by decide +kernel
theorem dX0_recallLoan_39 : decode cX0_recallLoan 39 = .ok (.ifCond .le 14, 3) := by decide +kernel
theorem dX0_recallLoan_42 : decode cX0_recallLoan 42 = .ok (.aload_n 0, 1) := by decide +kernel
theorem dX0_recallLoan_43 : decode cX0_recallLoan 43 = .ok (.getfield 18, 3) := by decide +kernel
theorem dX0_recallLoan_46 : decode cX0_recallLoan 46 = .ok (.iload_n 2, 1) := by decide +kernel
theorem dX0_recallLoan_47 : decode cX0_recallLoan 47 = .ok (.dup2, 1) := by decide +kernel
theorem dX0_recallLoan_48 : decode cX0_recallLoan 48 = .ok (.iaload, 1) := by decide +kernel
theorem dX0_recallLoan_49 : decode cX0_recallLoan 49 = .ok (.iconst 1, 1) := by decide +kernel
theorem dX0_recallLoan_50 : decode cX0_recallLoan 50 = .ok (.iadd, 1) := by decide +kernel
theorem dX0_recallLoan_51 : decode cX0_recallLoan 51 = .ok (.iastore, 1) := by decide +kernel
theorem dX0_recallLoan_52 : decode cX0_recallLoan 52 = .ok (.return_, 1) := by decide +kernel
theorem dX0_recallLoan_53 : decode cX0_recallLoan 53 = .ok (.aload_n 0, 1) := by decide +kernel
theorem dX0_recallLoan_54 : decode cX0_recallLoan 54 = .ok (.invokevirtual 90, 3) := by decide +kernel
theorem dX0_recallLoan_57 : decode cX0_recallLoan 57 = .ok (.ifCond .le 14, 3) := by decide +kernel
theorem dX0_recallLoan_60 : decode cX0_recallLoan 60 = .ok (.aload_n 0, 1) := by decide +kernel
theorem dX0_recallLoan_61 : decode cX0_recallLoan 61 = .ok (.getfield 21, 3) := by decide +kernel
theorem dX0_recallLoan_64 : decode cX0_recallLoan 64 = .ok (.iload_n 2, 1) := by decide +kernel
theorem dX0_recallLoan_65 : decode cX0_recallLoan 65 = .ok (.dup2, 1) := by decide +kernel
theorem dX0_recallLoan_66 : decode cX0_recallLoan 66 = .ok (.iaload, 1) := by decide +kernel
theorem dX0_recallLoan_67 : decode cX0_recallLoan 67 = .ok (.iconst 1, 1) := by decide +kernel
theorem dX0_recallLoan_68 : decode cX0_recallLoan 68 = .ok (.iadd, 1) := by decide +kernel
theorem dX0_recallLoan_69 : decode cX0_recallLoan 69 = .ok (.iastore, 1) := by decide +kernel
theorem dX0_recallLoan_70 : decode cX0_recallLoan 70 = .ok (.return_, 1) := by decide +kernel
theorem dX0_recallLoan_71 : decode cX0_recallLoan 71 = .ok (.aload_n 0, 1) := by decide +kernel
theorem dX0_recallLoan_72 : decode cX0_recallLoan 72 = .ok (.iload_n 2, 1) := by decide +kernel
theorem dX0_recallLoan_73 : decode cX0_recallLoan 73 = .ok (.iload_n 1, 1) := by decide +kernel
theorem dX0_recallLoan_74 : decode cX0_recallLoan 74 = .ok (.invokevirtual 136, 3) := by decide +kernel
theorem dX0_recallLoan_77 : decode cX0_recallLoan 77 = .ok (.istore_n 3, 1) := by decide +kernel
theorem dX0_recallLoan_78 : decode cX0_recallLoan 78 = .ok (.iload_n 3, 1) := by decide +kernel
theorem dX0_recallLoan_79 : decode cX0_recallLoan 79 = .ok (.iconst (-1), 1) := by decide +kernel
theorem dX0_recallLoan_80 : decode cX0_recallLoan 80 = .ok (.if_icmp .eq 18, 3) := by decide +kernel
theorem dX0_recallLoan_83 : decode cX0_recallLoan 83 = .ok (.aload_n 0, 1) := by decide +kernel
theorem dX0_recallLoan_84 : decode cX0_recallLoan 84 = .ok (.getfield 26, 3) := by decide +kernel
theorem dX0_recallLoan_87 : decode cX0_recallLoan 87 = .ok (.iload_n 2, 1) := by decide +kernel
theorem dX0_recallLoan_88 : decode cX0_recallLoan 88 = .ok (.aaload, 1) := by decide +kernel
theorem dX0_recallLoan_89 : decode cX0_recallLoan 89 = .ok (.iload_n 3, 1) := by decide +kernel
theorem dX0_recallLoan_90 : decode cX0_recallLoan 90 = .ok (.dup2, 1) := by decide +kernel
theorem dX0_recallLoan_91 : decode cX0_recallLoan 91 = .ok (.iaload, 1) := by decide +kernel
theorem dX0_recallLoan_92 : decode cX0_recallLoan 92 = .ok (.iconst 1, 1) := by decide +kernel
theorem dX0_recallLoan_93 : decode cX0_recallLoan 93 = .ok (.iadd, 1) := by decide +kernel
theorem dX0_recallLoan_94 : decode cX0_recallLoan 94 = .ok (.iastore, 1) := by decide +kernel
theorem dX0_recallLoan_95 : decode cX0_recallLoan 95 = .ok (.goto 8, 3) := by decide +kernel
theorem dX0_recallLoan_98 : decode cX0_recallLoan 98 = .ok (.aload_n 0, 1) := by decide +kernel
theorem dX0_recallLoan_99 : decode cX0_recallLoan 99 = .ok (.iload_n 2, 1) := by decide +kernel
theorem dX0_recallLoan_100 : decode cX0_recallLoan 100 = .ok (.invokevirtual 142, 3) := by decide +kernel
theorem dX0_recallLoan_103 : decode cX0_recallLoan 103 = .ok (.return_, 1) := by decide +kernel
theorem dX0_loseOldest_0 : decode cX0_loseOldest 0 = .ok (.aload_n 0, 1) := by decide +kernel
theorem dX0_loseOldest_1 : decode cX0_loseOldest 1 = .ok (.iload_n 1, 1) := by decide +kernel
theorem dX0_loseOldest_2 : decode cX0_loseOldest 2 = .ok (.iconst 0, 1) := by decide +kernel
theorem dX0_loseOldest_3 : decode cX0_loseOldest 3 = .ok (.invokevirtual 102, 3) := by decide +kernel
theorem dX0_loseOldest_6 : decode cX0_loseOldest 6 = .ok (.istore_n 2, 1) := by decide +kernel
theorem dX0_loseOldest_7 : decode cX0_loseOldest 7 = .ok (.iload_n 2, 1) := by decide +kernel
theorem dX0_loseOldest_8 : decode cX0_loseOldest 8 = .ok (.iconst (-1), 1) := by decide +kernel
theorem dX0_loseOldest_9 : decode cX0_loseOldest 9 = .ok (.if_icmp .eq 22, 3) := by decide +kernel
theorem dX0_loseOldest_12 : decode cX0_loseOldest 12 = .ok (.aload_n 0, 1) := by decide +kernel
theorem dX0_loseOldest_13 : decode cX0_loseOldest 13 = .ok (.getfield 29, 3) := by decide +kernel
theorem dX0_loseOldest_16 : decode cX0_loseOldest 16 = .ok (.iload_n 1, 1) := by decide +kernel
theorem dX0_loseOldest_17 : decode cX0_loseOldest 17 = .ok (.aaload, 1) := by decide +kernel
theorem dX0_loseOldest_18 : decode cX0_loseOldest 18 = .ok (.iload_n 2, 1) := by decide +kernel
theorem dX0_loseOldest_19 : decode cX0_loseOldest 19 = .ok (.iconst 0, 1) := by decide +kernel
theorem dX0_loseOldest_20 : decode cX0_loseOldest 20 = .ok (.iastore, 1) := by decide +kernel
theorem dX0_loseOldest_21 : decode cX0_loseOldest 21 = .ok (.aload_n 0, 1) := by decide +kernel
theorem dX0_loseOldest_22 : decode cX0_loseOldest 22 = .ok (.getfield 35, 3) := by decide +kernel
theorem dX0_loseOldest_25 : decode cX0_loseOldest 25 = .ok (.iload_n 1, 1) := by decide +kernel
theorem dX0_loseOldest_26 : decode cX0_loseOldest 26 = .ok (.dup2, 1) := by decide +kernel
theorem dX0_loseOldest_27 : decode cX0_loseOldest 27 = .ok (.iaload, 1) := by decide +kernel
theorem dX0_loseOldest_28 : decode cX0_loseOldest 28 = .ok (.iconst 1, 1) := by decide +kernel
theorem dX0_loseOldest_29 : decode cX0_loseOldest 29 = .ok (.iadd, 1) := by decide +kernel
theorem dX0_loseOldest_30 : decode cX0_loseOldest 30 = .ok (.iastore, 1) := by decide +kernel
theorem dX0_loseOldest_31 : decode cX0_loseOldest 31 = .ok (.return_, 1) := by decide +kernel
theorem dX0_greatestBorrower_0 : decode cX0_greatestBorrower 0 = .ok (.iconst (-1), 1) := by decide +kernel
theorem dX0_greatestBorrower_1 : decode cX0_greatestBorrower 1 = .ok (.istore_n 2, 1) := by decide +kernel
theorem dX0_greatestBorrower_2 : decode cX0_greatestBorrower 2 = .ok (.iconst 0, 1) := by decide +kernel
theorem dX0_greatestBorrower_3 : decode cX0_greatestBorrower 3 = .ok (.istore_n 3, 1) := by decide +kernel
theorem dX0_greatestBorrower_4 : decode cX0_greatestBorrower 4 = .ok (.iload_n 3, 1) := by decide +kernel
theorem dX0_greatestBorrower_5 : decode cX0_greatestBorrower 5 = .ok (.aload_n 0, 1) := by decide +kernel
theorem dX0_greatestBorrower_6 : decode cX0_greatestBorrower 6 = .ok (.getfield 41, 3) := by decide +kernel
theorem dX0_greatestBorrower_9 : decode cX0_greatestBorrower 9 = .ok (.if_icmp .ge 39, 3) := by decide +kernel
theorem dX0_greatestBorrower_12 : decode cX0_greatestBorrower 12 = .ok (.aload_n 0, 1) := by decide +kernel
theorem dX0_greatestBorrower_13 : decode cX0_greatestBorrower 13 = .ok (.getfield 26, 3) := by decide +kernel
theorem dX0_greatestBorrower_16 : decode cX0_greatestBorrower 16 = .ok (.iload_n 3, 1) := by decide +kernel
theorem dX0_greatestBorrower_17 : decode cX0_greatestBorrower 17 = .ok (.aaload, 1) := by decide +kernel
theorem dX0_greatestBorrower_18 : decode cX0_greatestBorrower 18 = .ok (.iload_n 1, 1) := by decide +kernel
theorem dX0_greatestBorrower_19 : decode cX0_greatestBorrower 19 = .ok (.iaload, 1) := by decide +kernel
theorem dX0_greatestBorrower_20 : decode cX0_greatestBorrower 20 = .ok (.iload_n 2, 1) := by decide +kernel
theorem dX0_greatestBorrower_21 : decode cX0_greatestBorrower 21 = .ok (.iconst (-1), 1) := by decide +kernel
theorem dX0_greatestBorrower_22 : decode cX0_greatestBorrower 22 = .ok (.if_icmp .ne 7, 3) := by decide +kernel
theorem dX0_greatestBorrower_25 : decode cX0_greatestBorrower 25 = .ok (.iconst 0, 1) := by decide +kernel
theorem dX0_greatestBorrower_26 : decode cX0_greatestBorrower 26 = .ok (.goto 11, 3) := by decide +kernel
theorem dX0_greatestBorrower_29 : decode cX0_greatestBorrower 29 = .ok (.aload_n 0, 1) := by decide +kernel
theorem dX0_greatestBorrower_30 : decode cX0_greatestBorrower 30 = .ok (.getfield 26, 3) := by decide +kernel
theorem dX0_greatestBorrower_33 : decode cX0_greatestBorrower 33 = .ok (.iload_n 2, 1) := by decide +kernel
theorem dX0_greatestBorrower_34 : decode cX0_greatestBorrower 34 = .ok (.aaload, 1) := by decide +kernel
theorem dX0_greatestBorrower_35 : decode cX0_greatestBorrower 35 = .ok (.iload_n 1, 1) := by decide +kernel
theorem dX0_greatestBorrower_36 : decode cX0_greatestBorrower 36 = .ok (.iaload, 1) := by decide +kernel
theorem dX0_greatestBorrower_37 : decode cX0_greatestBorrower 37 = .ok (.if_icmp .le 5, 3) := by decide +kernel
theorem dX0_greatestBorrower_40 : decode cX0_greatestBorrower 40 = .ok (.iload_n 3, 1) := by decide +kernel
theorem dX0_greatestBorrower_41 : decode cX0_greatestBorrower 41 = .ok (.istore_n 2, 1) := by decide +kernel
theorem dX0_greatestBorrower_42 : decode cX0_greatestBorrower 42 = .ok (.iinc 3 1, 3) := by decide +kernel
theorem dX0_greatestBorrower_45 : decode cX0_greatestBorrower 45 = .ok (.goto (-41), 3) := by decide +kernel
theorem dX0_greatestBorrower_48 : decode cX0_greatestBorrower 48 = .ok (.iload_n 2, 1) := by decide +kernel
theorem dX0_greatestBorrower_49 : decode cX0_greatestBorrower 49 = .ok (.ireturn, 1) := by decide +kernel
theorem dX0_greatestLender_0 : decode cX0_greatestLender 0 = .ok (.iconst (-1), 1) := by decide +kernel
theorem dX0_greatestLender_1 : decode cX0_greatestLender 1 = .ok (.istore_n 2, 1) := by decide +kernel
theorem dX0_greatestLender_2 : decode cX0_greatestLender 2 = .ok (.iconst 0, 1) := by decide +kernel
theorem dX0_greatestLender_3 : decode cX0_greatestLender 3 = .ok (.istore_n 3, 1) := by decide +kernel
theorem dX0_greatestLender_4 : decode cX0_greatestLender 4 = .ok (.iload_n 3, 1) := by decide +kernel
theorem dX0_greatestLender_5 : decode cX0_greatestLender 5 = .ok (.aload_n 0, 1) := by decide +kernel
theorem dX0_greatestLender_6 : decode cX0_greatestLender 6 = .ok (.getfield 41, 3) := by decide +kernel
theorem dX0_greatestLender_9 : decode cX0_greatestLender 9 = .ok (.if_icmp .ge 39, 3) := by decide +kernel
theorem dX0_greatestLender_12 : decode cX0_greatestLender 12 = .ok (.aload_n 0, 1) := by decide +kernel
theorem dX0_greatestLender_13 : decode cX0_greatestLender 13 = .ok (.getfield 26, 3) := by decide +kernel
theorem dX0_greatestLender_16 : decode cX0_greatestLender 16 = .ok (.iload_n 1, 1) := by decide +kernel
theorem dX0_greatestLender_17 : decode cX0_greatestLender 17 = .ok (.aaload, 1) := by decide +kernel
theorem dX0_greatestLender_18 : decode cX0_greatestLender 18 = .ok (.iload_n 3, 1) := by decide +kernel
theorem dX0_greatestLender_19 : decode cX0_greatestLender 19 = .ok (.iaload, 1) := by decide +kernel
theorem dX0_greatestLender_20 : decode cX0_greatestLender 20 = .ok (.iload_n 2, 1) := by decide +kernel
theorem dX0_greatestLender_21 : decode cX0_greatestLender 21 = .ok (.iconst (-1), 1) := by decide +kernel
theorem dX0_greatestLender_22 : decode cX0_greatestLender 22 = .ok (.if_icmp .ne 7, 3) := by decide +kernel
theorem dX0_greatestLender_25 : decode cX0_greatestLender 25 = .ok (.iconst 0, 1) := by decide +kernel
theorem dX0_greatestLender_26 : decode cX0_greatestLender 26 = .ok (.goto 11, 3) := by decide +kernel
theorem dX0_greatestLender_29 : decode cX0_greatestLender 29 = .ok (.aload_n 0, 1) := by decide +kernel
theorem dX0_greatestLender_30 : decode cX0_greatestLender 30 = .ok (.getfield 26, 3) := by decide +kernel
theorem dX0_greatestLender_33 : decode cX0_greatestLender 33 = .ok (.iload_n 1, 1) := by decide +kernel
theorem dX0_greatestLender_34 : decode cX0_greatestLender 34 = .ok (.aaload, 1) := by decide +kernel
theorem dX0_greatestLender_35 : decode cX0_greatestLender 35 = .ok (.iload_n 2, 1) := by decide +kernel
theorem dX0_greatestLender_36 : decode cX0_greatestLender 36 = .ok (.iaload, 1) := by decide +kernel
theorem dX0_greatestLender_37 : decode cX0_greatestLender 37 = .ok (.if_icmp .le 5, 3) := by decide +kernel
theorem dX0_greatestLender_40 : decode cX0_greatestLender 40 = .ok (.iload_n 3, 1) := by decide +kernel
theorem dX0_greatestLender_41 : decode cX0_greatestLender 41 = .ok (.istore_n 2, 1) := by decide +kernel
theorem dX0_greatestLender_42 : decode cX0_greatestLender 42 = .ok (.iinc 3 1, 3) := by decide +kernel
theorem dX0_greatestLender_45 : decode cX0_greatestLender 45 = .ok (.goto (-41), 3) := by decide +kernel
theorem dX0_greatestLender_48 : decode cX0_greatestLender 48 = .ok (.iload_n 2, 1) := by decide +kernel
theorem dX0_greatestLender_49 : decode cX0_greatestLender 49 = .ok (.ireturn, 1) := by decide +kernel
theorem dX0_idlestBut_0 : decode cX0_idlestBut 0 = .ok (.iconst (-1), 1) := by decide +kernel
theorem dX0_idlestBut_1 : decode cX0_idlestBut 1 = .ok (.istore_n 3, 1) := by decide +kernel
theorem dX0_idlestBut_2 : decode cX0_idlestBut 2 = .ok (.iconst 0, 1) := by decide +kernel
theorem dX0_idlestBut_3 : decode cX0_idlestBut 3 = .ok (.istore 4, 2) := by decide +kernel
theorem dX0_idlestBut_5 : decode cX0_idlestBut 5 = .ok (.iconst 0, 1) := by decide +kernel
theorem dX0_idlestBut_6 : decode cX0_idlestBut 6 = .ok (.istore 5, 2) := by decide +kernel
theorem dX0_idlestBut_8 : decode cX0_idlestBut 8 = .ok (.iload 5, 2) := by decide +kernel
theorem dX0_idlestBut_10 : decode cX0_idlestBut 10 = .ok (.aload_n 0, 1) := by decide +kernel
theorem dX0_idlestBut_11 : decode cX0_idlestBut 11 = .ok (.getfield 41, 3) := by decide +kernel
theorem dX0_idlestBut_14 : decode cX0_idlestBut 14 = .ok (.if_icmp .ge 43, 3) := by decide +kernel
theorem dX0_idlestBut_17 : decode cX0_idlestBut 17 = .ok (.aload_n 0, 1) := by decide +kernel
theorem dX0_idlestBut_18 : decode cX0_idlestBut 18 = .ok (.iload 5, 2) := by decide +kernel
theorem dX0_idlestBut_20 : decode cX0_idlestBut 20 = .ok (.invokevirtual 80, 3) := by decide +kernel
theorem dX0_idlestBut_23 : decode cX0_idlestBut 23 = .ok (.istore 6, 2) := by decide +kernel
theorem dX0_idlestBut_25 : decode cX0_idlestBut 25 = .ok (.iload 5, 2) := by decide +kernel
theorem dX0_idlestBut_27 : decode cX0_idlestBut 27 = .ok (.iload_n 1, 1) := by decide +kernel
theorem dX0_idlestBut_28 : decode cX0_idlestBut 28 = .ok (.if_icmp .eq 23, 3) := by decide +kernel
theorem dX0_idlestBut_31 : decode cX0_idlestBut 31 = .ok (.iload 5, 2) := by decide +kernel
theorem dX0_idlestBut_33 : decode cX0_idlestBut 33 = .ok (.iload_n 2, 1) := by decide +kernel
theorem dX0_idlestBut_34 : decode cX0_idlestBut 34 = .ok (.if_icmp .eq 17, 3) := by decide +kernel
theorem dX0_idlestBut_37 : decode cX0_idlestBut 37 = .ok (.iload 6, 2) := by decide +kernel
theorem dX0_idlestBut_39 : decode cX0_idlestBut 39 = .ok (.iload 4, 2) := by decide +kernel
theorem dX0_idlestBut_41 : decode cX0_idlestBut 41 = .ok (.if_icmp .le 10, 3) := by decide +kernel
theorem dX0_idlestBut_44 : decode cX0_idlestBut 44 = .ok (.iload 5, 2) := by decide +kernel
theorem dX0_idlestBut_46 : decode cX0_idlestBut 46 = .ok (.istore_n 3, 1) := by decide +kernel
theorem dX0_idlestBut_47 : decode cX0_idlestBut 47 = .ok (.iload 6, 2) := by decide +kernel
theorem dX0_idlestBut_49 : decode cX0_idlestBut 49 = .ok (.istore 4, 2) := by decide +kernel
theorem dX0_idlestBut_51 : decode cX0_idlestBut 51 = .ok (.iinc 5 1, 3) := by decide +kernel
theorem dX0_idlestBut_54 : decode cX0_idlestBut 54 = .ok (.goto (-46), 3) := by decide +kernel
theorem dX0_idlestBut_57 : decode cX0_idlestBut 57 = .ok (.iload_n 3, 1) := by decide +kernel
theorem dX0_idlestBut_58 : decode cX0_idlestBut 58 = .ok (.ireturn, 1) := by decide +kernel
theorem dX1_init_0 : decode cX1_init 0 = .ok (.aload_n 0, 1) := by decide +kernel
theorem dX1_init_1 : decode cX1_init 1 = .ok (.invokespecial 3, 3) := by decide +kernel
theorem dX1_init_4 : decode cX1_init 4 = .ok (.aload_n 0, 1) := by decide +kernel
theorem dX1_init_5 : decode cX1_init 5 = .ok (.bipush 14, 2) := by decide +kernel
theorem dX1_init_7 : decode cX1_init 7 = .ok (.anewarray 9, 3) := by decide +kernel
theorem dX1_init_10 : decode cX1_init 10 = .ok (.putfield 11, 3) := by decide +kernel
theorem dX1_init_13 : decode cX1_init 13 = .ok (.iconst 0, 1) := by decide +kernel
theorem dX1_init_14 : decode cX1_init 14 = .ok (.istore_n 1, 1) := by decide +kernel
theorem dX1_init_15 : decode cX1_init 15 = .ok (.iload_n 1, 1) := by decide +kernel
theorem dX1_init_16 : decode cX1_init 16 = .ok (.bipush 14, 2) := by decide +kernel
theorem dX1_init_18 : decode cX1_init 18 = .ok (.if_icmp .ge 22, 3) := by decide +kernel
theorem dX1_init_21 : decode cX1_init 21 = .ok (.aload_n 0, 1) := by decide +kernel
theorem dX1_init_22 : decode cX1_init 22 = .ok (.getfield 11, 3) := by decide +kernel
theorem dX1_init_25 : decode cX1_init 25 = .ok (.iload_n 1, 1) := by decide +kernel
theorem dX1_init_26 : decode cX1_init 26 = .ok (.new 9, 3) := by decide +kernel
theorem dX1_init_29 : decode cX1_init 29 = .ok (.dup, 1) := by decide +kernel
theorem dX1_init_30 : decode cX1_init 30 = .ok (.invokespecial 17, 3) := by decide +kernel
theorem dX1_init_33 : decode cX1_init 33 = .ok (.aastore, 1) := by decide +kernel
theorem dX1_init_34 : decode cX1_init 34 = .ok (.iinc 1 1, 3) := by decide +kernel
theorem dX1_init_37 : decode cX1_init 37 = .ok (.goto (-22), 3) := by decide +kernel
theorem dX1_init_40 : decode cX1_init 40 = .ok (.return_, 1) := by decide +kernel
theorem dX1_isEmpty_0 : decode cX1_isEmpty 0 = .ok (.aload_n 0, 1) := by decide +kernel
theorem dX1_isEmpty_1 : decode cX1_isEmpty 1 = .ok (.getfield 18, 3) := by decide +kernel
theorem dX1_isEmpty_4 : decode cX1_isEmpty 4 = .ok (.ifCond .ne 7, 3) := by decide +kernel
theorem dX1_isEmpty_7 : decode cX1_isEmpty 7 = .ok (.iconst 1, 1) := by decide +kernel
theorem dX1_isEmpty_8 : decode cX1_isEmpty 8 = .ok (.goto 4, 3) := by decide +kernel
theorem dX1_isEmpty_11 : decode cX1_isEmpty 11 = .ok (.iconst 0, 1) := by decide +kernel
theorem dX1_isEmpty_12 : decode cX1_isEmpty 12 = .ok (.ireturn, 1) := by decide +kernel
theorem dX1_forgetAll_0 : decode cX1_forgetAll 0 = .ok (.aload_n 0, 1) := by decide +kernel
theorem dX1_forgetAll_1 : decode cX1_forgetAll 1 = .ok (.iconst 0, 1) := by decide +kernel
theorem dX1_forgetAll_2 : decode cX1_forgetAll 2 = .ok (.putfield 18, 3) := by decide +kernel
theorem dX1_forgetAll_5 : decode cX1_forgetAll 5 = .ok (.return_, 1) := by decide +kernel
theorem dX1_remember_0 : decode cX1_remember 0 = .ok (.aload_n 0, 1) := by decide +kernel
theorem dX1_remember_1 : decode cX1_remember 1 = .ok (.getfield 18, 3) := by decide +kernel
theorem dX1_remember_4 : decode cX1_remember 4 = .ok (.bipush 14, 2) := by decide +kernel
theorem dX1_remember_6 : decode cX1_remember 6 = .ok (.if_icmp .ne 26, 3) := by decide +kernel
theorem dX1_remember_9 : decode cX1_remember 9 = .ok (.aload_n 0, 1) := by decide +kernel
theorem dX1_remember_10 : decode cX1_remember 10 = .ok (.aload_n 0, 1) := by decide +kernel
theorem dX1_remember_11 : decode cX1_remember 11 = .ok (.getfield 22, 3) := by decide +kernel
theorem dX1_remember_14 : decode cX1_remember 14 = .ok (.iconst 1, 1) := by decide +kernel
theorem dX1_remember_15 : decode cX1_remember 15 = .ok (.iadd, 1) := by decide +kernel
theorem dX1_remember_16 : decode cX1_remember 16 = .ok (.bipush 14, 2) := by decide +kernel
theorem dX1_remember_18 : decode cX1_remember 18 = .ok (.irem, 1) := by decide +kernel
theorem dX1_remember_19 : decode cX1_remember 19 = .ok (.putfield 22, 3) := by decide +kernel
theorem dX1_remember_22 : decode cX1_remember 22 = .ok (.aload_n 0, 1) := by decide +kernel
theorem dX1_remember_23 : decode cX1_remember 23 = .ok (.dup, 1) := by decide +kernel
theorem dX1_remember_24 : decode cX1_remember 24 = .ok (.getfield 18, 3) := by decide +kernel
theorem dX1_remember_27 : decode cX1_remember 27 = .ok (.iconst 1, 1) := by decide +kernel
theorem dX1_remember_28 : decode cX1_remember 28 = .ok (.isub, 1) := by decide +kernel
theorem dX1_remember_29 : decode cX1_remember 29 = .ok (.putfield 18, 3) := by decide +kernel
theorem dX1_remember_32 : decode cX1_remember 32 = .ok (.aload_n 0, 1) := by decide +kernel
theorem dX1_remember_33 : decode cX1_remember 33 = .ok (.getfield 11, 3) := by decide +kernel
theorem dX1_remember_36 : decode cX1_remember 36 = .ok (.aload_n 0, 1) := by decide +kernel
theorem dX1_remember_37 : decode cX1_remember 37 = .ok (.getfield 22, 3) := by decide +kernel
theorem dX1_remember_40 : decode cX1_remember 40 = .ok (.aload_n 0, 1) := by decide +kernel
theorem dX1_remember_41 : decode cX1_remember 41 = .ok (.getfield 18, 3) := by decide +kernel
theorem dX1_remember_44 : decode cX1_remember 44 = .ok (.iadd, 1) := by decide +kernel
theorem dX1_remember_45 : decode cX1_remember 45 = .ok (.bipush 14, 2) := by decide +kernel
theorem dX1_remember_47 : decode cX1_remember 47 = .ok (.irem, 1) := by decide +kernel
theorem dX1_remember_48 : decode cX1_remember 48 = .ok (.aaload, 1) := by decide +kernel
theorem dX1_remember_49 : decode cX1_remember 49 = .ok (.aload_n 1, 1) := by decide +kernel
theorem dX1_remember_50 : decode cX1_remember 50 = .ok (.invokevirtual 25, 3) := by decide +kernel
theorem dX1_remember_53 : decode cX1_remember 53 = .ok (.aload_n 0, 1) := by decide +kernel
theorem dX1_remember_54 : decode cX1_remember 54 = .ok (.dup, 1) := by decide +kernel
theorem dX1_remember_55 : decode cX1_remember 55 = .ok (.getfield 18, 3) := by decide +kernel
theorem dX1_remember_58 : decode cX1_remember 58 = .ok (.iconst 1, 1) := by decide +kernel
theorem dX1_remember_59 : decode cX1_remember 59 = .ok (.iadd, 1) := by decide +kernel
theorem dX1_remember_60 : decode cX1_remember 60 = .ok (.putfield 18, 3) := by decide +kernel
theorem dX1_remember_63 : decode cX1_remember 63 = .ok (.return_, 1) := by decide +kernel
theorem dX1_takeBack_0 : decode cX1_takeBack 0 = .ok (.aload_n 0, 1) := by decide +kernel
theorem dX1_takeBack_1 : decode cX1_takeBack 1 = .ok (.getfield 18, 3) := by decide +kernel
theorem dX1_takeBack_4 : decode cX1_takeBack 4 = .ok (.ifCond .le 34, 3) := by decide +kernel
theorem dX1_takeBack_7 : decode cX1_takeBack 7 = .ok (.aload_n 0, 1) := by decide +kernel
theorem dX1_takeBack_8 : decode cX1_takeBack 8 = .ok (.dup, 1) := by decide +kernel
theorem dX1_takeBack_9 : decode cX1_takeBack 9 = .ok (.getfield 18, 3) := by decide +kernel
theorem dX1_takeBack_12 : decode cX1_takeBack 12 = .ok (.iconst 1, 1) := by decide +kernel
theorem dX1_takeBack_13 : decode cX1_takeBack 13 = .ok (.isub, 1) := by decide +kernel
theorem dX1_takeBack_14 : decode cX1_takeBack 14 = .ok (.putfield 18, 3) := by decide +kernel
theorem dX1_takeBack_17 : decode cX1_takeBack 17 = .ok (.aload_n 1, 1) := by decide +kernel
theorem dX1_takeBack_18 : decode cX1_takeBack 18 = .ok (.aload_n 0, 1) := by decide +kernel
theorem dX1_takeBack_19 : decode cX1_takeBack 19 = .ok (.getfield 11, 3) := by decide +kernel
theorem dX1_takeBack_22 : decode cX1_takeBack 22 = .ok (.aload_n 0, 1) := by decide +kernel
theorem dX1_takeBack_23 : decode cX1_takeBack 23 = .ok (.getfield 22, 3) := by decide +kernel
theorem dX1_takeBack_26 : decode cX1_takeBack 26 = .ok (.aload_n 0, 1) := by decide +kernel
theorem dX1_takeBack_27 : decode cX1_takeBack 27 = .ok (.getfield 18, 3) := by decide +kernel
theorem dX1_takeBack_30 : decode cX1_takeBack 30 = .ok (.iadd, 1) := by decide +kernel
theorem dX1_takeBack_31 : decode cX1_takeBack 31 = .ok (.bipush 14, 2) := by decide +kernel
theorem dX1_takeBack_33 : decode cX1_takeBack 33 = .ok (.irem, 1) := by decide +kernel
theorem dX1_takeBack_34 : decode cX1_takeBack 34 = .ok (.aaload, 1) := by decide +kernel
theorem dX1_takeBack_35 : decode cX1_takeBack 35 = .ok (.invokevirtual 25, 3) := by decide +kernel
theorem dX1_takeBack_38 : decode cX1_takeBack 38 = .ok (.aload_n 0, 1) := by decide +kernel
theorem dX1_takeBack_39 : decode cX1_takeBack 39 = .ok (.getfield 18, 3) := by decide +kernel
theorem dX1_takeBack_42 : decode cX1_takeBack 42 = .ok (.ireturn, 1) := by decide +kernel
theorem dX2_init_0 : decode cX2_init 0 = .ok (.aload_n 0, 1) := by decide +kernel
theorem dX2_init_1 : decode cX2_init 1 = .ok (.invokespecial 3, 3) := by decide +kernel
theorem dX2_init_4 : decode cX2_init 4 = .ok (.aload_n 0, 1) := by decide +kernel
theorem dX2_init_5 : decode cX2_init 5 = .ok (.bipush 120, 2) := by decide +kernel
theorem dX2_init_7 : decode cX2_init 7 = .ok (.newarray .char, 2) := by decide +kernel
theorem dX2_init_9 : decode cX2_init 9 = .ok (.putfield 9, 3) := by decide +kernel
theorem dX2_init_12 : decode cX2_init 12 = .ok (.return_, 1) := by decide +kernel
theorem dX2_isFull_0 : decode cX2_isFull 0 = .ok (.aload_n 0, 1) := by decide +kernel
theorem dX2_isFull_1 : decode cX2_isFull 1 = .ok (.getfield 15, 3) := by decide +kernel
theorem dX2_isFull_4 : decode cX2_isFull 4 = .ok (.bipush 120, 2) := by decide +kernel
theorem dX2_isFull_6 : decode cX2_isFull 6 = .ok (.if_icmp .lt 7, 3) := by decide +kernel
theorem dX2_isFull_9 : decode cX2_isFull 9 = .ok (.iconst 1, 1) := by decide +kernel
theorem dX2_isFull_10 : decode cX2_isFull 10 = .ok (.goto 4, 3) := by decide +kernel
theorem dX2_isFull_13 : decode cX2_isFull 13 = .ok (.iconst 0, 1) := by decide +kernel
theorem dX2_isFull_14 : decode cX2_isFull 14 = .ok (.ireturn, 1) := by decide +kernel
theorem dX2_add_0 : decode cX2_add 0 = .ok (.aload_n 0, 1) := by decide +kernel
theorem dX2_add_1 : decode cX2_add 1 = .ok (.invokevirtual 19, 3) := by decide +kernel
theorem dX2_add_4 : decode cX2_add 4 = .ok (.ifCond .ne 23, 3) := by decide +kernel
theorem dX2_add_7 : decode cX2_add 7 = .ok (.aload_n 0, 1) := by decide +kernel
theorem dX2_add_8 : decode cX2_add 8 = .ok (.getfield 9, 3) := by decide +kernel
theorem dX2_add_11 : decode cX2_add 11 = .ok (.aload_n 0, 1) := by decide +kernel
theorem dX2_add_12 : decode cX2_add 12 = .ok (.getfield 15, 3) := by decide +kernel
theorem dX2_add_15 : decode cX2_add 15 = .ok (.iload_n 1, 1) := by decide +kernel
theorem dX2_add_16 : decode cX2_add 16 = .ok (.castore, 1) := by decide +kernel
theorem dX2_add_17 : decode cX2_add 17 = .ok (.aload_n 0, 1) := by decide +kernel
theorem dX2_add_18 : decode cX2_add 18 = .ok (.dup, 1) := by decide +kernel
theorem dX2_add_19 : decode cX2_add 19 = .ok (.getfield 15, 3) := by decide +kernel
theorem dX2_add_22 : decode cX2_add 22 = .ok (.iconst 1, 1) := by decide +kernel
theorem dX2_add_23 : decode cX2_add 23 = .ok (.iadd, 1) := by decide +kernel
theorem dX2_add_24 : decode cX2_add 24 = .ok (.putfield 15, 3) := by decide +kernel
theorem dX2_add_27 : decode cX2_add 27 = .ok (.aload_n 0, 1) := by decide +kernel
theorem dX2_add_28 : decode cX2_add 28 = .ok (.getfield 15, 3) := by decide +kernel
theorem dX2_add_31 : decode cX2_add 31 = .ok (.ireturn, 1) := by decide +kernel
theorem dX2_sign_0 : decode cX2_sign 0 = .ok (.iload_n 1, 1) := by decide +kernel
theorem dX2_sign_1 : decode cX2_sign 1 = .ok (.ifCond .lt 20, 3) := by decide +kernel
theorem dX2_sign_4 : decode cX2_sign 4 = .ok (.iload_n 1, 1) := by decide +kernel
theorem dX2_sign_5 : decode cX2_sign 5 = .ok (.aload_n 0, 1) := by decide +kernel
theorem dX2_sign_6 : decode cX2_sign 6 = .ok (.getfield 15, 3) := by decide +kernel
theorem dX2_sign_9 : decode cX2_sign 9 = .ok (.if_icmp .ge 12, 3) := by decide +kernel
theorem dX2_sign_12 : decode cX2_sign 12 = .ok (.aload_n 0, 1) := by decide +kernel
theorem dX2_sign_13 : decode cX2_sign 13 = .ok (.getfield 9, 3) := by decide +kernel
theorem dX2_sign_16 : decode cX2_sign 16 = .ok (.iload_n 1, 1) := by decide +kernel
theorem dX2_sign_17 : decode cX2_sign 17 = .ok (.caload, 1) := by decide +kernel
theorem dX2_sign_18 : decode cX2_sign 18 = .ok (.goto 5, 3) := by decide +kernel
theorem dX2_sign_21 : decode cX2_sign 21 = .ok (.bipush 32, 2) := by decide +kernel
theorem dX2_sign_23 : decode cX2_sign 23 = .ok (.ireturn, 1) := by decide +kernel
theorem dX2_isDigit_0 : decode cX2_isDigit 0 = .ok (.aload_n 0, 1) := by decide +kernel
theorem dX2_isDigit_1 : decode cX2_isDigit 1 = .ok (.iload_n 1, 1) := by decide +kernel
theorem dX2_isDigit_2 : decode cX2_isDigit 2 = .ok (.invokevirtual 23, 3) := by decide +kernel
theorem dX2_isDigit_5 : decode cX2_isDigit 5 = .ok (.bipush 48, 2) := by decide +kernel
theorem dX2_isDigit_7 : decode cX2_isDigit 7 = .ok (.if_icmp .lt 17, 3) := by decide +kernel
theorem dX2_isDigit_10 : decode cX2_isDigit 10 = .ok (.aload_n 0, 1) := by decide +kernel
theorem dX2_isDigit_11 : decode cX2_isDigit 11 = .ok (.iload_n 1, 1) := by decide +kernel
theorem dX2_isDigit_12 : decode cX2_isDigit 12 = .ok (.invokevirtual 23, 3) := by decide +kernel
theorem dX2_isDigit_15 : decode cX2_isDigit 15 = .ok (.bipush 57, 2) := by decide +kernel
theorem dX2_isDigit_17 : decode cX2_isDigit 17 = .ok (.if_icmp .gt 7, 3) := by decide +kernel
theorem dX2_isDigit_20 : decode cX2_isDigit 20 = .ok (.iconst 1, 1) := by decide +kernel
theorem dX2_isDigit_21 : decode cX2_isDigit 21 = .ok (.goto 4, 3) := by decide +kernel
theorem dX2_isDigit_24 : decode cX2_isDigit 24 = .ok (.iconst 0, 1) := by decide +kernel
theorem dX2_isDigit_25 : decode cX2_isDigit 25 = .ok (.ireturn, 1) := by decide +kernel
theorem dX2_number_0 : decode cX2_number 0 = .ok (.iconst 0, 1) := by decide +kernel
theorem dX2_number_1 : decode cX2_number 1 = .ok (.istore_n 3, 1) := by decide +kernel
theorem dX2_number_2 : decode cX2_number 2 = .ok (.iconst 0, 1) := by decide +kernel
theorem dX2_number_3 : decode cX2_number 3 = .ok (.istore 4, 2) := by decide +kernel
theorem dX2_number_5 : decode cX2_number 5 = .ok (.iload 4, 2) := by decide +kernel
theorem dX2_number_7 : decode cX2_number 7 = .ok (.iload_n 2, 1) := by decide +kernel
theorem dX2_number_8 : decode cX2_number 8 = .ok (.if_icmp .ge 37, 3) := by decide +kernel
theorem dX2_number_11 : decode cX2_number 11 = .ok (.aload_n 0, 1) := by decide +kernel
theorem dX2_number_12 : decode cX2_number 12 = .ok (.iload_n 1, 1) := by decide +kernel
theorem dX2_number_13 : decode cX2_number 13 = .ok (.iload 4, 2) := by decide +kernel
theorem dX2_number_15 : decode cX2_number 15 = .ok (.iadd, 1) := by decide +kernel
theorem dX2_number_16 : decode cX2_number 16 = .ok (.invokevirtual 27, 3) := by decide +kernel
theorem dX2_number_19 : decode cX2_number 19 = .ok (.ifCond .eq 20, 3) := by decide +kernel
theorem dX2_number_22 : decode cX2_number 22 = .ok (.bipush 10, 2) := by decide +kernel
theorem dX2_number_24 : decode cX2_number 24 = .ok (.iload_n 3, 1) := by decide +kernel
theorem dX2_number_25 : decode cX2_number 25 = .ok (.imul, 1) := by decide +kernel
theorem dX2_number_26 : decode cX2_number 26 = .ok (.aload_n 0, 1) := by decide +kernel
theorem dX2_number_27 : decode cX2_number 27 = .ok (.iload_n 1, 1) := by decide +kernel
theorem dX2_number_28 : decode cX2_number 28 = .ok (.iload 4, 2) := by decide +kernel
theorem dX2_number_30 : decode cX2_number 30 = .ok (.iadd, 1) := by decide +kernel
theorem dX2_number_31 : decode cX2_number 31 = .ok (.invokevirtual 23, 3) := by decide +kernel
theorem dX2_number_34 : decode cX2_number 34 = .ok (.iadd, 1) := by decide +kernel
theorem dX2_number_35 : decode cX2_number 35 = .ok (.bipush 48, 2) := by decide +kernel
theorem dX2_number_37 : decode cX2_number 37 = .ok (.isub, 1) := by decide +kernel
theorem dX2_number_38 : decode cX2_number 38 = .ok (.istore_n 3, 1) := by decide +kernel
theorem dX2_number_39 : decode cX2_number 39 = .ok (.iinc 4 1, 3) := by decide +kernel
theorem dX2_number_42 : decode cX2_number 42 = .ok (.goto (-37), 3) := by decide +kernel
theorem dX2_number_45 : decode cX2_number 45 = .ok (.iload_n 3, 1) := by decide +kernel
theorem dX2_number_46 : decode cX2_number 46 = .ok (.ireturn, 1) := by decide +kernel
theorem dX2_firstError_0 : decode cX2_firstError 0 = .ok (.ldc 31, 2) := by decide +kernel
theorem dX2_firstError_2 : decode cX2_firstError 2 = .ok (.astore_n 1, 1) := by decide +kernel
theorem dX2_firstError_3 : decode cX2_firstError 3 = .ok (.iconst 0, 1) := by decide +kernel
theorem dX2_firstError_4 : decode cX2_firstError 4 = .ok (.istore_n 2, 1) := by decide +kernel
theorem dX2_firstError_5 : decode cX2_firstError 5 = .ok (.iconst 0, 1) := by decide +kernel
theorem dX2_firstError_6 : decode cX2_firstError 6 = .ok (.istore_n 3, 1) := by decide +kernel
theorem dX2_firstError_7 : decode cX2_firstError 7 = .ok (.iload_n 3, 1) := by decide +kernel
theorem dX2_firstError_8 : decode cX2_firstError 8 = .ok (.aload_n 0, 1) := by decide +kernel
theorem dX2_firstError_9 : decode cX2_firstError 9 = .ok (.getfield 15, 3) := by decide +kernel
theorem dX2_firstError_12 : decode cX2_firstError 12 = .ok (.if_icmp .ge 58, 3) := by decide +kernel
theorem dX2_firstError_15 : decode cX2_firstError 15 = .ok (.iload_n 2, 1) := by decide +kernel
theorem dX2_firstError_16 : decode cX2_firstError 16 = .ok (.aload_n 1, 1) := by decide +kernel
theorem dX2_firstError_17 : decode cX2_firstError 17 = .ok (.invokevirtual 33, 3) := by decide +kernel
theorem dX2_firstError_20 : decode cX2_firstError 20 = .ok (.if_icmp .ge 24, 3) := by decide +kernel
theorem dX2_firstError_23 : decode cX2_firstError 23 = .ok (.aload_n 0, 1) := by decide +kernel
theorem dX2_firstError_24 : decode cX2_firstError 24 = .ok (.aload_n 1, 1) := by decide +kernel
theorem dX2_firstError_25 : decode cX2_firstError 25 = .ok (.iload_n 2, 1) := by decide +kernel
theorem dX2_firstError_26 : decode cX2_firstError 26 = .ok (.invokevirtual 38, 3) := by decide +kernel
theorem dX2_firstError_29 : decode cX2_firstError 29 = .ok (.iload_n 3, 1) := by decide +kernel
theorem dX2_firstError_30 : decode cX2_firstError 30 = .ok (.invokevirtual 41, 3) := by decide +kernel
theorem dX2_firstError_33 : decode cX2_firstError 33 = .ok (.ifCond .ne 5, 3) := by decide +kernel
theorem dX2_firstError_36 : decode cX2_firstError 36 = .ok (.iload_n 3, 1) := by decide +kernel
theorem dX2_firstError_37 : decode cX2_firstError 37 = .ok (.ireturn, 1) := by decide +kernel
theorem dX2_firstError_38 : decode cX2_firstError 38 = .ok (.iinc 2 1, 3) := by decide +kernel
theorem dX2_firstError_41 : decode cX2_firstError 41 = .ok (.goto 23, 3) := by decide +kernel
theorem dX2_firstError_44 : decode cX2_firstError 44 = .ok (.aload_n 0, 1) := by decide +kernel
theorem dX2_firstError_45 : decode cX2_firstError 45 = .ok (.iload_n 3, 1) := by decide +kernel
theorem dX2_firstError_46 : decode cX2_firstError 46 = .ok (.invokevirtual 23, 3) := by decide +kernel
theorem dX2_firstError_49 : decode cX2_firstError 49 = .ok (.invokestatic 45, 3) := by decide +kernel
theorem dX2_firstError_52 : decode cX2_firstError 52 = .ok (.astore_n 1, 1) := by decide +kernel
theorem dX2_firstError_53 : decode cX2_firstError 53 = .ok (.iconst 0, 1) := by decide +kernel
theorem dX2_firstError_54 : decode cX2_firstError 54 = .ok (.istore_n 2, 1) := by decide +kernel
theorem dX2_firstError_55 : decode cX2_firstError 55 = .ok (.aload_n 1, 1) := by decide +kernel
theorem dX2_firstError_56 : decode cX2_firstError 56 = .ok (.invokevirtual 49, 3) := by decide +kernel
theorem dX2_firstError_59 : decode cX2_firstError 59 = .ok (.ifCond .eq 5, 3) := by decide +kernel
theorem dX2_firstError_62 : decode cX2_firstError 62 = .ok (.iload_n 3, 1) := by decide +kernel
theorem dX2_firstError_63 : decode cX2_firstError 63 = .ok (.ireturn, 1) := by decide +kernel
theorem dX2_firstError_64 : decode cX2_firstError 64 = .ok (.iinc 3 1, 3) := by decide +kernel
theorem dX2_firstError_67 : decode cX2_firstError 67 = .ok (.goto (-60), 3) := by decide +kernel
theorem dX2_firstError_70 : decode cX2_firstError 70 = .ok (.iload_n 2, 1) := by decide +kernel
theorem dX2_firstError_71 : decode cX2_firstError 71 = .ok (.aload_n 1, 1) := by decide +kernel
theorem dX2_firstError_72 : decode cX2_firstError 72 = .ok (.invokevirtual 33, 3) := by decide +kernel
theorem dX2_firstError_75 : decode cX2_firstError 75 = .ok (.if_icmp .ge 10, 3) := by decide +kernel
theorem dX2_firstError_78 : decode cX2_firstError 78 = .ok (.aload_n 0, 1) := by decide +kernel
theorem dX2_firstError_79 : decode cX2_firstError 79 = .ok (.getfield 15, 3) := by decide +kernel
theorem dX2_firstError_82 : decode cX2_firstError 82 = .ok (.goto 4, 3) := by decide +kernel
theorem dX2_firstError_85 : decode cX2_firstError 85 = .ok (.iconst (-1), 1) := by decide +kernel
theorem dX2_firstError_86 : decode cX2_firstError 86 = .ok (.ireturn, 1) := by decide +kernel
theorem dX2_placesBehind_0 : decode cX2_placesBehind 0 = .ok (.iload_n 0, 1) := by decide +kernel
theorem dX2_placesBehind_1 : decode cX2_placesBehind 1 = .ok (.lookupswitch 63 #[(102, 57), (114, 60), (115, 51), (116, 54), (119, 54)], 51) := by decide +kernel
theorem dX2_placesBehind_52 : decode cX2_placesBehind 52 = .ok (.ldc 52, 2) := by decide +kernel
theorem dX2_placesBehind_54 : decode cX2_placesBehind 54 = .ok (.areturn, 1) := by decide +kernel
theorem dX2_placesBehind_55 : decode cX2_placesBehind 55 = .ok (.ldc 54, 2) := by decide +kernel
theorem dX2_placesBehind_57 : decode cX2_placesBehind 57 = .ok (.areturn, 1) := by decide +kernel
theorem dX2_placesBehind_58 : decode cX2_placesBehind 58 = .ok (.ldc 56, 2) := by decide +kernel
theorem dX2_placesBehind_60 : decode cX2_placesBehind 60 = .ok (.areturn, 1) := by decide +kernel
theorem dX2_placesBehind_61 : decode cX2_placesBehind 61 = .ok (.ldc 58, 2) := by decide +kernel
theorem dX2_placesBehind_63 : decode cX2_placesBehind 63 = .ok (.areturn, 1) := by decide +kernel
theorem dX2_placesBehind_64 : decode cX2_placesBehind 64 = .ok (.ldc 60, 2) := by decide +kernel
theorem dX2_placesBehind_66 : decode cX2_placesBehind 66 = .ok (.areturn, 1) := by decide +kernel
theorem dX2_fits_0 : decode cX2_fits 0 = .ok (.iload_n 1, 1) := by decide +kernel
theorem dX2_fits_1 : decode cX2_fits 1 = .ok (.bipush 68, 2) := by decide +kernel
theorem dX2_fits_3 : decode cX2_fits 3 = .ok (.if_icmp .ne 19, 3) := by decide +kernel
theorem dX2_fits_6 : decode cX2_fits 6 = .ok (.aload_n 0, 1) := by decide +kernel
theorem dX2_fits_7 : decode cX2_fits 7 = .ok (.iload_n 2, 1) := by decide +kernel
theorem dX2_fits_8 : decode cX2_fits 8 = .ok (.invokevirtual 23, 3) := by decide +kernel
theorem dX2_fits_11 : decode cX2_fits 11 = .ok (.bipush 68, 2) := by decide +kernel
theorem dX2_fits_13 : decode cX2_fits 13 = .ok (.if_icmp .ne 7, 3) := by decide +kernel
theorem dX2_fits_16 : decode cX2_fits 16 = .ok (.iconst 1, 1) := by decide +kernel
theorem dX2_fits_17 : decode cX2_fits 17 = .ok (.goto 4, 3) := by decide +kernel
theorem dX2_fits_20 : decode cX2_fits 20 = .ok (.iconst 0, 1) := by decide +kernel
theorem dX2_fits_21 : decode cX2_fits 21 = .ok (.ireturn, 1) := by decide +kernel
theorem dX2_fits_22 : decode cX2_fits 22 = .ok (.aload_n 0, 1) := by decide +kernel
theorem dX2_fits_23 : decode cX2_fits 23 = .ok (.iload_n 2, 1) := by decide +kernel
theorem dX2_fits_24 : decode cX2_fits 24 = .ok (.invokevirtual 27, 3) := by decide +kernel
theorem dX2_fits_27 : decode cX2_fits 27 = .ok (.ifCond .ne 5, 3) := by decide +kernel
theorem dX2_fits_30 : decode cX2_fits 30 = .ok (.iconst 0, 1) := by decide +kernel
theorem dX2_fits_31 : decode cX2_fits 31 = .ok (.ireturn, 1) := by decide +kernel
theorem dX2_fits_32 : decode cX2_fits 32 = .ok (.aload_n 0, 1) := by decide +kernel
theorem dX2_fits_33 : decode cX2_fits 33 = .ok (.iload_n 2, 1) := by decide +kernel
theorem dX2_fits_34 : decode cX2_fits 34 = .ok (.iconst 1, 1) := by decide +kernel
theorem dX2_fits_35 : decode cX2_fits 35 = .ok (.invokevirtual 62, 3) := by decide +kernel
theorem dX2_fits_38 : decode cX2_fits 38 = .ok (.istore_n 3, 1) := by decide +kernel
theorem dX2_fits_39 : decode cX2_fits 39 = .ok (.iload_n 1, 1) := by decide +kernel
theorem dX2_fits_40 : decode cX2_fits 40 = .ok (.lookupswitch 147 #[(80, 63), (83, 52), (99, 97), (102, 128), (112, 78)], 52) := by decide +kernel
theorem dX2_fits_92 : decode cX2_fits 92 = .ok (.iload_n 3, 1) := by decide +kernel
theorem dX2_fits_93 : decode cX2_fits 93 = .ok (.iconst 5, 1) := by decide +kernel
theorem dX2_fits_94 : decode cX2_fits 94 = .ok (.if_icmp .ge 7, 3) := by decide +kernel
theorem dX2_fits_97 : decode cX2_fits 97 = .ok (.iconst 1, 1) := by decide +kernel
theorem dX2_fits_98 : decode cX2_fits 98 = .ok (.goto 4, 3) := by decide +kernel
theorem dX2_fits_101 : decode cX2_fits 101 = .ok (.iconst 0, 1) := by decide +kernel
theorem dX2_fits_102 : decode cX2_fits 102 = .ok (.ireturn, 1) := by decide +kernel
theorem dX2_fits_103 : decode cX2_fits 103 = .ok (.bipush 10, 2) := by decide +kernel
theorem dX2_fits_105 : decode cX2_fits 105 = .ok (.iload_n 3, 1) := by decide +kernel
theorem dX2_fits_106 : decode cX2_fits 106 = .ok (.imul, 1) := by decide +kernel
theorem dX2_fits_107 : decode cX2_fits 107 = .ok (.bipush 40, 2) := by decide +kernel
theorem dX2_fits_109 : decode cX2_fits 109 = .ok (.if_icmp .ge 7, 3) := by decide +kernel
theorem dX2_fits_112 : decode cX2_fits 112 = .ok (.iconst 1, 1) := by decide +kernel
theorem dX2_fits_113 : decode cX2_fits 113 = .ok (.goto 4, 3) := by decide +kernel
theorem dX2_fits_116 : decode cX2_fits 116 = .ok (.iconst 0, 1) := by decide +kernel
theorem dX2_fits_117 : decode cX2_fits 117 = .ok (.ireturn, 1) := by decide +kernel
theorem dX2_fits_118 : decode cX2_fits 118 = .ok (.aload_n 0, 1) := by decide +kernel
theorem dX2_fits_119 : decode cX2_fits 119 = .ok (.iload_n 2, 1) := by decide +kernel
theorem dX2_fits_120 : decode cX2_fits 120 = .ok (.iconst 1, 1) := by decide +kernel
theorem dX2_fits_121 : decode cX2_fits 121 = .ok (.isub, 1) := by decide +kernel
theorem dX2_fits_122 : decode cX2_fits 122 = .ok (.iconst 2, 1) := by decide +kernel
theorem dX2_fits_123 : decode cX2_fits 123 = .ok (.invokevirtual 62, 3) := by decide +kernel
theorem dX2_fits_126 : decode cX2_fits 126 = .ok (.bipush 40, 2) := by decide +kernel
theorem dX2_fits_128 : decode cX2_fits 128 = .ok (.if_icmp .ge 7, 3) := by decide +kernel
theorem dX2_fits_131 : decode cX2_fits 131 = .ok (.iconst 1, 1) := by decide +kernel
theorem dX2_fits_132 : decode cX2_fits 132 = .ok (.goto 4, 3) := by decide +kernel
theorem dX2_fits_135 : decode cX2_fits 135 = .ok (.iconst 0, 1) := by decide +kernel
theorem dX2_fits_136 : decode cX2_fits 136 = .ok (.ireturn, 1) := by decide +kernel
theorem dX2_fits_137 : decode cX2_fits 137 = .ok (.aload_n 0, 1) := by decide +kernel
theorem dX2_fits_138 : decode cX2_fits 138 = .ok (.iload_n 2, 1) := by decide +kernel
theorem dX2_fits_139 : decode cX2_fits 139 = .ok (.iconst 1, 1) := by decide +kernel
theorem dX2_fits_140 : decode cX2_fits 140 = .ok (.isub, 1) := by decide +kernel
theorem dX2_fits_141 : decode cX2_fits 141 = .ok (.iconst 2, 1) := by decide +kernel
theorem dX2_fits_142 : decode cX2_fits 142 = .ok (.invokevirtual 62, 3) := by decide +kernel
theorem dX2_fits_145 : decode cX2_fits 145 = .ok (.iconst 1, 1) := by decide +kernel
theorem dX2_fits_146 : decode cX2_fits 146 = .ok (.if_icmp .lt 20, 3) := by decide +kernel
theorem dX2_fits_149 : decode cX2_fits 149 = .ok (.aload_n 0, 1) := by decide +kernel
theorem dX2_fits_150 : decode cX2_fits 150 = .ok (.iload_n 2, 1) := by decide +kernel
theorem dX2_fits_151 : decode cX2_fits 151 = .ok (.iconst 1, 1) := by decide +kernel
theorem dX2_fits_152 : decode cX2_fits 152 = .ok (.isub, 1) := by decide +kernel
theorem dX2_fits_153 : decode cX2_fits 153 = .ok (.iconst 2, 1) := by decide +kernel
theorem dX2_fits_154 : decode cX2_fits 154 = .ok (.invokevirtual 62, 3) := by decide +kernel
theorem dX2_fits_157 : decode cX2_fits 157 = .ok (.bipush 60, 2) := by decide +kernel
theorem dX2_fits_159 : decode cX2_fits 159 = .ok (.if_icmp .gt 7, 3) := by decide +kernel
theorem dX2_fits_162 : decode cX2_fits 162 = .ok (.iconst 1, 1) := by decide +kernel
theorem dX2_fits_163 : decode cX2_fits 163 = .ok (.goto 4, 3) := by decide +kernel
theorem dX2_fits_166 : decode cX2_fits 166 = .ok (.iconst 0, 1) := by decide +kernel
theorem dX2_fits_167 : decode cX2_fits 167 = .ok (.ireturn, 1) := by decide +kernel
theorem dX2_fits_168 : decode cX2_fits 168 = .ok (.aload_n 0, 1) := by decide +kernel
theorem dX2_fits_169 : decode cX2_fits 169 = .ok (.iload_n 2, 1) := by decide +kernel
theorem dX2_fits_170 : decode cX2_fits 170 = .ok (.iconst 1, 1) := by decide +kernel
theorem dX2_fits_171 : decode cX2_fits 171 = .ok (.isub, 1) := by decide +kernel
theorem dX2_fits_172 : decode cX2_fits 172 = .ok (.iconst 2, 1) := by decide +kernel
theorem dX2_fits_173 : decode cX2_fits 173 = .ok (.invokevirtual 62, 3) := by decide +kernel
theorem dX2_fits_176 : decode cX2_fits 176 = .ok (.bipush 60, 2) := by decide +kernel
theorem dX2_fits_178 : decode cX2_fits 178 = .ok (.if_icmp .gt 7, 3) := by decide +kernel
theorem dX2_fits_181 : decode cX2_fits 181 = .ok (.iconst 1, 1) := by decide +kernel
theorem dX2_fits_182 : decode cX2_fits 182 = .ok (.goto 4, 3) := by decide +kernel
theorem dX2_fits_185 : decode cX2_fits 185 = .ok (.iconst 0, 1) := by decide +kernel
theorem dX2_fits_186 : decode cX2_fits 186 = .ok (.ireturn, 1) := by decide +kernel
theorem dX2_fits_187 : decode cX2_fits 187 = .ok (.bipush 10, 2) := by decide +kernel
theorem dX2_fits_189 : decode cX2_fits 189 = .ok (.iload_n 3, 1) := by decide +kernel
theorem dX2_fits_190 : decode cX2_fits 190 = .ok (.imul, 1) := by decide +kernel
theorem dX2_fits_191 : decode cX2_fits 191 = .ok (.bipush 60, 2) := by decide +kernel
theorem dX2_fits_193 : decode cX2_fits 193 = .ok (.if_icmp .gt 7, 3) := by decide +kernel
theorem dX2_fits_196 : decode cX2_fits 196 = .ok (.iconst 1, 1) := by decide +kernel
theorem dX2_fits_197 : decode cX2_fits 197 = .ok (.goto 4, 3) := by decide +kernel
theorem dX2_fits_200 : decode cX2_fits 200 = .ok (.iconst 0, 1) := by decide +kernel
theorem dX2_fits_201 : decode cX2_fits 201 = .ok (.ireturn, 1) := by decide +kernel
theorem dX3_init_0 : decode cX3_init 0 = .ok (.aload_n 0, 1) := by decide +kernel
theorem dX3_init_1 : decode cX3_init 1 = .ok (.invokespecial 1, 3) := by decide +kernel
theorem dX3_init_4 : decode cX3_init 4 = .ok (.aload_n 0, 1) := by decide +kernel
theorem dX3_init_5 : decode cX3_init 5 = .ok (.new 7, 3) := by decide +kernel
theorem dX3_init_8 : decode cX3_init 8 = .ok (.dup, 1) := by decide +kernel
theorem dX3_init_9 : decode cX3_init 9 = .ok (.invokespecial 9, 3) := by decide +kernel
theorem dX3_init_12 : decode cX3_init 12 = .ok (.putfield 10, 3) := by decide +kernel
theorem dX3_init_15 : decode cX3_init 15 = .ok (.aload_n 0, 1) := by decide +kernel
theorem dX3_init_16 : decode cX3_init 16 = .ok (.new 16, 3) := by decide +kernel
theorem dX3_init_19 : decode cX3_init 19 = .ok (.dup, 1) := by decide +kernel
theorem dX3_init_20 : decode cX3_init 20 = .ok (.invokespecial 18, 3) := by decide +kernel
theorem dX3_init_23 : decode cX3_init 23 = .ok (.putfield 19, 3) := by decide +kernel
theorem dX3_init_26 : decode cX3_init 26 = .ok (.aload_n 0, 1) := by decide +kernel
theorem dX3_init_27 : decode cX3_init 27 = .ok (.new 23, 3) := by decide +kernel
theorem dX3_init_30 : decode cX3_init 30 = .ok (.dup, 1) := by decide +kernel
theorem dX3_init_31 : decode cX3_init 31 = .ok (.invokespecial 25, 3) := by decide +kernel
theorem dX3_init_34 : decode cX3_init 34 = .ok (.putfield 26, 3) := by decide +kernel
theorem dX3_init_37 : decode cX3_init 37 = .ok (.aload_n 0, 1) := by decide +kernel
theorem dX3_init_38 : decode cX3_init 38 = .ok (.iconst 2, 1) := by decide +kernel
theorem dX3_init_39 : decode cX3_init 39 = .ok (.anewarray 16, 3) := by decide +kernel
theorem dX3_init_42 : decode cX3_init 42 = .ok (.putfield 30, 3) := by decide +kernel
theorem dX3_init_45 : decode cX3_init 45 = .ok (.aload_n 0, 1) := by decide +kernel
theorem dX3_init_46 : decode cX3_init 46 = .ok (.iconst 2, 1) := by decide +kernel
theorem dX3_init_47 : decode cX3_init 47 = .ok (.newarray .boolean, 2) := by decide +kernel
theorem dX3_init_49 : decode cX3_init 49 = .ok (.putfield 34, 3) := by decide +kernel
theorem dX3_init_52 : decode cX3_init 52 = .ok (.aload_n 0, 1) := by decide +kernel
theorem dX3_init_53 : decode cX3_init 53 = .ok (.new 16, 3) := by decide +kernel
theorem dX3_init_56 : decode cX3_init 56 = .ok (.dup, 1) := by decide +kernel
theorem dX3_init_57 : decode cX3_init 57 = .ok (.invokespecial 18, 3) := by decide +kernel
theorem dX3_init_60 : decode cX3_init 60 = .ok (.putfield 38, 3) := by decide +kernel
theorem dX3_init_63 : decode cX3_init 63 = .ok (.aload_n 0, 1) := by decide +kernel
theorem dX3_init_64 : decode cX3_init 64 = .ok (.new 16, 3) := by decide +kernel
theorem dX3_init_67 : decode cX3_init 67 = .ok (.dup, 1) := by decide +kernel
theorem dX3_init_68 : decode cX3_init 68 = .ok (.invokespecial 18, 3) := by decide +kernel
theorem dX3_init_71 : decode cX3_init 71 = .ok (.putfield 41, 3) := by decide +kernel
theorem dX3_init_74 : decode cX3_init 74 = .ok (.aload_n 0, 1) := by decide +kernel
theorem dX3_init_75 : decode cX3_init 75 = .ok (.new 16, 3) := by decide +kernel
theorem dX3_init_78 : decode cX3_init 78 = .ok (.dup, 1) := by decide +kernel
theorem dX3_init_79 : decode cX3_init 79 = .ok (.invokespecial 18, 3) := by decide +kernel
theorem dX3_init_82 : decode cX3_init 82 = .ok (.putfield 44, 3) := by decide +kernel
theorem dX3_init_85 : decode cX3_init 85 = .ok (.iconst 0, 1) := by decide +kernel
theorem dX3_init_86 : decode cX3_init 86 = .ok (.istore_n 1, 1) := by decide +kernel
theorem dX3_init_87 : decode cX3_init 87 = .ok (.iload_n 1, 1) := by decide +kernel
theorem dX3_init_88 : decode cX3_init 88 = .ok (.iconst 2, 1) := by decide +kernel
theorem dX3_init_89 : decode cX3_init 89 = .ok (.if_icmp .ge 22, 3) := by decide +kernel
theorem dX3_init_92 : decode cX3_init 92 = .ok (.aload_n 0, 1) := by decide +kernel
theorem dX3_init_93 : decode cX3_init 93 = .ok (.getfield 30, 3) := by decide +kernel
theorem dX3_init_96 : decode cX3_init 96 = .ok (.iload_n 1, 1) := by decide +kernel
theorem dX3_init_97 : decode cX3_init 97 = .ok (.new 16, 3) := by decide +kernel
theorem dX3_init_100 : decode cX3_init 100 = .ok (.dup, 1) := by decide +kernel
theorem dX3_init_101 : decode cX3_init 101 = .ok (.invokespecial 18, 3) := by decide +kernel
theorem dX3_init_104 : decode cX3_init 104 = .ok (.aastore, 1) := by decide +kernel
theorem dX3_init_105 : decode cX3_init 105 = .ok (.iinc 1 1, 3) := by decide +kernel
theorem dX3_init_108 : decode cX3_init 108 = .ok (.goto (-21), 3) := by decide +kernel
theorem dX3_init_111 : decode cX3_init 111 = .ok (.return_, 1) := by decide +kernel
theorem dX3_append_0 : decode cX3_append 0 = .ok (.iload_n 1, 1) := by decide +kernel
theorem dX3_append_1 : decode cX3_append 1 = .ok (.ifCond .lt 10, 3) := by decide +kernel
theorem dX3_append_4 : decode cX3_append 4 = .ok (.iload_n 1, 1) := by decide +kernel
theorem dX3_append_5 : decode cX3_append 5 = .ok (.sipush 255, 3) := by decide +kernel
theorem dX3_append_8 : decode cX3_append 8 = .ok (.if_icmp .le 13, 3) := by decide +kernel
theorem dX3_append_11 : decode cX3_append 11 = .ok (.new 47, 3) := by decide +kernel
theorem dX3_append_14 : decode cX3_append 14 = .ok (.dup, 1) := by decide +kernel
theorem dX3_append_15 : decode cX3_append 15 = .ok (.ldc 49, 2) := by decide +kernel
theorem dX3_append_17 : decode cX3_append 17 = .ok (.invokespecial 51, 3) := by decide +kernel
theorem dX3_append_20 : decode cX3_append 20 = .ok (.athrow, 1) := by decide +kernel
theorem dX3_append_21 : decode cX3_append 21 = .ok (.aload_n 0, 1) := by decide +kernel
theorem dX3_append_22 : decode cX3_append 22 = .ok (.getfield 10, 3) := by decide +kernel
theorem dX3_append_25 : decode cX3_append 25 = .ok (.invokevirtual 54, 3) := by decide +kernel
theorem dX3_append_28 : decode cX3_append 28 = .ok (.ifCond .eq 13, 3) := by decide +kernel
theorem dX3_append_31 : decode cX3_append 31 = .ok (.new 58, 3) := by decide +kernel
theorem dX3_append_34 : decode cX3_append 34 = .ok (.dup, 1) := by decide +kernel
theorem dX3_append_35 : decode cX3_append 35 = .ok (.ldc 60, 2) := by decide +kernel
theorem dX3_append_37 : decode cX3_append 37 = .ok (.invokespecial 62, 3) := by decide +kernel
theorem dX3_append_40 : decode cX3_append 40 = .ok (.athrow, 1) := by decide +kernel
theorem dX3_append_41 : decode cX3_append 41 = .ok (.aload_n 0, 1) := by decide +kernel
theorem dX3_append_42 : decode cX3_append 42 = .ok (.getfield 10, 3) := by decide +kernel
theorem dX3_append_45 : decode cX3_append 45 = .ok (.iload_n 1, 1) := by decide +kernel
theorem dX3_append_46 : decode cX3_append 46 = .ok (.i2c, 1) := by decide +kernel
theorem dX3_append_47 : decode cX3_append 47 = .ok (.invokevirtual 63, 3) := by decide +kernel
theorem dX3_append_50 : decode cX3_append 50 = .ok (.ireturn, 1) := by decide +kernel
theorem dX3_load_0 : decode cX3_load 0 = .ok (.aload_n 0, 1) := by decide +kernel
theorem dX3_load_1 : decode cX3_load 1 = .ok (.getfield 10, 3) := by decide +kernel
theorem dX3_load_4 : decode cX3_load 4 = .ok (.invokevirtual 71, 3) := by decide +kernel
theorem dX3_load_7 : decode cX3_load 7 = .ok (.iconst (-1), 1) := by decide +kernel
theorem dX3_load_8 : decode cX3_load 8 = .ok (.if_icmp .eq 13, 3) := by decide +kernel
theorem dX3_load_11 : decode cX3_load 11 = .ok (.new 58, 3) := by decide +kernel
theorem dX3_load_14 : decode cX3_load 14 = .ok (.dup, 1) := by decide +kernel
theorem dX3_load_15 : decode cX3_load 15 = .ok (.ldc 74, 2) := by decide +kernel
theorem dX3_load_17 : decode cX3_load 17 = .ok (.invokespecial 62, 3) := by decide +kernel
theorem dX3_load_20 : decode cX3_load 20 = .ok (.athrow, 1) := by decide +kernel
theorem dX3_load_21 : decode cX3_load 21 = .ok (.aload_n 0, 1) := by decide +kernel
theorem dX3_load_22 : decode cX3_load 22 = .ok (.getfield 19, 3) := by decide +kernel
theorem dX3_load_25 : decode cX3_load 25 = .ok (.aload_n 0, 1) := by decide +kernel
theorem dX3_load_26 : decode cX3_load 26 = .ok (.getfield 38, 3) := by decide +kernel
theorem dX3_load_29 : decode cX3_load 29 = .ok (.invokevirtual 76, 3) := by decide +kernel
theorem dX3_load_32 : decode cX3_load 32 = .ok (.aload_n 0, 1) := by decide +kernel
theorem dX3_load_33 : decode cX3_load 33 = .ok (.getfield 26, 3) := by decide +kernel
theorem dX3_load_36 : decode cX3_load 36 = .ok (.invokevirtual 80, 3) := by decide +kernel
theorem dX3_load_39 : decode cX3_load 39 = .ok (.iconst 0, 1) := by decide +kernel
theorem dX3_load_40 : decode cX3_load 40 = .ok (.istore_n 1, 1) := by decide +kernel
theorem dX3_load_41 : decode cX3_load 41 = .ok (.iload_n 1, 1) := by decide +kernel
theorem dX3_load_42 : decode cX3_load 42 = .ok (.iconst 2, 1) := by decide +kernel
theorem dX3_load_43 : decode cX3_load 43 = .ok (.if_icmp .ge 16, 3) := by decide +kernel
theorem dX3_load_46 : decode cX3_load 46 = .ok (.aload_n 0, 1) := by decide +kernel
theorem dX3_load_47 : decode cX3_load 47 = .ok (.getfield 34, 3) := by decide +kernel
theorem dX3_load_50 : decode cX3_load 50 = .ok (.iload_n 1, 1) := by decide +kernel
theorem dX3_load_51 : decode cX3_load 51 = .ok (.iconst 0, 1) := by decide +kernel
theorem dX3_load_52 : decode cX3_load 52 = .ok (.bastore, 1) := by decide +kernel
theorem dX3_load_53 : decode cX3_load 53 = .ok (.iinc 1 1, 3) := by decide +kernel
theorem dX3_load_56 : decode cX3_load 56 = .ok (.goto (-15), 3) := by decide +kernel
theorem dX3_load_59 : decode cX3_load 59 = .ok (.iconst 0, 1) := by decide +kernel
theorem dX3_load_60 : decode cX3_load 60 = .ok (.istore_n 1, 1) := by decide +kernel
theorem dX3_load_61 : decode cX3_load 61 = .ok (.iconst 1, 1) := by decide +kernel
theorem dX3_load_62 : decode cX3_load 62 = .ok (.istore_n 2, 1) := by decide +kernel
theorem dX3_load_63 : decode cX3_load 63 = .ok (.iload_n 2, 1) := by decide +kernel
theorem dX3_load_64 : decode cX3_load 64 = .ok (.aload_n 0, 1) := by decide +kernel
theorem dX3_load_65 : decode cX3_load 65 = .ok (.getfield 10, 3) := by decide +kernel
theorem dX3_load_68 : decode cX3_load 68 = .ok (.getfield 83, 3) := by decide +kernel
theorem dX3_load_71 : decode cX3_load 71 = .ok (.if_icmp .ge 31, 3) := by decide +kernel
theorem dX3_load_74 : decode cX3_load 74 = .ok (.aload_n 0, 1) := by decide +kernel
theorem dX3_load_75 : decode cX3_load 75 = .ok (.getfield 10, 3) := by decide +kernel
theorem dX3_load_78 : decode cX3_load 78 = .ok (.iload_n 2, 1) := by decide +kernel
theorem dX3_load_79 : decode cX3_load 79 = .ok (.invokevirtual 87, 3) := by decide +kernel
theorem dX3_load_82 : decode cX3_load 82 = .ok (.ifCond .ne 14, 3) := by decide +kernel
theorem dX3_load_85 : decode cX3_load 85 = .ok (.aload_n 0, 1) := by decide +kernel
theorem dX3_load_86 : decode cX3_load 86 = .ok (.iload_n 2, 1) := by decide +kernel
theorem dX3_load_87 : decode cX3_load 87 = .ok (.invokevirtual 91, 3) := by decide +kernel
theorem dX3_load_90 : decode cX3_load 90 = .ok (.ifCond .ne 6, 3) := by decide +kernel
theorem dX3_load_93 : decode cX3_load 93 = .ok (.iinc 1 1, 3) := by decide +kernel
theorem dX3_load_96 : decode cX3_load 96 = .ok (.iinc 2 1, 3) := by decide +kernel
theorem dX3_load_99 : decode cX3_load 99 = .ok (.goto (-36), 3) := by decide +kernel
theorem dX3_load_102 : decode cX3_load 102 = .ok (.iload_n 1, 1) := by decide +kernel
theorem dX3_load_103 : decode cX3_load 103 = .ok (.ireturn, 1) := by decide +kernel
theorem dX3_obeyText_0 : decode cX3_obeyText 0 = .ok (.aload_n 0, 1) := by decide +kernel
theorem dX3_obeyText_1 : decode cX3_obeyText 1 = .ok (.getfield 10, 3) := by decide +kernel
theorem dX3_obeyText_4 : decode cX3_obeyText 4 = .ok (.iload_n 1, 1) := by decide +kernel
theorem dX3_obeyText_5 : decode cX3_obeyText 5 = .ok (.iconst 1, 1) := by decide +kernel
theorem dX3_obeyText_6 : decode cX3_obeyText 6 = .ok (.iadd, 1) := by decide +kernel
theorem dX3_obeyText_7 : decode cX3_obeyText 7 = .ok (.iconst 1, 1) := by decide +kernel
theorem dX3_obeyText_8 : decode cX3_obeyText 8 = .ok (.invokevirtual 94, 3) := by decide +kernel
theorem dX3_obeyText_11 : decode cX3_obeyText 11 = .ok (.istore_n 2, 1) := by decide +kernel
theorem dX3_obeyText_12 : decode cX3_obeyText 12 = .ok (.aload_n 0, 1) := by decide +kernel
theorem dX3_obeyText_13 : decode cX3_obeyText 13 = .ok (.getfield 10, 3) := by decide +kernel
theorem dX3_obeyText_16 : decode cX3_obeyText 16 = .ok (.iload_n 1, 1) := by decide +kernel
theorem dX3_obeyText_17 : decode cX3_obeyText 17 = .ok (.iconst 2, 1) := by decide +kernel
theorem dX3_obeyText_18 : decode cX3_obeyText 18 = .ok (.iadd, 1) := by decide +kernel
theorem dX3_obeyText_19 : decode cX3_obeyText 19 = .ok (.iconst 2, 1) := by decide +kernel
theorem dX3_obeyText_20 : decode cX3_obeyText 20 = .ok (.invokevirtual 94, 3) := by decide +kernel
theorem dX3_obeyText_23 : decode cX3_obeyText 23 = .ok (.istore_n 3, 1) := by decide +kernel
theorem dX3_obeyText_24 : decode cX3_obeyText 24 = .ok (.aload_n 0, 1) := by decide +kernel
theorem dX3_obeyText_25 : decode cX3_obeyText 25 = .ok (.getfield 10, 3) := by decide +kernel
theorem dX3_obeyText_28 : decode cX3_obeyText 28 = .ok (.iload_n 1, 1) := by decide +kernel
theorem dX3_obeyText_29 : decode cX3_obeyText 29 = .ok (.invokevirtual 98, 3) := by decide +kernel
theorem dX3_obeyText_32 : decode cX3_obeyText 32 = .ok (.lookupswitch 122 #[(102, 112), (115, 44), (116, 102), (119, 83)], 44) := by decide +kernel
theorem dX3_obeyText_76 : decode cX3_obeyText 76 = .ok (.aload_n 0, 1) := by decide +kernel
theorem dX3_obeyText_77 : decode cX3_obeyText 77 = .ok (.getfield 19, 3) := by decide +kernel
theorem dX3_obeyText_80 : decode cX3_obeyText 80 = .ok (.aload_n 0, 1) := by decide +kernel
theorem dX3_obeyText_81 : decode cX3_obeyText 81 = .ok (.getfield 10, 3) := by decide +kernel
theorem dX3_obeyText_84 : decode cX3_obeyText 84 = .ok (.iload_n 1, 1) := by decide +kernel
theorem dX3_obeyText_85 : decode cX3_obeyText 85 = .ok (.iconst 1, 1) := by decide +kernel
theorem dX3_obeyText_86 : decode cX3_obeyText 86 = .ok (.iadd, 1) := by decide +kernel
theorem dX3_obeyText_87 : decode cX3_obeyText 87 = .ok (.iconst 2, 1) := by decide +kernel
theorem dX3_obeyText_88 : decode cX3_obeyText 88 = .ok (.invokevirtual 94, 3) := by decide +kernel
theorem dX3_obeyText_91 : decode cX3_obeyText 91 = .ok (.aload_n 0, 1) := by decide +kernel
theorem dX3_obeyText_92 : decode cX3_obeyText 92 = .ok (.getfield 10, 3) := by decide +kernel
theorem dX3_obeyText_95 : decode cX3_obeyText 95 = .ok (.iload_n 1, 1) := by decide +kernel
theorem dX3_obeyText_96 : decode cX3_obeyText 96 = .ok (.iconst 3, 1) := by decide +kernel
theorem dX3_obeyText_97 : decode cX3_obeyText 97 = .ok (.iadd, 1) := by decide +kernel
theorem dX3_obeyText_98 : decode cX3_obeyText 98 = .ok (.iconst 2, 1) := by decide +kernel
theorem dX3_obeyText_99 : decode cX3_obeyText 99 = .ok (.invokevirtual 94, 3) := by decide +kernel
theorem dX3_obeyText_102 : decode cX3_obeyText 102 = .ok (.invokevirtual 102, 3) := by decide +kernel
theorem dX3_obeyText_105 : decode cX3_obeyText 105 = .ok (.iconst (-1), 1) := by decide +kernel
theorem dX3_obeyText_106 : decode cX3_obeyText 106 = .ok (.if_icmp .eq 7, 3) := by decide +kernel
theorem dX3_obeyText_109 : decode cX3_obeyText 109 = .ok (.iconst 1, 1) := by decide +kernel
theorem dX3_obeyText_110 : decode cX3_obeyText 110 = .ok (.goto 4, 3) := by decide +kernel
theorem dX3_obeyText_113 : decode cX3_obeyText 113 = .ok (.iconst 0, 1) := by decide +kernel
theorem dX3_obeyText_114 : decode cX3_obeyText 114 = .ok (.ireturn, 1) := by decide +kernel
theorem dX3_obeyText_115 : decode cX3_obeyText 115 = .ok (.aload_n 0, 1) := by decide +kernel
theorem dX3_obeyText_116 : decode cX3_obeyText 116 = .ok (.getfield 19, 3) := by decide +kernel
theorem dX3_obeyText_119 : decode cX3_obeyText 119 = .ok (.iload_n 2, 1) := by decide +kernel
theorem dX3_obeyText_120 : decode cX3_obeyText 120 = .ok (.iload_n 3, 1) := by decide +kernel
theorem dX3_obeyText_121 : decode cX3_obeyText 121 = .ok (.invokevirtual 105, 3) := by decide +kernel
theorem dX3_obeyText_124 : decode cX3_obeyText 124 = .ok (.iconst (-1), 1) := by decide +kernel
theorem dX3_obeyText_125 : decode cX3_obeyText 125 = .ok (.if_icmp .eq 7, 3) := by decide +kernel
theorem dX3_obeyText_128 : decode cX3_obeyText 128 = .ok (.iconst 1, 1) := by decide +kernel
theorem dX3_obeyText_129 : decode cX3_obeyText 129 = .ok (.goto 4, 3) := by decide +kernel
theorem dX3_obeyText_132 : decode cX3_obeyText 132 = .ok (.iconst 0, 1) := by decide +kernel
theorem dX3_obeyText_133 : decode cX3_obeyText 133 = .ok (.ireturn, 1) := by decide +kernel
theorem dX3_obeyText_134 : decode cX3_obeyText 134 = .ok (.aload_n 0, 1) := by decide +kernel
theorem dX3_obeyText_135 : decode cX3_obeyText 135 = .ok (.getfield 19, 3) := by decide +kernel
theorem dX3_obeyText_138 : decode cX3_obeyText 138 = .ok (.iload_n 2, 1) := by decide +kernel
theorem dX3_obeyText_139 : decode cX3_obeyText 139 = .ok (.iload_n 3, 1) := by decide +kernel
theorem dX3_obeyText_140 : decode cX3_obeyText 140 = .ok (.invokevirtual 108, 3) := by decide +kernel
theorem dX3_obeyText_143 : decode cX3_obeyText 143 = .ok (.ireturn, 1) := by decide +kernel
theorem dX3_obeyText_144 : decode cX3_obeyText 144 = .ok (.aload_n 0, 1) := by decide +kernel
theorem dX3_obeyText_145 : decode cX3_obeyText 145 = .ok (.getfield 19, 3) := by decide +kernel
theorem dX3_obeyText_148 : decode cX3_obeyText 148 = .ok (.iload_n 2, 1) := by decide +kernel
theorem dX3_obeyText_149 : decode cX3_obeyText 149 = .ok (.iload_n 3, 1) := by decide +kernel
theorem dX3_obeyText_150 : decode cX3_obeyText 150 = .ok (.invokevirtual 112, 3) := by decide +kernel
theorem dX3_obeyText_153 : decode cX3_obeyText 153 = .ok (.ireturn, 1) := by decide +kernel
theorem dX3_obeyText_154 : decode cX3_obeyText 154 = .ok (.aload_n 0, 1) := by decide +kernel
theorem dX3_obeyText_155 : decode cX3_obeyText 155 = .ok (.getfield 10, 3) := by decide +kernel
theorem dX3_obeyText_158 : decode cX3_obeyText 158 = .ok (.iload_n 1, 1) := by decide +kernel
theorem dX3_obeyText_159 : decode cX3_obeyText 159 = .ok (.iconst 4, 1) := by decide +kernel
theorem dX3_obeyText_160 : decode cX3_obeyText 160 = .ok (.iadd, 1) := by decide +kernel
theorem dX3_obeyText_161 : decode cX3_obeyText 161 = .ok (.iconst 2, 1) := by decide +kernel
theorem dX3_obeyText_162 : decode cX3_obeyText 162 = .ok (.invokevirtual 94, 3) := by decide +kernel
theorem dX3_obeyText_165 : decode cX3_obeyText 165 = .ok (.istore 4, 2) := by decide +kernel
theorem dX3_obeyText_167 : decode cX3_obeyText 167 = .ok (.iconst 1, 1) := by decide +kernel
theorem dX3_obeyText_168 : decode cX3_obeyText 168 = .ok (.istore 5, 2) := by decide +kernel
theorem dX3_obeyText_170 : decode cX3_obeyText 170 = .ok (.iload_n 3, 1) := by decide +kernel
theorem dX3_obeyText_171 : decode cX3_obeyText 171 = .ok (.istore 6, 2) := by decide +kernel
theorem dX3_obeyText_173 : decode cX3_obeyText 173 = .ok (.iload 6, 2) := by decide +kernel
theorem dX3_obeyText_175 : decode cX3_obeyText 175 = .ok (.iload 4, 2) := by decide +kernel
theorem dX3_obeyText_177 : decode cX3_obeyText 177 = .ok (.if_icmp .gt 30, 3) := by decide +kernel
theorem dX3_obeyText_180 : decode cX3_obeyText 180 = .ok (.aload_n 0, 1) := by decide +kernel
theorem dX3_obeyText_181 : decode cX3_obeyText 181 = .ok (.getfield 19, 3) := by decide +kernel
theorem dX3_obeyText_184 : decode cX3_obeyText 184 = .ok (.iload_n 2, 1) := by decide +kernel
theorem dX3_obeyText_185 : decode cX3_obeyText 185 = .ok (.iload 6, 2) := by decide +kernel
theorem dX3_obeyText_187 : decode cX3_obeyText 187 = .ok (.invokevirtual 105, 3) := by decide +kernel
theorem dX3_obeyText_190 : decode cX3_obeyText 190 = .ok (.iconst (-1), 1) := by decide +kernel
theorem dX3_obeyText_191 : decode cX3_obeyText 191 = .ok (.if_icmp .eq 7, 3) := by decide +kernel
theorem dX3_obeyText_194 : decode cX3_obeyText 194 = .ok (.iconst 1, 1) := by decide +kernel
theorem dX3_obeyText_195 : decode cX3_obeyText 195 = .ok (.goto 4, 3) := by decide +kernel
theorem dX3_obeyText_198 : decode cX3_obeyText 198 = .ok (.iconst 0, 1) := by decide +kernel
theorem dX3_obeyText_199 : decode cX3_obeyText 199 = .ok (.istore 5, 2) := by decide +kernel
theorem dX3_obeyText_201 : decode cX3_obeyText 201 = .ok (.iinc 6 1, 3) := by decide +kernel
theorem dX3_obeyText_204 : decode cX3_obeyText 204 = .ok (.goto (-31), 3) := by decide +kernel
theorem dX3_obeyText_207 : decode cX3_obeyText 207 = .ok (.iload 5, 2) := by decide +kernel
theorem dX3_obeyText_209 : decode cX3_obeyText 209 = .ok (.ireturn, 1) := by decide +kernel
theorem dX3_about_0 : decode cX3_about 0 = .ok (.iload_n 1, 1) := by decide +kernel
theorem dX3_about_1 : decode cX3_about 1 = .ok (.ifCond .lt 9, 3) := by decide +kernel
theorem dX3_about_4 : decode cX3_about 4 = .ok (.iload_n 1, 1) := by decide +kernel
theorem dX3_about_5 : decode cX3_about 5 = .ok (.bipush 8, 2) := by decide +kernel
theorem dX3_about_7 : decode cX3_about 7 = .ok (.if_icmp .le 13, 3) := by decide +kernel
theorem dX3_about_10 : decode cX3_about 10 = .ok (.new 47, 3) := by decide +kernel
theorem dX3_about_13 : decode cX3_about 13 = .ok (.dup, 1) := by decide +kernel
theorem dX3_about_14 : decode cX3_about 14 = .ok (.ldc 115, 2) := by decide +kernel
theorem dX3_about_16 : decode cX3_about 16 = .ok (.invokespecial 51, 3) := by decide +kernel
theorem dX3_about_19 : decode cX3_about 19 = .ok (.athrow, 1) := by decide +kernel
theorem dX3_about_20 : decode cX3_about 20 = .ok (.aload_n 0, 1) := by decide +kernel
theorem dX3_about_21 : decode cX3_about 21 = .ok (.getfield 19, 3) := by decide +kernel
theorem dX3_about_24 : decode cX3_about 24 = .ok (.iload_n 1, 1) := by decide +kernel
theorem dX3_about_25 : decode cX3_about 25 = .ok (.invokevirtual 117, 3) := by decide +kernel
theorem dX3_about_28 : decode cX3_about 28 = .ok (.ireturn, 1) := by decide +kernel
theorem dX3_space_0 : decode cX3_space 0 = .ok (.aload_n 0, 1) := by decide +kernel
theorem dX3_space_1 : decode cX3_space 1 = .ok (.iload_n 1, 1) := by decide +kernel
theorem dX3_space_2 : decode cX3_space 2 = .ok (.invokevirtual 121, 3) := by decide +kernel
theorem dX3_space_5 : decode cX3_space 5 = .ok (.iload_n 2, 1) := by decide +kernel
theorem dX3_space_6 : decode cX3_space 6 = .ok (.ifCond .lt 9, 3) := by decide +kernel
theorem dX3_space_9 : decode cX3_space 9 = .ok (.iload_n 2, 1) := by decide +kernel
theorem dX3_space_10 : decode cX3_space 10 = .ok (.bipush 10, 2) := by decide +kernel
theorem dX3_space_12 : decode cX3_space 12 = .ok (.if_icmp .le 13, 3) := by decide +kernel
theorem dX3_space_15 : decode cX3_space 15 = .ok (.new 47, 3) := by decide +kernel
theorem dX3_space_18 : decode cX3_space 18 = .ok (.dup, 1) := by decide +kernel
theorem dX3_space_19 : decode cX3_space 19 = .ok (.ldc 115, 2) := by decide +kernel
theorem dX3_space_21 : decode cX3_space 21 = .ok (.invokespecial 51, 3) := by decide +kernel
theorem dX3_space_24 : decode cX3_space 24 = .ok (.athrow, 1) := by decide +kernel
theorem dX3_space_25 : decode cX3_space 25 = .ok (.iload_n 2, 1) := by decide +kernel
theorem dX3_space_26 : decode cX3_space 26 = .ok (.bipush 8, 2) := by decide +kernel
theorem dX3_space_28 : decode cX3_space 28 = .ok (.if_icmp .ge 15, 3) := by decide +kernel
theorem dX3_space_31 : decode cX3_space 31 = .ok (.aload_n 0, 1) := by decide +kernel
theorem dX3_space_32 : decode cX3_space 32 = .ok (.getfield 19, 3) := by decide +kernel
theorem dX3_space_35 : decode cX3_space 35 = .ok (.iload_n 1, 1) := by decide +kernel
theorem dX3_space_36 : decode cX3_space 36 = .ok (.iload_n 2, 1) := by decide +kernel
theorem dX3_space_37 : decode cX3_space 37 = .ok (.invokevirtual 125, 3) := by decide +kernel
theorem dX3_space_40 : decode cX3_space 40 = .ok (.goto 12, 3) := by decide +kernel
theorem dX3_space_43 : decode cX3_space 43 = .ok (.aload_n 0, 1) := by decide +kernel
theorem dX3_space_44 : decode cX3_space 44 = .ok (.getfield 19, 3) := by decide +kernel
theorem dX3_space_47 : decode cX3_space 47 = .ok (.iload_n 1, 1) := by decide +kernel
theorem dX3_space_48 : decode cX3_space 48 = .ok (.iload_n 2, 1) := by decide +kernel
theorem dX3_space_49 : decode cX3_space 49 = .ok (.invokevirtual 128, 3) := by decide +kernel
theorem dX3_space_52 : decode cX3_space 52 = .ok (.ireturn, 1) := by decide +kernel
theorem dX3_loans_0 : decode cX3_loans 0 = .ok (.aload_n 0, 1) := by decide +kernel
theorem dX3_loans_1 : decode cX3_loans 1 = .ok (.iload_n 1, 1) := by decide +kernel
theorem dX3_loans_2 : decode cX3_loans 2 = .ok (.invokevirtual 121, 3) := by decide +kernel
theorem dX3_loans_5 : decode cX3_loans 5 = .ok (.aload_n 0, 1) := by decide +kernel
theorem dX3_loans_6 : decode cX3_loans 6 = .ok (.iload_n 2, 1) := by decide +kernel
theorem dX3_loans_7 : decode cX3_loans 7 = .ok (.invokevirtual 121, 3) := by decide +kernel
theorem dX3_loans_10 : decode cX3_loans 10 = .ok (.aload_n 0, 1) := by decide +kernel
theorem dX3_loans_11 : decode cX3_loans 11 = .ok (.getfield 19, 3) := by decide +kernel
theorem dX3_loans_14 : decode cX3_loans 14 = .ok (.getfield 131, 3) := by decide +kernel
theorem dX3_loans_17 : decode cX3_loans 17 = .ok (.iload_n 1, 1) := by decide +kernel
theorem dX3_loans_18 : decode cX3_loans 18 = .ok (.aaload, 1) := by decide +kernel
theorem dX3_loans_19 : decode cX3_loans 19 = .ok (.iload_n 2, 1) := by decide +kernel
theorem dX3_loans_20 : decode cX3_loans 20 = .ok (.iaload, 1) := by decide +kernel
theorem dX3_loans_21 : decode cX3_loans 21 = .ok (.ireturn, 1) := by decide +kernel
theorem dX3_time_0 : decode cX3_time 0 = .ok (.aload_n 0, 1) := by decide +kernel
theorem dX3_time_1 : decode cX3_time 1 = .ok (.iload_n 1, 1) := by decide +kernel
theorem dX3_time_2 : decode cX3_time 2 = .ok (.iload_n 2, 1) := by decide +kernel
theorem dX3_time_3 : decode cX3_time 3 = .ok (.invokevirtual 135, 3) := by decide +kernel
theorem dX3_time_6 : decode cX3_time 6 = .ok (.aload_n 0, 1) := by decide +kernel
theorem dX3_time_7 : decode cX3_time 7 = .ok (.getfield 19, 3) := by decide +kernel
theorem dX3_time_10 : decode cX3_time 10 = .ok (.iload_n 1, 1) := by decide +kernel
theorem dX3_time_11 : decode cX3_time 11 = .ok (.iload_n 2, 1) := by decide +kernel
theorem dX3_time_12 : decode cX3_time 12 = .ok (.invokevirtual 139, 3) := by decide +kernel
theorem dX3_time_15 : decode cX3_time 15 = .ok (.ifCond .eq 17, 3) := by decide +kernel
theorem dX3_time_18 : decode cX3_time 18 = .ok (.aload_n 0, 1) := by decide +kernel
theorem dX3_time_19 : decode cX3_time 19 = .ok (.getfield 19, 3) := by decide +kernel
theorem dX3_time_22 : decode cX3_time 22 = .ok (.getfield 142, 3) := by decide +kernel
theorem dX3_time_25 : decode cX3_time 25 = .ok (.iload_n 1, 1) := by decide +kernel
theorem dX3_time_26 : decode cX3_time 26 = .ok (.aaload, 1) := by decide +kernel
theorem dX3_time_27 : decode cX3_time 27 = .ok (.iload_n 2, 1) := by decide +kernel
theorem dX3_time_28 : decode cX3_time 28 = .ok (.iaload, 1) := by decide +kernel
theorem dX3_time_29 : decode cX3_time 29 = .ok (.goto 4, 3) := by decide +kernel
theorem dX3_time_32 : decode cX3_time 32 = .ok (.iconst (-1), 1) := by decide +kernel
theorem dX3_time_33 : decode cX3_time 33 = .ok (.ireturn, 1) := by decide +kernel
theorem dX3_oldest_0 : decode cX3_oldest 0 = .ok (.aload_n 0, 1) := by decide +kernel
theorem dX3_oldest_1 : decode cX3_oldest 1 = .ok (.iload_n 1, 1) := by decide +kernel
theorem dX3_oldest_2 : decode cX3_oldest 2 = .ok (.invokevirtual 121, 3) := by decide +kernel
theorem dX3_oldest_5 : decode cX3_oldest 5 = .ok (.iload_n 2, 1) := by decide +kernel
theorem dX3_oldest_6 : decode cX3_oldest 6 = .ok (.ifCond .ge 13, 3) := by decide +kernel
theorem dX3_oldest_9 : decode cX3_oldest 9 = .ok (.new 47, 3) := by decide +kernel
theorem dX3_oldest_12 : decode cX3_oldest 12 = .ok (.dup, 1) := by decide +kernel
theorem dX3_oldest_13 : decode cX3_oldest 13 = .ok (.ldc 145, 2) := by decide +kernel
theorem dX3_oldest_15 : decode cX3_oldest 15 = .ok (.invokespecial 51, 3) := by decide +kernel
theorem dX3_oldest_18 : decode cX3_oldest 18 = .ok (.athrow, 1) := by decide +kernel
theorem dX3_oldest_19 : decode cX3_oldest 19 = .ok (.aload_n 0, 1) := by decide +kernel
theorem dX3_oldest_20 : decode cX3_oldest 20 = .ok (.getfield 19, 3) := by decide +kernel
theorem dX3_oldest_23 : decode cX3_oldest 23 = .ok (.iload_n 1, 1) := by decide +kernel
theorem dX3_oldest_24 : decode cX3_oldest 24 = .ok (.iload_n 2, 1) := by decide +kernel
theorem dX3_oldest_25 : decode cX3_oldest 25 = .ok (.invokevirtual 147, 3) := by decide +kernel
theorem dX3_oldest_28 : decode cX3_oldest 28 = .ok (.ireturn, 1) := by decide +kernel
theorem dX3_make_0 : decode cX3_make 0 = .ok (.aload_n 0, 1) := by decide +kernel
theorem dX3_make_1 : decode cX3_make 1 = .ok (.getfield 19, 3) := by decide +kernel
theorem dX3_make_4 : decode cX3_make 4 = .ok (.iload_n 1, 1) := by decide +kernel
theorem dX3_make_5 : decode cX3_make 5 = .ok (.iload_n 2, 1) := by decide +kernel
theorem dX3_make_6 : decode cX3_make 6 = .ok (.invokevirtual 150, 3) := by decide +kernel
theorem dX3_make_9 : decode cX3_make 9 = .ok (.ifCond .ne 13, 3) := by decide +kernel
theorem dX3_make_12 : decode cX3_make 12 = .ok (.new 47, 3) := by decide +kernel
theorem dX3_make_15 : decode cX3_make 15 = .ok (.dup, 1) := by decide +kernel
theorem dX3_make_16 : decode cX3_make 16 = .ok (.ldc 153, 2) := by decide +kernel
theorem dX3_make_18 : decode cX3_make 18 = .ok (.invokespecial 51, 3) := by decide +kernel
theorem dX3_make_21 : decode cX3_make 21 = .ok (.athrow, 1) := by decide +kernel
theorem dX3_make_22 : decode cX3_make 22 = .ok (.aload_n 0, 1) := by decide +kernel
theorem dX3_make_23 : decode cX3_make 23 = .ok (.getfield 19, 3) := by decide +kernel
theorem dX3_make_26 : decode cX3_make 26 = .ok (.iload_n 1, 1) := by decide +kernel
theorem dX3_make_27 : decode cX3_make 27 = .ok (.invokevirtual 155, 3) := by decide +kernel
theorem dX3_make_30 : decode cX3_make 30 = .ok (.ifCond .ne 13, 3) := by decide +kernel
theorem dX3_make_33 : decode cX3_make 33 = .ok (.new 58, 3) := by decide +kernel
theorem dX3_make_36 : decode cX3_make 36 = .ok (.dup, 1) := by decide +kernel
theorem dX3_make_37 : decode cX3_make 37 = .ok (.ldc 158, 2) := by decide +kernel
theorem dX3_make_39 : decode cX3_make 39 = .ok (.invokespecial 62, 3) := by decide +kernel
theorem dX3_make_42 : decode cX3_make 42 = .ok (.athrow, 1) := by decide +kernel
theorem dX3_make_43 : decode cX3_make 43 = .ok (.aload_n 0, 1) := by decide +kernel
theorem dX3_make_44 : decode cX3_make 44 = .ok (.getfield 26, 3) := by decide +kernel
theorem dX3_make_47 : decode cX3_make 47 = .ok (.aload_n 0, 1) := by decide +kernel
theorem dX3_make_48 : decode cX3_make 48 = .ok (.getfield 19, 3) := by decide +kernel
theorem dX3_make_51 : decode cX3_make 51 = .ok (.invokevirtual 160, 3) := by decide +kernel
theorem dX3_make_54 : decode cX3_make 54 = .ok (.aload_n 0, 1) := by decide +kernel
theorem dX3_make_55 : decode cX3_make 55 = .ok (.getfield 19, 3) := by decide +kernel
theorem dX3_make_58 : decode cX3_make 58 = .ok (.iload_n 1, 1) := by decide +kernel
theorem dX3_make_59 : decode cX3_make 59 = .ok (.iload_n 2, 1) := by decide +kernel
theorem dX3_make_60 : decode cX3_make 60 = .ok (.invokevirtual 102, 3) := by decide +kernel
theorem dX3_make_63 : decode cX3_make 63 = .ok (.ireturn, 1) := by decide +kernel
theorem dX3_write_0 : decode cX3_write 0 = .ok (.aload_n 0, 1) := by decide +kernel
theorem dX3_write_1 : decode cX3_write 1 = .ok (.iload_n 1, 1) := by decide +kernel
theorem dX3_write_2 : decode cX3_write 2 = .ok (.iload_n 2, 1) := by decide +kernel
theorem dX3_write_3 : decode cX3_write 3 = .ok (.invokevirtual 135, 3) := by decide +kernel
theorem dX3_write_6 : decode cX3_write 6 = .ok (.aload_n 0, 1) := by decide +kernel
theorem dX3_write_7 : decode cX3_write 7 = .ok (.getfield 26, 3) := by decide +kernel
theorem dX3_write_10 : decode cX3_write 10 = .ok (.aload_n 0, 1) := by decide +kernel
theorem dX3_write_11 : decode cX3_write 11 = .ok (.getfield 19, 3) := by decide +kernel
theorem dX3_write_14 : decode cX3_write 14 = .ok (.invokevirtual 160, 3) := by decide +kernel
theorem dX3_write_17 : decode cX3_write 17 = .ok (.aload_n 0, 1) := by decide +kernel
theorem dX3_write_18 : decode cX3_write 18 = .ok (.getfield 19, 3) := by decide +kernel
theorem dX3_write_21 : decode cX3_write 21 = .ok (.iload_n 1, 1) := by decide +kernel
theorem dX3_write_22 : decode cX3_write 22 = .ok (.iload_n 2, 1) := by decide +kernel
theorem dX3_write_23 : decode cX3_write 23 = .ok (.invokevirtual 105, 3) := by decide +kernel
theorem dX3_write_26 : decode cX3_write 26 = .ok (.ireturn, 1) := by decide +kernel
theorem dX3_trim_0 : decode cX3_trim 0 = .ok (.aload_n 0, 1) := by decide +kernel
theorem dX3_trim_1 : decode cX3_trim 1 = .ok (.iload_n 1, 1) := by decide +kernel
theorem dX3_trim_2 : decode cX3_trim 2 = .ok (.iload_n 2, 1) := by decide +kernel
theorem dX3_trim_3 : decode cX3_trim 3 = .ok (.invokevirtual 135, 3) := by decide +kernel
theorem dX3_trim_6 : decode cX3_trim 6 = .ok (.aload_n 0, 1) := by decide +kernel
theorem dX3_trim_7 : decode cX3_trim 7 = .ok (.getfield 19, 3) := by decide +kernel
theorem dX3_trim_10 : decode cX3_trim 10 = .ok (.iload_n 1, 1) := by decide +kernel
theorem dX3_trim_11 : decode cX3_trim 11 = .ok (.iload_n 2, 1) := by decide +kernel
theorem dX3_trim_12 : decode cX3_trim 12 = .ok (.invokevirtual 139, 3) := by decide +kernel
theorem dX3_trim_15 : decode cX3_trim 15 = .ok (.ifCond .ne 13, 3) := by decide +kernel
theorem dX3_trim_18 : decode cX3_trim 18 = .ok (.new 58, 3) := by decide +kernel
theorem dX3_trim_21 : decode cX3_trim 21 = .ok (.dup, 1) := by decide +kernel
theorem dX3_trim_22 : decode cX3_trim 22 = .ok (.ldc 163, 2) := by decide +kernel
theorem dX3_trim_24 : decode cX3_trim 24 = .ok (.invokespecial 62, 3) := by decide +kernel
theorem dX3_trim_27 : decode cX3_trim 27 = .ok (.athrow, 1) := by decide +kernel
theorem dX3_trim_28 : decode cX3_trim 28 = .ok (.aload_n 0, 1) := by decide +kernel
theorem dX3_trim_29 : decode cX3_trim 29 = .ok (.getfield 26, 3) := by decide +kernel
theorem dX3_trim_32 : decode cX3_trim 32 = .ok (.aload_n 0, 1) := by decide +kernel
theorem dX3_trim_33 : decode cX3_trim 33 = .ok (.getfield 19, 3) := by decide +kernel
theorem dX3_trim_36 : decode cX3_trim 36 = .ok (.invokevirtual 160, 3) := by decide +kernel
theorem dX3_trim_39 : decode cX3_trim 39 = .ok (.aload_n 0, 1) := by decide +kernel
theorem dX3_trim_40 : decode cX3_trim 40 = .ok (.getfield 19, 3) := by decide +kernel
theorem dX3_trim_43 : decode cX3_trim 43 = .ok (.iload_n 1, 1) := by decide +kernel
theorem dX3_trim_44 : decode cX3_trim 44 = .ok (.iload_n 2, 1) := by decide +kernel
theorem dX3_trim_45 : decode cX3_trim 45 = .ok (.invokevirtual 108, 3) := by decide +kernel
theorem dX3_trim_48 : decode cX3_trim 48 = .ok (.pop, 1) := by decide +kernel
theorem dX3_trim_49 : decode cX3_trim 49 = .ok (.aload_n 0, 1) := by decide +kernel
theorem dX3_trim_50 : decode cX3_trim 50 = .ok (.getfield 19, 3) := by decide +kernel
theorem dX3_trim_53 : decode cX3_trim 53 = .ok (.iload_n 1, 1) := by decide +kernel
theorem dX3_trim_54 : decode cX3_trim 54 = .ok (.invokevirtual 165, 3) := by decide +kernel
theorem dX3_trim_57 : decode cX3_trim 57 = .ok (.ireturn, 1) := by decide +kernel
theorem dX3_setFloor_0 : decode cX3_setFloor 0 = .ok (.aload_n 0, 1) := by decide +kernel
theorem dX3_setFloor_1 : decode cX3_setFloor 1 = .ok (.iload_n 1, 1) := by decide +kernel
theorem dX3_setFloor_2 : decode cX3_setFloor 2 = .ok (.invokevirtual 121, 3) := by decide +kernel
theorem dX3_setFloor_5 : decode cX3_setFloor 5 = .ok (.iload_n 2, 1) := by decide +kernel
theorem dX3_setFloor_6 : decode cX3_setFloor 6 = .ok (.ifCond .lt 9, 3) := by decide +kernel
theorem dX3_setFloor_9 : decode cX3_setFloor 9 = .ok (.iload_n 2, 1) := by decide +kernel
theorem dX3_setFloor_10 : decode cX3_setFloor 10 = .ok (.bipush 60, 2) := by decide +kernel
theorem dX3_setFloor_12 : decode cX3_setFloor 12 = .ok (.if_icmp .le 13, 3) := by decide +kernel
theorem dX3_setFloor_15 : decode cX3_setFloor 15 = .ok (.new 47, 3) := by decide +kernel
theorem dX3_setFloor_18 : decode cX3_setFloor 18 = .ok (.dup, 1) := by decide +kernel
theorem dX3_setFloor_19 : decode cX3_setFloor 19 = .ok (.ldc 168, 2) := by decide +kernel
theorem dX3_setFloor_21 : decode cX3_setFloor 21 = .ok (.invokespecial 51, 3) := by decide +kernel
theorem dX3_setFloor_24 : decode cX3_setFloor 24 = .ok (.athrow, 1) := by decide +kernel
theorem dX3_setFloor_25 : decode cX3_setFloor 25 = .ok (.aload_n 0, 1) := by decide +kernel
theorem dX3_setFloor_26 : decode cX3_setFloor 26 = .ok (.getfield 19, 3) := by decide +kernel
theorem dX3_setFloor_29 : decode cX3_setFloor 29 = .ok (.iload_n 1, 1) := by decide +kernel
theorem dX3_setFloor_30 : decode cX3_setFloor 30 = .ok (.iload_n 2, 1) := by decide +kernel
theorem dX3_setFloor_31 : decode cX3_setFloor 31 = .ok (.invokevirtual 170, 3) := by decide +kernel
theorem dX3_setFloor_34 : decode cX3_setFloor 34 = .ok (.ifCond .ne 13, 3) := by decide +kernel
theorem dX3_setFloor_37 : decode cX3_setFloor 37 = .ok (.new 58, 3) := by decide +kernel
theorem dX3_setFloor_40 : decode cX3_setFloor 40 = .ok (.dup, 1) := by decide +kernel
theorem dX3_setFloor_41 : decode cX3_setFloor 41 = .ok (.ldc 173, 2) := by decide +kernel
theorem dX3_setFloor_43 : decode cX3_setFloor 43 = .ok (.invokespecial 62, 3) := by decide +kernel
theorem dX3_setFloor_46 : decode cX3_setFloor 46 = .ok (.athrow, 1) := by decide +kernel
theorem dX3_setFloor_47 : decode cX3_setFloor 47 = .ok (.aload_n 0, 1) := by decide +kernel
theorem dX3_setFloor_48 : decode cX3_setFloor 48 = .ok (.getfield 26, 3) := by decide +kernel
theorem dX3_setFloor_51 : decode cX3_setFloor 51 = .ok (.aload_n 0, 1) := by decide +kernel
theorem dX3_setFloor_52 : decode cX3_setFloor 52 = .ok (.getfield 19, 3) := by decide +kernel
theorem dX3_setFloor_55 : decode cX3_setFloor 55 = .ok (.invokevirtual 160, 3) := by decide +kernel
theorem dX3_setFloor_58 : decode cX3_setFloor 58 = .ok (.aload_n 0, 1) := by decide +kernel
theorem dX3_setFloor_59 : decode cX3_setFloor 59 = .ok (.getfield 19, 3) := by decide +kernel
theorem dX3_setFloor_62 : decode cX3_setFloor 62 = .ok (.getfield 175, 3) := by decide +kernel
theorem dX3_setFloor_65 : decode cX3_setFloor 65 = .ok (.iload_n 1, 1) := by decide +kernel
theorem dX3_setFloor_66 : decode cX3_setFloor 66 = .ok (.iaload, 1) := by decide +kernel
theorem dX3_setFloor_67 : decode cX3_setFloor 67 = .ok (.istore_n 3, 1) := by decide +kernel
theorem dX3_setFloor_68 : decode cX3_setFloor 68 = .ok (.aload_n 0, 1) := by decide +kernel
theorem dX3_setFloor_69 : decode cX3_setFloor 69 = .ok (.getfield 19, 3) := by decide +kernel
theorem dX3_setFloor_72 : decode cX3_setFloor 72 = .ok (.iload_n 1, 1) := by decide +kernel
theorem dX3_setFloor_73 : decode cX3_setFloor 73 = .ok (.iload_n 2, 1) := by decide +kernel
theorem dX3_setFloor_74 : decode cX3_setFloor 74 = .ok (.invokevirtual 112, 3) := by decide +kernel
theorem dX3_setFloor_77 : decode cX3_setFloor 77 = .ok (.pop, 1) := by decide +kernel
theorem dX3_setFloor_78 : decode cX3_setFloor 78 = .ok (.iload_n 3, 1) := by decide +kernel
theorem dX3_setFloor_79 : decode cX3_setFloor 79 = .ok (.ireturn, 1) := by decide +kernel
theorem dX3_setCeiling_0 : decode cX3_setCeiling 0 = .ok (.aload_n 0, 1) := by decide +kernel
theorem dX3_setCeiling_1 : decode cX3_setCeiling 1 = .ok (.iload_n 1, 1) := by decide +kernel
theorem dX3_setCeiling_2 : decode cX3_setCeiling 2 = .ok (.invokevirtual 121, 3) := by decide +kernel
theorem dX3_setCeiling_5 : decode cX3_setCeiling 5 = .ok (.aload_n 0, 1) := by decide +kernel
theorem dX3_setCeiling_6 : decode cX3_setCeiling 6 = .ok (.getfield 19, 3) := by decide +kernel
theorem dX3_setCeiling_9 : decode cX3_setCeiling 9 = .ok (.iload_n 1, 1) := by decide +kernel
theorem dX3_setCeiling_10 : decode cX3_setCeiling 10 = .ok (.iload_n 2, 1) := by decide +kernel
theorem dX3_setCeiling_11 : decode cX3_setCeiling 11 = .ok (.invokevirtual 179, 3) := by decide +kernel
theorem dX3_setCeiling_14 : decode cX3_setCeiling 14 = .ok (.ifCond .ne 13, 3) := by decide +kernel
theorem dX3_setCeiling_17 : decode cX3_setCeiling 17 = .ok (.new 47, 3) := by decide +kernel
theorem dX3_setCeiling_20 : decode cX3_setCeiling 20 = .ok (.dup, 1) := by decide +kernel
theorem dX3_setCeiling_21 : decode cX3_setCeiling 21 = .ok (.ldc 182, 2) := by decide +kernel
theorem dX3_setCeiling_23 : decode cX3_setCeiling 23 = .ok (.invokespecial 51, 3) := by decide +kernel
theorem dX3_setCeiling_26 : decode cX3_setCeiling 26 = .ok (.athrow, 1) := by decide +kernel
theorem dX3_setCeiling_27 : decode cX3_setCeiling 27 = .ok (.aload_n 0, 1) := by decide +kernel
theorem dX3_setCeiling_28 : decode cX3_setCeiling 28 = .ok (.getfield 26, 3) := by decide +kernel
theorem dX3_setCeiling_31 : decode cX3_setCeiling 31 = .ok (.aload_n 0, 1) := by decide +kernel
theorem dX3_setCeiling_32 : decode cX3_setCeiling 32 = .ok (.getfield 19, 3) := by decide +kernel
theorem dX3_setCeiling_35 : decode cX3_setCeiling 35 = .ok (.invokevirtual 160, 3) := by decide +kernel
theorem dX3_setCeiling_38 : decode cX3_setCeiling 38 = .ok (.aload_n 0, 1) := by decide +kernel
theorem dX3_setCeiling_39 : decode cX3_setCeiling 39 = .ok (.getfield 19, 3) := by decide +kernel
theorem dX3_setCeiling_42 : decode cX3_setCeiling 42 = .ok (.getfield 184, 3) := by decide +kernel
theorem dX3_setCeiling_45 : decode cX3_setCeiling 45 = .ok (.iload_n 1, 1) := by decide +kernel
theorem dX3_setCeiling_46 : decode cX3_setCeiling 46 = .ok (.iaload, 1) := by decide +kernel
theorem dX3_setCeiling_47 : decode cX3_setCeiling 47 = .ok (.istore_n 3, 1) := by decide +kernel
theorem dX3_setCeiling_48 : decode cX3_setCeiling 48 = .ok (.aload_n 0, 1) := by decide +kernel
theorem dX3_setCeiling_49 : decode cX3_setCeiling 49 = .ok (.getfield 19, 3) := by decide +kernel
theorem dX3_setCeiling_52 : decode cX3_setCeiling 52 = .ok (.iload_n 1, 1) := by decide +kernel
theorem dX3_setCeiling_53 : decode cX3_setCeiling 53 = .ok (.iload_n 2, 1) := by decide +kernel
theorem dX3_setCeiling_54 : decode cX3_setCeiling 54 = .ok (.invokevirtual 187, 3) := by decide +kernel
theorem dX3_setCeiling_57 : decode cX3_setCeiling 57 = .ok (.pop, 1) := by decide +kernel
theorem dX3_setCeiling_58 : decode cX3_setCeiling 58 = .ok (.iload_n 3, 1) := by decide +kernel
theorem dX3_setCeiling_59 : decode cX3_setCeiling 59 = .ok (.ireturn, 1) := by decide +kernel
theorem dX3_undo_0 : decode cX3_undo 0 = .ok (.aload_n 0, 1) := by decide +kernel
theorem dX3_undo_1 : decode cX3_undo 1 = .ok (.getfield 26, 3) := by decide +kernel
theorem dX3_undo_4 : decode cX3_undo 4 = .ok (.invokevirtual 190, 3) := by decide +kernel
theorem dX3_undo_7 : decode cX3_undo 7 = .ok (.ifCond .eq 13, 3) := by decide +kernel
theorem dX3_undo_10 : decode cX3_undo 10 = .ok (.new 58, 3) := by decide +kernel
theorem dX3_undo_13 : decode cX3_undo 13 = .ok (.dup, 1) := by decide +kernel
theorem dX3_undo_14 : decode cX3_undo 14 = .ok (.ldc 193, 2) := by decide +kernel
theorem dX3_undo_16 : decode cX3_undo 16 = .ok (.invokespecial 62, 3) := by decide +kernel
theorem dX3_undo_19 : decode cX3_undo 19 = .ok (.athrow, 1) := by decide +kernel
theorem dX3_undo_20 : decode cX3_undo 20 = .ok (.aload_n 0, 1) := by decide +kernel
theorem dX3_undo_21 : decode cX3_undo 21 = .ok (.getfield 26, 3) := by decide +kernel
theorem dX3_undo_24 : decode cX3_undo 24 = .ok (.aload_n 0, 1) := by decide +kernel
theorem dX3_undo_25 : decode cX3_undo 25 = .ok (.getfield 19, 3) := by decide +kernel
theorem dX3_undo_28 : decode cX3_undo 28 = .ok (.invokevirtual 195, 3) := by decide +kernel
theorem dX3_undo_31 : decode cX3_undo 31 = .ok (.ireturn, 1) := by decide +kernel
theorem dX3_would_0 : decode cX3_would 0 = .ok (.aload_n 0, 1) := by decide +kernel
theorem dX3_would_1 : decode cX3_would 1 = .ok (.iload_n 1, 1) := by decide +kernel
theorem dX3_would_2 : decode cX3_would 2 = .ok (.iload_n 2, 1) := by decide +kernel
theorem dX3_would_3 : decode cX3_would 3 = .ok (.invokevirtual 135, 3) := by decide +kernel
theorem dX3_would_6 : decode cX3_would 6 = .ok (.aload_n 0, 1) := by decide +kernel
theorem dX3_would_7 : decode cX3_would 7 = .ok (.getfield 44, 3) := by decide +kernel
theorem dX3_would_10 : decode cX3_would 10 = .ok (.aload_n 0, 1) := by decide +kernel
theorem dX3_would_11 : decode cX3_would 11 = .ok (.getfield 19, 3) := by decide +kernel
theorem dX3_would_14 : decode cX3_would 14 = .ok (.invokevirtual 76, 3) := by decide +kernel
theorem dX3_would_17 : decode cX3_would 17 = .ok (.aload_n 0, 1) := by decide +kernel
theorem dX3_would_18 : decode cX3_would 18 = .ok (.getfield 44, 3) := by decide +kernel
theorem dX3_would_21 : decode cX3_would 21 = .ok (.iload_n 1, 1) := by decide +kernel
theorem dX3_would_22 : decode cX3_would 22 = .ok (.iload_n 2, 1) := by decide +kernel
theorem dX3_would_23 : decode cX3_would 23 = .ok (.invokevirtual 105, 3) := by decide +kernel
theorem dX3_would_26 : decode cX3_would 26 = .ok (.ireturn, 1) := by decide +kernel
theorem dX3_room_0 : decode cX3_room 0 = .ok (.aload_n 0, 1) := by decide +kernel
theorem dX3_room_1 : decode cX3_room 1 = .ok (.iload_n 1, 1) := by decide +kernel
theorem dX3_room_2 : decode cX3_room 2 = .ok (.invokevirtual 121, 3) := by decide +kernel
theorem dX3_room_5 : decode cX3_room 5 = .ok (.aload_n 0, 1) := by decide +kernel
theorem dX3_room_6 : decode cX3_room 6 = .ok (.aload_n 0, 1) := by decide +kernel
theorem dX3_room_7 : decode cX3_room 7 = .ok (.getfield 19, 3) := by decide +kernel
theorem dX3_room_10 : decode cX3_room 10 = .ok (.iload_n 1, 1) := by decide +kernel
theorem dX3_room_11 : decode cX3_room 11 = .ok (.bipush 60, 2) := by decide +kernel
theorem dX3_room_13 : decode cX3_room 13 = .ok (.invokevirtual 199, 3) := by decide +kernel
theorem dX3_room_16 : decode cX3_room 16 = .ok (.ireturn, 1) := by decide +kernel
theorem dX3_harm_0 : decode cX3_harm 0 = .ok (.aload_n 0, 1) := by decide +kernel
theorem dX3_harm_1 : decode cX3_harm 1 = .ok (.iload_n 1, 1) := by decide +kernel
theorem dX3_harm_2 : decode cX3_harm 2 = .ok (.invokevirtual 121, 3) := by decide +kernel
theorem dX3_harm_5 : decode cX3_harm 5 = .ok (.iload_n 2, 1) := by decide +kernel
theorem dX3_harm_6 : decode cX3_harm 6 = .ok (.ifCond .lt 9, 3) := by decide +kernel
theorem dX3_harm_9 : decode cX3_harm 9 = .ok (.iload_n 2, 1) := by decide +kernel
theorem dX3_harm_10 : decode cX3_harm 10 = .ok (.bipush 60, 2) := by decide +kernel
theorem dX3_harm_12 : decode cX3_harm 12 = .ok (.if_icmp .le 13, 3) := by decide +kernel
theorem dX3_harm_15 : decode cX3_harm 15 = .ok (.new 47, 3) := by decide +kernel
theorem dX3_harm_18 : decode cX3_harm 18 = .ok (.dup, 1) := by decide +kernel
theorem dX3_harm_19 : decode cX3_harm 19 = .ok (.ldc 203, 2) := by decide +kernel
theorem dX3_harm_21 : decode cX3_harm 21 = .ok (.invokespecial 51, 3) := by decide +kernel
theorem dX3_harm_24 : decode cX3_harm 24 = .ok (.athrow, 1) := by decide +kernel
theorem dX3_harm_25 : decode cX3_harm 25 = .ok (.aload_n 0, 1) := by decide +kernel
theorem dX3_harm_26 : decode cX3_harm 26 = .ok (.aload_n 0, 1) := by decide +kernel
theorem dX3_harm_27 : decode cX3_harm 27 = .ok (.getfield 19, 3) := by decide +kernel
theorem dX3_harm_30 : decode cX3_harm 30 = .ok (.iload_n 1, 1) := by decide +kernel
theorem dX3_harm_31 : decode cX3_harm 31 = .ok (.iload_n 2, 1) := by decide +kernel
theorem dX3_harm_32 : decode cX3_harm 32 = .ok (.invokevirtual 199, 3) := by decide +kernel
theorem dX3_harm_35 : decode cX3_harm 35 = .ok (.pop, 1) := by decide +kernel
theorem dX3_harm_36 : decode cX3_harm 36 = .ok (.aload_n 0, 1) := by decide +kernel
theorem dX3_harm_37 : decode cX3_harm 37 = .ok (.getfield 44, 3) := by decide +kernel
theorem dX3_harm_40 : decode cX3_harm 40 = .ok (.invokevirtual 205, 3) := by decide +kernel
theorem dX3_harm_43 : decode cX3_harm 43 = .ok (.aload_n 0, 1) := by decide +kernel
theorem dX3_harm_44 : decode cX3_harm 44 = .ok (.getfield 19, 3) := by decide +kernel
theorem dX3_harm_47 : decode cX3_harm 47 = .ok (.invokevirtual 205, 3) := by decide +kernel
theorem dX3_harm_50 : decode cX3_harm 50 = .ok (.isub, 1) := by decide +kernel
theorem dX3_harm_51 : decode cX3_harm 51 = .ok (.ireturn, 1) := by decide +kernel
theorem dX3_victim_0 : decode cX3_victim 0 = .ok (.aload_n 0, 1) := by decide +kernel
theorem dX3_victim_1 : decode cX3_victim 1 = .ok (.iload_n 1, 1) := by decide +kernel
theorem dX3_victim_2 : decode cX3_victim 2 = .ok (.invokevirtual 121, 3) := by decide +kernel
theorem dX3_victim_5 : decode cX3_victim 5 = .ok (.aload_n 0, 1) := by decide +kernel
theorem dX3_victim_6 : decode cX3_victim 6 = .ok (.getfield 44, 3) := by decide +kernel
theorem dX3_victim_9 : decode cX3_victim 9 = .ok (.aload_n 0, 1) := by decide +kernel
theorem dX3_victim_10 : decode cX3_victim 10 = .ok (.getfield 19, 3) := by decide +kernel
theorem dX3_victim_13 : decode cX3_victim 13 = .ok (.invokevirtual 76, 3) := by decide +kernel
theorem dX3_victim_16 : decode cX3_victim 16 = .ok (.iconst (-1), 1) := by decide +kernel
theorem dX3_victim_17 : decode cX3_victim 17 = .ok (.istore_n 2, 1) := by decide +kernel
theorem dX3_victim_18 : decode cX3_victim 18 = .ok (.iconst 0, 1) := by decide +kernel
theorem dX3_victim_19 : decode cX3_victim 19 = .ok (.istore_n 3, 1) := by decide +kernel
theorem dX3_victim_20 : decode cX3_victim 20 = .ok (.iload_n 3, 1) := by decide +kernel
theorem dX3_victim_21 : decode cX3_victim 21 = .ok (.bipush 60, 2) := by decide +kernel
theorem dX3_victim_23 : decode cX3_victim 23 = .ok (.if_icmp .ge 40, 3) := by decide +kernel
theorem dX3_victim_26 : decode cX3_victim 26 = .ok (.iload_n 2, 1) := by decide +kernel
theorem dX3_victim_27 : decode cX3_victim 27 = .ok (.iconst (-1), 1) := by decide +kernel
theorem dX3_victim_28 : decode cX3_victim 28 = .ok (.if_icmp .ne 35, 3) := by decide +kernel
theorem dX3_victim_31 : decode cX3_victim 31 = .ok (.aload_n 0, 1) := by decide +kernel
theorem dX3_victim_32 : decode cX3_victim 32 = .ok (.getfield 44, 3) := by decide +kernel
theorem dX3_victim_35 : decode cX3_victim 35 = .ok (.iload_n 1, 1) := by decide +kernel
theorem dX3_victim_36 : decode cX3_victim 36 = .ok (.invokevirtual 208, 3) := by decide +kernel
theorem dX3_victim_39 : decode cX3_victim 39 = .ok (.iconst 5, 1) := by decide +kernel
theorem dX3_victim_40 : decode cX3_victim 40 = .ok (.if_icmp .ne 5, 3) := by decide +kernel
theorem dX3_victim_43 : decode cX3_victim 43 = .ok (.iconst (-1), 1) := by decide +kernel
theorem dX3_victim_44 : decode cX3_victim 44 = .ok (.ireturn, 1) := by decide +kernel
theorem dX3_victim_45 : decode cX3_victim 45 = .ok (.aload_n 0, 1) := by decide +kernel
theorem dX3_victim_46 : decode cX3_victim 46 = .ok (.getfield 44, 3) := by decide +kernel
theorem dX3_victim_49 : decode cX3_victim 49 = .ok (.aload_n 0, 1) := by decide +kernel
theorem dX3_victim_50 : decode cX3_victim 50 = .ok (.getfield 19, 3) := by decide +kernel
theorem dX3_victim_53 : decode cX3_victim 53 = .ok (.invokevirtual 211, 3) := by decide +kernel
theorem dX3_victim_56 : decode cX3_victim 56 = .ok (.istore_n 2, 1) := by decide +kernel
theorem dX3_victim_57 : decode cX3_victim 57 = .ok (.iinc 3 1, 3) := by decide +kernel
theorem dX3_victim_60 : decode cX3_victim 60 = .ok (.goto (-40), 3) := by decide +kernel
theorem dX3_victim_63 : decode cX3_victim 63 = .ok (.iload_n 2, 1) := by decide +kernel
theorem dX3_victim_64 : decode cX3_victim 64 = .ok (.ireturn, 1) := by decide +kernel
theorem dX3_noisy_0 : decode cX3_noisy 0 = .ok (.iconst (-1), 1) := by decide +kernel
theorem dX3_noisy_1 : decode cX3_noisy 1 = .ok (.istore_n 1, 1) := by decide +kernel
theorem dX3_noisy_2 : decode cX3_noisy 2 = .ok (.iconst 0, 1) := by decide +kernel
theorem dX3_noisy_3 : decode cX3_noisy 3 = .ok (.istore_n 2, 1) := by decide +kernel
theorem dX3_noisy_4 : decode cX3_noisy 4 = .ok (.iload_n 2, 1) := by decide +kernel
theorem dX3_noisy_5 : decode cX3_noisy 5 = .ok (.aload_n 0, 1) := by decide +kernel
theorem dX3_noisy_6 : decode cX3_noisy 6 = .ok (.getfield 19, 3) := by decide +kernel
theorem dX3_noisy_9 : decode cX3_noisy 9 = .ok (.getfield 214, 3) := by decide +kernel
theorem dX3_noisy_12 : decode cX3_noisy 12 = .ok (.if_icmp .ge 35, 3) := by decide +kernel
theorem dX3_noisy_15 : decode cX3_noisy 15 = .ok (.iload_n 1, 1) := by decide +kernel
theorem dX3_noisy_16 : decode cX3_noisy 16 = .ok (.iconst (-1), 1) := by decide +kernel
theorem dX3_noisy_17 : decode cX3_noisy 17 = .ok (.if_icmp .eq 22, 3) := by decide +kernel
theorem dX3_noisy_20 : decode cX3_noisy 20 = .ok (.aload_n 0, 1) := by decide +kernel
theorem dX3_noisy_21 : decode cX3_noisy 21 = .ok (.getfield 19, 3) := by decide +kernel
theorem dX3_noisy_24 : decode cX3_noisy 24 = .ok (.iload_n 2, 1) := by decide +kernel
theorem dX3_noisy_25 : decode cX3_noisy 25 = .ok (.invokevirtual 217, 3) := by decide +kernel
theorem dX3_noisy_28 : decode cX3_noisy 28 = .ok (.aload_n 0, 1) := by decide +kernel
theorem dX3_noisy_29 : decode cX3_noisy 29 = .ok (.getfield 19, 3) := by decide +kernel
theorem dX3_noisy_32 : decode cX3_noisy 32 = .ok (.iload_n 1, 1) := by decide +kernel
theorem dX3_noisy_33 : decode cX3_noisy 33 = .ok (.invokevirtual 217, 3) := by decide +kernel
theorem dX3_noisy_36 : decode cX3_noisy 36 = .ok (.if_icmp .le 5, 3) := by decide +kernel
theorem dX3_noisy_39 : decode cX3_noisy 39 = .ok (.iload_n 2, 1) := by decide +kernel
theorem dX3_noisy_40 : decode cX3_noisy 40 = .ok (.istore_n 1, 1) := by decide +kernel
theorem dX3_noisy_41 : decode cX3_noisy 41 = .ok (.iinc 2 1, 3) := by decide +kernel
theorem dX3_noisy_44 : decode cX3_noisy 44 = .ok (.goto (-40), 3) := by decide +kernel
theorem dX3_noisy_47 : decode cX3_noisy 47 = .ok (.iload_n 1, 1) := by decide +kernel
theorem dX3_noisy_48 : decode cX3_noisy 48 = .ok (.ireturn, 1) := by decide +kernel
theorem dX3_mostFloor_0 : decode cX3_mostFloor 0 = .ok (.aload_n 0, 1) := by decide +kernel
theorem dX3_mostFloor_1 : decode cX3_mostFloor 1 = .ok (.iload_n 1, 1) := by decide +kernel
theorem dX3_mostFloor_2 : decode cX3_mostFloor 2 = .ok (.invokevirtual 121, 3) := by decide +kernel
theorem dX3_mostFloor_5 : decode cX3_mostFloor 5 = .ok (.aload_n 0, 1) := by decide +kernel
theorem dX3_mostFloor_6 : decode cX3_mostFloor 6 = .ok (.getfield 19, 3) := by decide +kernel
theorem dX3_mostFloor_9 : decode cX3_mostFloor 9 = .ok (.iload_n 1, 1) := by decide +kernel
theorem dX3_mostFloor_10 : decode cX3_mostFloor 10 = .ok (.invokevirtual 220, 3) := by decide +kernel
theorem dX3_mostFloor_13 : decode cX3_mostFloor 13 = .ok (.ireturn, 1) := by decide +kernel
theorem dX3_leastFloor_0 : decode cX3_leastFloor 0 = .ok (.aload_n 0, 1) := by decide +kernel
theorem dX3_leastFloor_1 : decode cX3_leastFloor 1 = .ok (.iload_n 1, 1) := by decide +kernel
theorem dX3_leastFloor_2 : decode cX3_leastFloor 2 = .ok (.invokevirtual 121, 3) := by decide +kernel
theorem dX3_leastFloor_5 : decode cX3_leastFloor 5 = .ok (.aload_n 0, 1) := by decide +kernel
theorem dX3_leastFloor_6 : decode cX3_leastFloor 6 = .ok (.getfield 19, 3) := by decide +kernel
theorem dX3_leastFloor_9 : decode cX3_leastFloor 9 = .ok (.iload_n 1, 1) := by decide +kernel
theorem dX3_leastFloor_10 : decode cX3_leastFloor 10 = .ok (.invokevirtual 223, 3) := by decide +kernel
theorem dX3_leastFloor_13 : decode cX3_leastFloor 13 = .ok (.ireturn, 1) := by decide +kernel
theorem dX3_growGuess_0 : decode cX3_growGuess 0 = .ok (.aload_n 0, 1) := by decide +kernel
theorem dX3_growGuess_1 : decode cX3_growGuess 1 = .ok (.getfield 44, 3) := by decide +kernel
theorem dX3_growGuess_4 : decode cX3_growGuess 4 = .ok (.aload_n 1, 1) := by decide +kernel
theorem dX3_growGuess_5 : decode cX3_growGuess 5 = .ok (.invokevirtual 76, 3) := by decide +kernel
theorem dX3_growGuess_8 : decode cX3_growGuess 8 = .ok (.iconst 0, 1) := by decide +kernel
theorem dX3_growGuess_9 : decode cX3_growGuess 9 = .ok (.istore 4, 2) := by decide +kernel
theorem dX3_growGuess_11 : decode cX3_growGuess 11 = .ok (.iload 4, 2) := by decide +kernel
theorem dX3_growGuess_13 : decode cX3_growGuess 13 = .ok (.iload_n 3, 1) := by decide +kernel
theorem dX3_growGuess_14 : decode cX3_growGuess 14 = .ok (.if_icmp .ge 21, 3) := by decide +kernel
theorem dX3_growGuess_17 : decode cX3_growGuess 17 = .ok (.aload_n 0, 1) := by decide +kernel
theorem dX3_growGuess_18 : decode cX3_growGuess 18 = .ok (.getfield 44, 3) := by decide +kernel
theorem dX3_growGuess_21 : decode cX3_growGuess 21 = .ok (.iload_n 2, 1) := by decide +kernel
theorem dX3_growGuess_22 : decode cX3_growGuess 22 = .ok (.invokevirtual 208, 3) := by decide +kernel
theorem dX3_growGuess_25 : decode cX3_growGuess 25 = .ok (.iconst 5, 1) := by decide +kernel
theorem dX3_growGuess_26 : decode cX3_growGuess 26 = .ok (.if_icmp .eq 9, 3) := by decide +kernel
theorem dX3_growGuess_29 : decode cX3_growGuess 29 = .ok (.iinc 4 1, 3) := by decide +kernel
theorem dX3_growGuess_32 : decode cX3_growGuess 32 = .ok (.goto (-21), 3) := by decide +kernel
theorem dX3_growGuess_35 : decode cX3_growGuess 35 = .ok (.iload 4, 2) := by decide +kernel
theorem dX3_growGuess_37 : decode cX3_growGuess 37 = .ok (.ireturn, 1) := by decide +kernel
theorem dX3_runScript_0 : decode cX3_runScript 0 = .ok (.iload_n 1, 1) := by decide +kernel
theorem dX3_runScript_1 : decode cX3_runScript 1 = .ok (.iconst 1, 1) := by decide +kernel
theorem dX3_runScript_2 : decode cX3_runScript 2 = .ok (.if_icmp .lt 8, 3) := by decide +kernel
theorem dX3_runScript_5 : decode cX3_runScript 5 = .ok (.iload_n 1, 1) := by decide +kernel
theorem dX3_runScript_6 : decode cX3_runScript 6 = .ok (.iconst 3, 1) := by decide +kernel
theorem dX3_runScript_7 : decode cX3_runScript 7 = .ok (.if_icmp .le 13, 3) := by decide +kernel
theorem dX3_runScript_10 : decode cX3_runScript 10 = .ok (.new 47, 3) := by decide +kernel
theorem dX3_runScript_13 : decode cX3_runScript 13 = .ok (.dup, 1) := by decide +kernel
theorem dX3_runScript_14 : decode cX3_runScript 14 = .ok (.ldc 226, 2) := by decide +kernel
theorem dX3_runScript_16 : decode cX3_runScript 16 = .ok (.invokespecial 51, 3) := by decide +kernel
theorem dX3_runScript_19 : decode cX3_runScript 19 = .ok (.athrow, 1) := by decide +kernel
theorem dX3_runScript_20 : decode cX3_runScript 20 = .ok (.lload_n 2, 1) := by decide +kernel
theorem dX3_runScript_21 : decode cX3_runScript 21 = .ok (.lconst 0, 1) := by decide +kernel
theorem dX3_runScript_22 : decode cX3_runScript 22 = .ok (.lcmp, 1) := by decide +kernel
theorem dX3_runScript_23 : decode cX3_runScript 23 = .ok (.ifCond .lt 13, 3) := by decide +kernel
theorem dX3_runScript_26 : decode cX3_runScript 26 = .ok (.lload_n 2, 1) := by decide +kernel
theorem dX3_runScript_27 : decode cX3_runScript 27 = .ok (.iload_n 1, 1) := by decide +kernel
theorem dX3_runScript_28 : decode cX3_runScript 28 = .ok (.invokestatic 228, 3) := by decide +kernel
theorem dX3_runScript_31 : decode cX3_runScript 31 = .ok (.lconst 0, 1) := by decide +kernel
theorem dX3_runScript_32 : decode cX3_runScript 32 = .ok (.lcmp, 1) := by decide +kernel
theorem dX3_runScript_33 : decode cX3_runScript 33 = .ok (.ifCond .eq 13, 3) := by decide +kernel
theorem dX3_runScript_36 : decode cX3_runScript 36 = .ok (.new 47, 3) := by decide +kernel
theorem dX3_runScript_39 : decode cX3_runScript 39 = .ok (.dup, 1) := by decide +kernel
theorem dX3_runScript_40 : decode cX3_runScript 40 = .ok (.ldc 232, 2) := by decide +kernel
theorem dX3_runScript_42 : decode cX3_runScript 42 = .ok (.invokespecial 51, 3) := by decide +kernel
theorem dX3_runScript_45 : decode cX3_runScript 45 = .ok (.athrow, 1) := by decide +kernel
theorem dX3_runScript_46 : decode cX3_runScript 46 = .ok (.aload_n 0, 1) := by decide +kernel
theorem dX3_runScript_47 : decode cX3_runScript 47 = .ok (.getfield 41, 3) := by decide +kernel
theorem dX3_runScript_50 : decode cX3_runScript 50 = .ok (.aload_n 0, 1) := by decide +kernel
theorem dX3_runScript_51 : decode cX3_runScript 51 = .ok (.getfield 19, 3) := by decide +kernel
theorem dX3_runScript_54 : decode cX3_runScript 54 = .ok (.invokevirtual 76, 3) := by decide +kernel
theorem dX3_runScript_57 : decode cX3_runScript 57 = .ok (.iconst 0, 1) := by decide +kernel
theorem dX3_runScript_58 : decode cX3_runScript 58 = .ok (.istore 4, 2) := by decide +kernel
theorem dX3_runScript_60 : decode cX3_runScript 60 = .ok (.iload 4, 2) := by decide +kernel
theorem dX3_runScript_62 : decode cX3_runScript 62 = .ok (.iload_n 1, 1) := by decide +kernel
theorem dX3_runScript_63 : decode cX3_runScript 63 = .ok (.if_icmp .ge 38, 3) := by decide +kernel
theorem dX3_runScript_66 : decode cX3_runScript 66 = .ok (.lload_n 2, 1) := by decide +kernel
theorem dX3_runScript_67 : decode cX3_runScript 67 = .ok (.iload_n 1, 1) := by decide +kernel
theorem dX3_runScript_68 : decode cX3_runScript 68 = .ok (.iconst 1, 1) := by decide +kernel
theorem dX3_runScript_69 : decode cX3_runScript 69 = .ok (.isub, 1) := by decide +kernel
theorem dX3_runScript_70 : decode cX3_runScript 70 = .ok (.iload 4, 2) := by decide +kernel
theorem dX3_runScript_72 : decode cX3_runScript 72 = .ok (.isub, 1) := by decide +kernel
theorem dX3_runScript_73 : decode cX3_runScript 73 = .ok (.invokestatic 228, 3) := by decide +kernel
theorem dX3_runScript_76 : decode cX3_runScript 76 = .ok (.ldc2_w 234, 3) := by decide +kernel
theorem dX3_runScript_79 : decode cX3_runScript 79 = .ok (.lrem, 1) := by decide +kernel
theorem dX3_runScript_80 : decode cX3_runScript 80 = .ok (.l2i, 1) := by decide +kernel
theorem dX3_runScript_81 : decode cX3_runScript 81 = .ok (.istore 5, 2) := by decide +kernel
theorem dX3_runScript_83 : decode cX3_runScript 83 = .ok (.aload_n 0, 1) := by decide +kernel
theorem dX3_runScript_84 : decode cX3_runScript 84 = .ok (.iload 5, 2) := by decide +kernel
theorem dX3_runScript_86 : decode cX3_runScript 86 = .ok (.invokevirtual 236, 3) := by decide +kernel
theorem dX3_runScript_89 : decode cX3_runScript 89 = .ok (.ifCond .ne 6, 3) := by decide +kernel
theorem dX3_runScript_92 : decode cX3_runScript 92 = .ok (.iload 4, 2) := by decide +kernel
theorem dX3_runScript_94 : decode cX3_runScript 94 = .ok (.ireturn, 1) := by decide +kernel
theorem dX3_runScript_95 : decode cX3_runScript 95 = .ok (.iinc 4 1, 3) := by decide +kernel
theorem dX3_runScript_98 : decode cX3_runScript 98 = .ok (.goto (-38), 3) := by decide +kernel
theorem dX3_runScript_101 : decode cX3_runScript 101 = .ok (.iconst (-1), 1) := by decide +kernel
theorem dX3_runScript_102 : decode cX3_runScript 102 = .ok (.ireturn, 1) := by decide +kernel
theorem dX3_withoutGroups_0 : decode cX3_withoutGroups 0 = .ok (.lload_n 0, 1) := by decide +kernel
theorem dX3_withoutGroups_1 : decode cX3_withoutGroups 1 = .ok (.lstore_n 3, 1) := by decide +kernel
theorem dX3_withoutGroups_2 : decode cX3_withoutGroups 2 = .ok (.iconst 0, 1) := by decide +kernel
theorem dX3_withoutGroups_3 : decode cX3_withoutGroups 3 = .ok (.istore 5, 2) := by decide +kernel
theorem dX3_withoutGroups_5 : decode cX3_withoutGroups 5 = .ok (.iload 5, 2) := by decide +kernel
theorem dX3_withoutGroups_7 : decode cX3_withoutGroups 7 = .ok (.iload_n 2, 1) := by decide +kernel
theorem dX3_withoutGroups_8 : decode cX3_withoutGroups 8 = .ok (.if_icmp .ge 15, 3) := by decide +kernel
theorem dX3_withoutGroups_11 : decode cX3_withoutGroups 11 = .ok (.lload_n 3, 1) := by decide +kernel
theorem dX3_withoutGroups_12 : decode cX3_withoutGroups 12 = .ok (.ldc2_w 234, 3) := by decide +kernel
theorem dX3_withoutGroups_15 : decode cX3_withoutGroups 15 = .ok (.ldiv, 1) := by decide +kernel
theorem dX3_withoutGroups_16 : decode cX3_withoutGroups 16 = .ok (.lstore_n 3, 1) := by decide +kernel
theorem dX3_withoutGroups_17 : decode cX3_withoutGroups 17 = .ok (.iinc 5 1, 3) := by decide +kernel
theorem dX3_withoutGroups_20 : decode cX3_withoutGroups 20 = .ok (.goto (-15), 3) := by decide +kernel
theorem dX3_withoutGroups_23 : decode cX3_withoutGroups 23 = .ok (.lload_n 3, 1) := by decide +kernel
theorem dX3_withoutGroups_24 : decode cX3_withoutGroups 24 = .ok (.lreturn, 1) := by decide +kernel
theorem dX3_obeyGroup_0 : decode cX3_obeyGroup 0 = .ok (.iload_n 1, 1) := by decide +kernel
theorem dX3_obeyGroup_1 : decode cX3_obeyGroup 1 = .ok (.sipush 10000, 3) := by decide +kernel
theorem dX3_obeyGroup_4 : decode cX3_obeyGroup 4 = .ok (.idiv, 1) := by decide +kernel
theorem dX3_obeyGroup_5 : decode cX3_obeyGroup 5 = .ok (.istore_n 2, 1) := by decide +kernel
theorem dX3_obeyGroup_6 : decode cX3_obeyGroup 6 = .ok (.iload_n 1, 1) := by decide +kernel
theorem dX3_obeyGroup_7 : decode cX3_obeyGroup 7 = .ok (.sipush 1000, 3) := by decide +kernel
theorem dX3_obeyGroup_10 : decode cX3_obeyGroup 10 = .ok (.idiv, 1) := by decide +kernel
theorem dX3_obeyGroup_11 : decode cX3_obeyGroup 11 = .ok (.bipush 10, 2) := by decide +kernel
theorem dX3_obeyGroup_13 : decode cX3_obeyGroup 13 = .ok (.irem, 1) := by decide +kernel
theorem dX3_obeyGroup_14 : decode cX3_obeyGroup 14 = .ok (.istore_n 3, 1) := by decide +kernel
theorem dX3_obeyGroup_15 : decode cX3_obeyGroup 15 = .ok (.iload_n 1, 1) := by decide +kernel
theorem dX3_obeyGroup_16 : decode cX3_obeyGroup 16 = .ok (.bipush 100, 2) := by decide +kernel
theorem dX3_obeyGroup_18 : decode cX3_obeyGroup 18 = .ok (.idiv, 1) := by decide +kernel
theorem dX3_obeyGroup_19 : decode cX3_obeyGroup 19 = .ok (.bipush 10, 2) := by decide +kernel
theorem dX3_obeyGroup_21 : decode cX3_obeyGroup 21 = .ok (.irem, 1) := by decide +kernel
theorem dX3_obeyGroup_22 : decode cX3_obeyGroup 22 = .ok (.istore 4, 2) := by decide +kernel
theorem dX3_obeyGroup_24 : decode cX3_obeyGroup 24 = .ok (.iload_n 1, 1) := by decide +kernel
theorem dX3_obeyGroup_25 : decode cX3_obeyGroup 25 = .ok (.bipush 100, 2) := by decide +kernel
theorem dX3_obeyGroup_27 : decode cX3_obeyGroup 27 = .ok (.irem, 1) := by decide +kernel
theorem dX3_obeyGroup_28 : decode cX3_obeyGroup 28 = .ok (.istore 5, 2) := by decide +kernel
theorem dX3_obeyGroup_30 : decode cX3_obeyGroup 30 = .ok (.iload_n 2, 1) := by decide +kernel
theorem dX3_obeyGroup_31 : decode cX3_obeyGroup 31 = .ok (.iconst 5, 1) := by decide +kernel
theorem dX3_obeyGroup_32 : decode cX3_obeyGroup 32 = .ok (.if_icmp .ne 29, 3) := by decide +kernel
theorem dX3_obeyGroup_35 : decode cX3_obeyGroup 35 = .ok (.aload_n 0, 1) := by decide +kernel
theorem dX3_obeyGroup_36 : decode cX3_obeyGroup 36 = .ok (.getfield 41, 3) := by decide +kernel
theorem dX3_obeyGroup_39 : decode cX3_obeyGroup 39 = .ok (.iload_n 1, 1) := by decide +kernel
theorem dX3_obeyGroup_40 : decode cX3_obeyGroup 40 = .ok (.bipush 100, 2) := by decide +kernel
theorem dX3_obeyGroup_42 : decode cX3_obeyGroup 42 = .ok (.idiv, 1) := by decide +kernel
theorem dX3_obeyGroup_43 : decode cX3_obeyGroup 43 = .ok (.bipush 100, 2) := by decide +kernel
theorem dX3_obeyGroup_45 : decode cX3_obeyGroup 45 = .ok (.irem, 1) := by decide +kernel
theorem dX3_obeyGroup_46 : decode cX3_obeyGroup 46 = .ok (.iload 5, 2) := by decide +kernel
theorem dX3_obeyGroup_48 : decode cX3_obeyGroup 48 = .ok (.invokevirtual 102, 3) := by decide +kernel
theorem dX3_obeyGroup_51 : decode cX3_obeyGroup 51 = .ok (.iconst (-1), 1) := by decide +kernel
theorem dX3_obeyGroup_52 : decode cX3_obeyGroup 52 = .ok (.if_icmp .eq 7, 3) := by decide +kernel
theorem dX3_obeyGroup_55 : decode cX3_obeyGroup 55 = .ok (.iconst 1, 1) := by decide +kernel
theorem dX3_obeyGroup_56 : decode cX3_obeyGroup 56 = .ok (.goto 4, 3) := by decide +kernel
theorem dX3_obeyGroup_59 : decode cX3_obeyGroup 59 = .ok (.iconst 0, 1) := by decide +kernel
theorem dX3_obeyGroup_60 : decode cX3_obeyGroup 60 = .ok (.ireturn, 1) := by decide +kernel
theorem dX3_obeyGroup_61 : decode cX3_obeyGroup 61 = .ok (.iload_n 2, 1) := by decide +kernel
theorem dX3_obeyGroup_62 : decode cX3_obeyGroup 62 = .ok (.bipush 9, 2) := by decide +kernel
theorem dX3_obeyGroup_64 : decode cX3_obeyGroup 64 = .ok (.if_icmp .ne 49, 3) := by decide +kernel
theorem dX3_obeyGroup_67 : decode cX3_obeyGroup 67 = .ok (.aload_n 0, 1) := by decide +kernel
theorem dX3_obeyGroup_68 : decode cX3_obeyGroup 68 = .ok (.getfield 41, 3) := by decide +kernel
theorem dX3_obeyGroup_71 : decode cX3_obeyGroup 71 = .ok (.iload_n 3, 1) := by decide +kernel
theorem dX3_obeyGroup_72 : decode cX3_obeyGroup 72 = .ok (.invokevirtual 239, 3) := by decide +kernel
theorem dX3_obeyGroup_75 : decode cX3_obeyGroup 75 = .ok (.ifCond .eq 36, 3) := by decide +kernel
theorem dX3_obeyGroup_78 : decode cX3_obeyGroup 78 = .ok (.aload_n 0, 1) := by decide +kernel
theorem dX3_obeyGroup_79 : decode cX3_obeyGroup 79 = .ok (.getfield 41, 3) := by decide +kernel
theorem dX3_obeyGroup_82 : decode cX3_obeyGroup 82 = .ok (.iload 4, 2) := by decide +kernel
theorem dX3_obeyGroup_84 : decode cX3_obeyGroup 84 = .ok (.invokevirtual 239, 3) := by decide +kernel
theorem dX3_obeyGroup_87 : decode cX3_obeyGroup 87 = .ok (.ifCond .eq 24, 3) := by decide +kernel
theorem dX3_obeyGroup_90 : decode cX3_obeyGroup 90 = .ok (.aload_n 0, 1) := by decide +kernel
theorem dX3_obeyGroup_91 : decode cX3_obeyGroup 91 = .ok (.getfield 41, 3) := by decide +kernel
theorem dX3_obeyGroup_94 : decode cX3_obeyGroup 94 = .ok (.getfield 131, 3) := by decide +kernel
theorem dX3_obeyGroup_97 : decode cX3_obeyGroup 97 = .ok (.iload_n 3, 1) := by decide +kernel
theorem dX3_obeyGroup_98 : decode cX3_obeyGroup 98 = .ok (.aaload, 1) := by decide +kernel
theorem dX3_obeyGroup_99 : decode cX3_obeyGroup 99 = .ok (.iload 4, 2) := by decide +kernel
theorem dX3_obeyGroup_101 : decode cX3_obeyGroup 101 = .ok (.iaload, 1) := by decide +kernel
theorem dX3_obeyGroup_102 : decode cX3_obeyGroup 102 = .ok (.iload 5, 2) := by decide +kernel
theorem dX3_obeyGroup_104 : decode cX3_obeyGroup 104 = .ok (.if_icmp .lt 7, 3) := by decide +kernel
theorem dX3_obeyGroup_107 : decode cX3_obeyGroup 107 = .ok (.iconst 1, 1) := by decide +kernel
theorem dX3_obeyGroup_108 : decode cX3_obeyGroup 108 = .ok (.goto 4, 3) := by decide +kernel
theorem dX3_obeyGroup_111 : decode cX3_obeyGroup 111 = .ok (.iconst 0, 1) := by decide +kernel
theorem dX3_obeyGroup_112 : decode cX3_obeyGroup 112 = .ok (.ireturn, 1) := by decide +kernel
theorem dX3_obeyGroup_113 : decode cX3_obeyGroup 113 = .ok (.iload 4, 2) := by decide +kernel
theorem dX3_obeyGroup_115 : decode cX3_obeyGroup 115 = .ok (.ifCond .eq 5, 3) := by decide +kernel
theorem dX3_obeyGroup_118 : decode cX3_obeyGroup 118 = .ok (.iconst 0, 1) := by decide +kernel
theorem dX3_obeyGroup_119 : decode cX3_obeyGroup 119 = .ok (.ireturn, 1) := by decide +kernel
theorem dX3_obeyGroup_120 : decode cX3_obeyGroup 120 = .ok (.iload_n 2, 1) := by decide +kernel
theorem dX3_obeyGroup_121 : decode cX3_obeyGroup 121 = .ok (.bipush 8, 2) := by decide +kernel
theorem dX3_obeyGroup_123 : decode cX3_obeyGroup 123 = .ok (.if_icmp .ne 25, 3) := by decide +kernel
theorem dX3_obeyGroup_126 : decode cX3_obeyGroup 126 = .ok (.iload_n 3, 1) := by decide +kernel
theorem dX3_obeyGroup_127 : decode cX3_obeyGroup 127 = .ok (.ifCond .ne 19, 3) := by decide +kernel
theorem dX3_obeyGroup_130 : decode cX3_obeyGroup 130 = .ok (.aload_n 0, 1) := by decide +kernel
theorem dX3_obeyGroup_131 : decode cX3_obeyGroup 131 = .ok (.getfield 41, 3) := by decide +kernel
theorem dX3_obeyGroup_134 : decode cX3_obeyGroup 134 = .ok (.invokevirtual 205, 3) := by decide +kernel
theorem dX3_obeyGroup_137 : decode cX3_obeyGroup 137 = .ok (.iload 5, 2) := by decide +kernel
theorem dX3_obeyGroup_139 : decode cX3_obeyGroup 139 = .ok (.if_icmp .gt 7, 3) := by decide +kernel
theorem dX3_obeyGroup_142 : decode cX3_obeyGroup 142 = .ok (.iconst 1, 1) := by decide +kernel
theorem dX3_obeyGroup_143 : decode cX3_obeyGroup 143 = .ok (.goto 4, 3) := by decide +kernel
theorem dX3_obeyGroup_146 : decode cX3_obeyGroup 146 = .ok (.iconst 0, 1) := by decide +kernel
theorem dX3_obeyGroup_147 : decode cX3_obeyGroup 147 = .ok (.ireturn, 1) := by decide +kernel
theorem dX3_obeyGroup_148 : decode cX3_obeyGroup 148 = .ok (.aload_n 0, 1) := by decide +kernel
theorem dX3_obeyGroup_149 : decode cX3_obeyGroup 149 = .ok (.getfield 41, 3) := by decide +kernel
theorem dX3_obeyGroup_152 : decode cX3_obeyGroup 152 = .ok (.iload_n 3, 1) := by decide +kernel
theorem dX3_obeyGroup_153 : decode cX3_obeyGroup 153 = .ok (.invokevirtual 239, 3) := by decide +kernel
theorem dX3_obeyGroup_156 : decode cX3_obeyGroup 156 = .ok (.ifCond .eq 18, 3) := by decide +kernel
theorem dX3_obeyGroup_159 : decode cX3_obeyGroup 159 = .ok (.aload_n 0, 1) := by decide +kernel
theorem dX3_obeyGroup_160 : decode cX3_obeyGroup 160 = .ok (.iload_n 2, 1) := by decide +kernel
theorem dX3_obeyGroup_161 : decode cX3_obeyGroup 161 = .ok (.iload_n 3, 1) := by decide +kernel
theorem dX3_obeyGroup_162 : decode cX3_obeyGroup 162 = .ok (.iload 5, 2) := by decide +kernel
theorem dX3_obeyGroup_164 : decode cX3_obeyGroup 164 = .ok (.invokevirtual 242, 3) := by decide +kernel
theorem dX3_obeyGroup_167 : decode cX3_obeyGroup 167 = .ok (.ifCond .eq 7, 3) := by decide +kernel
theorem dX3_obeyGroup_170 : decode cX3_obeyGroup 170 = .ok (.iconst 1, 1) := by decide +kernel
theorem dX3_obeyGroup_171 : decode cX3_obeyGroup 171 = .ok (.goto 4, 3) := by decide +kernel
theorem dX3_obeyGroup_174 : decode cX3_obeyGroup 174 = .ok (.iconst 0, 1) := by decide +kernel
theorem dX3_obeyGroup_175 : decode cX3_obeyGroup 175 = .ok (.ireturn, 1) := by decide +kernel
theorem dX3_obeyForSpace_0 : decode cX3_obeyForSpace 0 = .ok (.iload_n 1, 1) := by decide +kernel
theorem dX3_obeyForSpace_1 : decode cX3_obeyForSpace 1 = .ok (.tableswitch 141 1 7 #[43, 72, 82, 92, 141, 102, 120], 43) := by decide +kernel
theorem dX3_obeyForSpace_44 : decode cX3_obeyForSpace 44 = .ok (.aload_n 0, 1) := by decide +kernel
theorem dX3_obeyForSpace_45 : decode cX3_obeyForSpace 45 = .ok (.getfield 41, 3) := by decide +kernel
theorem dX3_obeyForSpace_48 : decode cX3_obeyForSpace 48 = .ok (.iload_n 2, 1) := by decide +kernel
theorem dX3_obeyForSpace_49 : decode cX3_obeyForSpace 49 = .ok (.iload_n 3, 1) := by decide +kernel
theorem dX3_obeyForSpace_50 : decode cX3_obeyForSpace 50 = .ok (.invokevirtual 105, 3) := by decide +kernel
theorem dX3_obeyForSpace_53 : decode cX3_obeyForSpace 53 = .ok (.istore 4, 2) := by decide +kernel
theorem dX3_obeyForSpace_55 : decode cX3_obeyForSpace 55 = .ok (.iload 4, 2) := by decide +kernel
theorem dX3_obeyForSpace_57 : decode cX3_obeyForSpace 57 = .ok (.iconst (-1), 1) := by decide +kernel
theorem dX3_obeyForSpace_58 : decode cX3_obeyForSpace 58 = .ok (.if_icmp .eq 13, 3) := by decide +kernel
theorem dX3_obeyForSpace_61 : decode cX3_obeyForSpace 61 = .ok (.iload 4, 2) := by decide +kernel
theorem dX3_obeyForSpace_63 : decode cX3_obeyForSpace 63 = .ok (.iconst 5, 1) := by decide +kernel
theorem dX3_obeyForSpace_64 : decode cX3_obeyForSpace 64 = .ok (.if_icmp .eq 7, 3) := by decide +kernel
theorem dX3_obeyForSpace_67 : decode cX3_obeyForSpace 67 = .ok (.iconst 1, 1) := by decide +kernel
theorem dX3_obeyForSpace_68 : decode cX3_obeyForSpace 68 = .ok (.goto 4, 3) := by decide +kernel
theorem dX3_obeyForSpace_71 : decode cX3_obeyForSpace 71 = .ok (.iconst 0, 1) := by decide +kernel
theorem dX3_obeyForSpace_72 : decode cX3_obeyForSpace 72 = .ok (.ireturn, 1) := by decide +kernel
theorem dX3_obeyForSpace_73 : decode cX3_obeyForSpace 73 = .ok (.aload_n 0, 1) := by decide +kernel
theorem dX3_obeyForSpace_74 : decode cX3_obeyForSpace 74 = .ok (.getfield 41, 3) := by decide +kernel
theorem dX3_obeyForSpace_77 : decode cX3_obeyForSpace 77 = .ok (.iload_n 2, 1) := by decide +kernel
theorem dX3_obeyForSpace_78 : decode cX3_obeyForSpace 78 = .ok (.iload_n 3, 1) := by decide +kernel
theorem dX3_obeyForSpace_79 : decode cX3_obeyForSpace 79 = .ok (.invokevirtual 108, 3) := by decide +kernel
theorem dX3_obeyForSpace_82 : decode cX3_obeyForSpace 82 = .ok (.ireturn, 1) := by decide +kernel
theorem dX3_obeyForSpace_83 : decode cX3_obeyForSpace 83 = .ok (.aload_n 0, 1) := by decide +kernel
theorem dX3_obeyForSpace_84 : decode cX3_obeyForSpace 84 = .ok (.getfield 41, 3) := by decide +kernel
theorem dX3_obeyForSpace_87 : decode cX3_obeyForSpace 87 = .ok (.iload_n 2, 1) := by decide +kernel
theorem dX3_obeyForSpace_88 : decode cX3_obeyForSpace 88 = .ok (.iload_n 3, 1) := by decide +kernel
theorem dX3_obeyForSpace_89 : decode cX3_obeyForSpace 89 = .ok (.invokevirtual 112, 3) := by decide +kernel
theorem dX3_obeyForSpace_92 : decode cX3_obeyForSpace 92 = .ok (.ireturn, 1) := by decide +kernel
theorem dX3_obeyForSpace_93 : decode cX3_obeyForSpace 93 = .ok (.aload_n 0, 1) := by decide +kernel
theorem dX3_obeyForSpace_94 : decode cX3_obeyForSpace 94 = .ok (.getfield 41, 3) := by decide +kernel
theorem dX3_obeyForSpace_97 : decode cX3_obeyForSpace 97 = .ok (.iload_n 2, 1) := by decide +kernel
theorem dX3_obeyForSpace_98 : decode cX3_obeyForSpace 98 = .ok (.iload_n 3, 1) := by decide +kernel
theorem dX3_obeyForSpace_99 : decode cX3_obeyForSpace 99 = .ok (.invokevirtual 187, 3) := by decide +kernel
theorem dX3_obeyForSpace_102 : decode cX3_obeyForSpace 102 = .ok (.ireturn, 1) := by decide +kernel
theorem dX3_obeyForSpace_103 : decode cX3_obeyForSpace 103 = .ok (.aload_n 0, 1) := by decide +kernel
theorem dX3_obeyForSpace_104 : decode cX3_obeyForSpace 104 = .ok (.getfield 41, 3) := by decide +kernel
theorem dX3_obeyForSpace_107 : decode cX3_obeyForSpace 107 = .ok (.iload_n 2, 1) := by decide +kernel
theorem dX3_obeyForSpace_108 : decode cX3_obeyForSpace 108 = .ok (.invokevirtual 165, 3) := by decide +kernel
theorem dX3_obeyForSpace_111 : decode cX3_obeyForSpace 111 = .ok (.iload_n 3, 1) := by decide +kernel
theorem dX3_obeyForSpace_112 : decode cX3_obeyForSpace 112 = .ok (.if_icmp .lt 7, 3) := by decide +kernel
theorem dX3_obeyForSpace_115 : decode cX3_obeyForSpace 115 = .ok (.iconst 1, 1) := by decide +kernel
theorem dX3_obeyForSpace_116 : decode cX3_obeyForSpace 116 = .ok (.goto 4, 3) := by decide +kernel
theorem dX3_obeyForSpace_119 : decode cX3_obeyForSpace 119 = .ok (.iconst 0, 1) := by decide +kernel
theorem dX3_obeyForSpace_120 : decode cX3_obeyForSpace 120 = .ok (.ireturn, 1) := by decide +kernel
theorem dX3_obeyForSpace_121 : decode cX3_obeyForSpace 121 = .ok (.aload_n 0, 1) := by decide +kernel
theorem dX3_obeyForSpace_122 : decode cX3_obeyForSpace 122 = .ok (.aload_n 0, 1) := by decide +kernel
theorem dX3_obeyForSpace_123 : decode cX3_obeyForSpace 123 = .ok (.getfield 41, 3) := by decide +kernel
theorem dX3_obeyForSpace_126 : decode cX3_obeyForSpace 126 = .ok (.iload_n 2, 1) := by decide +kernel
theorem dX3_obeyForSpace_127 : decode cX3_obeyForSpace 127 = .ok (.bipush 60, 2) := by decide +kernel
theorem dX3_obeyForSpace_129 : decode cX3_obeyForSpace 129 = .ok (.invokevirtual 199, 3) := by decide +kernel
theorem dX3_obeyForSpace_132 : decode cX3_obeyForSpace 132 = .ok (.iload_n 3, 1) := by decide +kernel
theorem dX3_obeyForSpace_133 : decode cX3_obeyForSpace 133 = .ok (.if_icmp .lt 7, 3) := by decide +kernel
theorem dX3_obeyForSpace_136 : decode cX3_obeyForSpace 136 = .ok (.iconst 1, 1) := by decide +kernel
theorem dX3_obeyForSpace_137 : decode cX3_obeyForSpace 137 = .ok (.goto 4, 3) := by decide +kernel
theorem dX3_obeyForSpace_140 : decode cX3_obeyForSpace 140 = .ok (.iconst 0, 1) := by decide +kernel
theorem dX3_obeyForSpace_141 : decode cX3_obeyForSpace 141 = .ok (.ireturn, 1) := by decide +kernel
theorem dX3_obeyForSpace_142 : decode cX3_obeyForSpace 142 = .ok (.iconst 0, 1) := by decide +kernel
theorem dX3_obeyForSpace_143 : decode cX3_obeyForSpace 143 = .ok (.ireturn, 1) := by decide +kernel
theorem dX3_simulate_0 : decode cX3_simulate 0 = .ok (.iload_n 3, 1) := by decide +kernel
theorem dX3_simulate_1 : decode cX3_simulate 1 = .ok (.iconst 1, 1) := by decide +kernel
theorem dX3_simulate_2 : decode cX3_simulate 2 = .ok (.if_icmp .lt 9, 3) := by decide +kernel
theorem dX3_simulate_5 : decode cX3_simulate 5 = .ok (.iload_n 3, 1) := by decide +kernel
theorem dX3_simulate_6 : decode cX3_simulate 6 = .ok (.bipush 99, 2) := by decide +kernel
theorem dX3_simulate_8 : decode cX3_simulate 8 = .ok (.if_icmp .le 13, 3) := by decide +kernel
theorem dX3_simulate_11 : decode cX3_simulate 11 = .ok (.new 47, 3) := by decide +kernel
theorem dX3_simulate_14 : decode cX3_simulate 14 = .ok (.dup, 1) := by decide +kernel
theorem dX3_simulate_15 : decode cX3_simulate 15 = .ok (.ldc 246, 2) := by decide +kernel
theorem dX3_simulate_17 : decode cX3_simulate 17 = .ok (.invokespecial 51, 3) := by decide +kernel
theorem dX3_simulate_20 : decode cX3_simulate 20 = .ok (.athrow, 1) := by decide +kernel
theorem dX3_simulate_21 : decode cX3_simulate 21 = .ok (.aload_n 0, 1) := by decide +kernel
theorem dX3_simulate_22 : decode cX3_simulate 22 = .ok (.getfield 41, 3) := by decide +kernel
theorem dX3_simulate_25 : decode cX3_simulate 25 = .ok (.aload_n 0, 1) := by decide +kernel
theorem dX3_simulate_26 : decode cX3_simulate 26 = .ok (.getfield 19, 3) := by decide +kernel
theorem dX3_simulate_29 : decode cX3_simulate 29 = .ok (.invokevirtual 76, 3) := by decide +kernel
theorem dX3_simulate_32 : decode cX3_simulate 32 = .ok (.lload_n 1, 1) := by decide +kernel
theorem dX3_simulate_33 : decode cX3_simulate 33 = .ok (.lstore 4, 2) := by decide +kernel
theorem dX3_simulate_35 : decode cX3_simulate 35 = .ok (.iconst 0, 1) := by decide +kernel
theorem dX3_simulate_36 : decode cX3_simulate 36 = .ok (.istore 6, 2) := by decide +kernel
theorem dX3_simulate_38 : decode cX3_simulate 38 = .ok (.iload 6, 2) := by decide +kernel
theorem dX3_simulate_40 : decode cX3_simulate 40 = .ok (.iload_n 3, 1) := by decide +kernel
theorem dX3_simulate_41 : decode cX3_simulate 41 = .ok (.if_icmp .ge 31, 3) := by decide +kernel
theorem dX3_simulate_44 : decode cX3_simulate 44 = .ok (.lload 4, 2) := by decide +kernel
theorem dX3_simulate_46 : decode cX3_simulate 46 = .ok (.ldc2_w 248, 3) := by decide +kernel
theorem dX3_simulate_49 : decode cX3_simulate 49 = .ok (.lmul, 1) := by decide +kernel
theorem dX3_simulate_50 : decode cX3_simulate 50 = .ok (.ldc2_w 250, 3) := by decide +kernel
theorem dX3_simulate_53 : decode cX3_simulate 53 = .ok (.ladd, 1) := by decide +kernel
theorem dX3_simulate_54 : decode cX3_simulate 54 = .ok (.lstore 4, 2) := by decide +kernel
theorem dX3_simulate_56 : decode cX3_simulate 56 = .ok (.aload_n 0, 1) := by decide +kernel
theorem dX3_simulate_57 : decode cX3_simulate 57 = .ok (.lload 4, 2) := by decide +kernel
theorem dX3_simulate_59 : decode cX3_simulate 59 = .ok (.bipush 33, 2) := by decide +kernel
theorem dX3_simulate_61 : decode cX3_simulate 61 = .ok (.lushr, 1) := by decide +kernel
theorem dX3_simulate_62 : decode cX3_simulate 62 = .ok (.l2i, 1) := by decide +kernel
theorem dX3_simulate_63 : decode cX3_simulate 63 = .ok (.invokevirtual 252, 3) := by decide +kernel
theorem dX3_simulate_66 : decode cX3_simulate 66 = .ok (.iinc 6 1, 3) := by decide +kernel
theorem dX3_simulate_69 : decode cX3_simulate 69 = .ok (.goto (-31), 3) := by decide +kernel
theorem dX3_simulate_72 : decode cX3_simulate 72 = .ok (.sipush 1000, 3) := by decide +kernel
theorem dX3_simulate_75 : decode cX3_simulate 75 = .ok (.aload_n 0, 1) := by decide +kernel
theorem dX3_simulate_76 : decode cX3_simulate 76 = .ok (.getfield 41, 3) := by decide +kernel
theorem dX3_simulate_79 : decode cX3_simulate 79 = .ok (.invokevirtual 255, 3) := by decide +kernel
theorem dX3_simulate_82 : decode cX3_simulate 82 = .ok (.imul, 1) := by decide +kernel
theorem dX3_simulate_83 : decode cX3_simulate 83 = .ok (.aload_n 0, 1) := by decide +kernel
theorem dX3_simulate_84 : decode cX3_simulate 84 = .ok (.getfield 41, 3) := by decide +kernel
theorem dX3_simulate_87 : decode cX3_simulate 87 = .ok (.invokevirtual 205, 3) := by decide +kernel
theorem dX3_simulate_90 : decode cX3_simulate 90 = .ok (.iadd, 1) := by decide +kernel
theorem dX3_simulate_91 : decode cX3_simulate 91 = .ok (.aload_n 0, 1) := by decide +kernel
theorem dX3_simulate_92 : decode cX3_simulate 92 = .ok (.getfield 19, 3) := by decide +kernel
theorem dX3_simulate_95 : decode cX3_simulate 95 = .ok (.invokevirtual 205, 3) := by decide +kernel
theorem dX3_simulate_98 : decode cX3_simulate 98 = .ok (.isub, 1) := by decide +kernel
theorem dX3_simulate_99 : decode cX3_simulate 99 = .ok (.ireturn, 1) := by decide +kernel
theorem dX3_takeTurn_0 : decode cX3_takeTurn 0 = .ok (.iload_n 1, 1) := by decide +kernel
theorem dX3_takeTurn_1 : decode cX3_takeTurn 1 = .ok (.bipush 16, 2) := by decide +kernel
theorem dX3_takeTurn_3 : decode cX3_takeTurn 3 = .ok (.idiv, 1) := by decide +kernel
theorem dX3_takeTurn_4 : decode cX3_takeTurn 4 = .ok (.iconst 1, 1) := by decide +kernel
theorem dX3_takeTurn_5 : decode cX3_takeTurn 5 = .ok (.aload_n 0, 1) := by decide +kernel
theorem dX3_takeTurn_6 : decode cX3_takeTurn 6 = .ok (.getfield 41, 3) := by decide +kernel
theorem dX3_takeTurn_9 : decode cX3_takeTurn 9 = .ok (.getfield 214, 3) := by decide +kernel
theorem dX3_takeTurn_12 : decode cX3_takeTurn 12 = .ok (.invokestatic 258, 3) := by decide +kernel
theorem dX3_takeTurn_15 : decode cX3_takeTurn 15 = .ok (.irem, 1) := by decide +kernel
theorem dX3_takeTurn_16 : decode cX3_takeTurn 16 = .ok (.istore_n 2, 1) := by decide +kernel
theorem dX3_takeTurn_17 : decode cX3_takeTurn 17 = .ok (.iload_n 1, 1) := by decide +kernel
theorem dX3_takeTurn_18 : decode cX3_takeTurn 18 = .ok (.sipush 128, 3) := by decide +kernel
theorem dX3_takeTurn_21 : decode cX3_takeTurn 21 = .ok (.idiv, 1) := by decide +kernel
theorem dX3_takeTurn_22 : decode cX3_takeTurn 22 = .ok (.bipush 40, 2) := by decide +kernel
theorem dX3_takeTurn_24 : decode cX3_takeTurn 24 = .ok (.irem, 1) := by decide +kernel
theorem dX3_takeTurn_25 : decode cX3_takeTurn 25 = .ok (.istore_n 3, 1) := by decide +kernel
theorem dX3_takeTurn_26 : decode cX3_takeTurn 26 = .ok (.iload_n 1, 1) := by decide +kernel
theorem dX3_takeTurn_27 : decode cX3_takeTurn 27 = .ok (.bipush 16, 2) := by decide +kernel
theorem dX3_takeTurn_29 : decode cX3_takeTurn 29 = .ok (.irem, 1) := by decide +kernel
theorem dX3_takeTurn_30 : decode cX3_takeTurn 30 = .ok (.istore 4, 2) := by decide +kernel
theorem dX3_takeTurn_32 : decode cX3_takeTurn 32 = .ok (.iload 4, 2) := by decide +kernel
theorem dX3_takeTurn_34 : decode cX3_takeTurn 34 = .ok (.ifCond .ne 32, 3) := by decide +kernel
theorem dX3_takeTurn_37 : decode cX3_takeTurn 37 = .ok (.aload_n 0, 1) := by decide +kernel
theorem dX3_takeTurn_38 : decode cX3_takeTurn 38 = .ok (.getfield 41, 3) := by decide +kernel
theorem dX3_takeTurn_41 : decode cX3_takeTurn 41 = .ok (.iload_n 1, 1) := by decide +kernel
theorem dX3_takeTurn_42 : decode cX3_takeTurn 42 = .ok (.bipush 16, 2) := by decide +kernel
theorem dX3_takeTurn_44 : decode cX3_takeTurn 44 = .ok (.idiv, 1) := by decide +kernel
theorem dX3_takeTurn_45 : decode cX3_takeTurn 45 = .ok (.bipush 16, 2) := by decide +kernel
theorem dX3_takeTurn_47 : decode cX3_takeTurn 47 = .ok (.irem, 1) := by decide +kernel
theorem dX3_takeTurn_48 : decode cX3_takeTurn 48 = .ok (.bipush 16, 2) := by decide +kernel
theorem dX3_takeTurn_50 : decode cX3_takeTurn 50 = .ok (.iload_n 1, 1) := by decide +kernel
theorem dX3_takeTurn_51 : decode cX3_takeTurn 51 = .ok (.sipush 256, 3) := by decide +kernel
theorem dX3_takeTurn_54 : decode cX3_takeTurn 54 = .ok (.idiv, 1) := by decide +kernel
theorem dX3_takeTurn_55 : decode cX3_takeTurn 55 = .ok (.bipush 40, 2) := by decide +kernel
theorem dX3_takeTurn_57 : decode cX3_takeTurn 57 = .ok (.irem, 1) := by decide +kernel
theorem dX3_takeTurn_58 : decode cX3_takeTurn 58 = .ok (.iadd, 1) := by decide +kernel
theorem dX3_takeTurn_59 : decode cX3_takeTurn 59 = .ok (.invokevirtual 102, 3) := by decide +kernel
theorem dX3_takeTurn_62 : decode cX3_takeTurn 62 = .ok (.pop, 1) := by decide +kernel
theorem dX3_takeTurn_63 : decode cX3_takeTurn 63 = .ok (.goto 58, 3) := by decide +kernel
theorem dX3_takeTurn_66 : decode cX3_takeTurn 66 = .ok (.iload 4, 2) := by decide +kernel
theorem dX3_takeTurn_68 : decode cX3_takeTurn 68 = .ok (.iconst 1, 1) := by decide +kernel
theorem dX3_takeTurn_69 : decode cX3_takeTurn 69 = .ok (.if_icmp .ne 23, 3) := by decide +kernel
theorem dX3_takeTurn_72 : decode cX3_takeTurn 72 = .ok (.aload_n 0, 1) := by decide +kernel
theorem dX3_takeTurn_73 : decode cX3_takeTurn 73 = .ok (.getfield 41, 3) := by decide +kernel
theorem dX3_takeTurn_76 : decode cX3_takeTurn 76 = .ok (.iload_n 2, 1) := by decide +kernel
theorem dX3_takeTurn_77 : decode cX3_takeTurn 77 = .ok (.iload_n 1, 1) := by decide +kernel
theorem dX3_takeTurn_78 : decode cX3_takeTurn 78 = .ok (.sipush 128, 3) := by decide +kernel
theorem dX3_takeTurn_81 : decode cX3_takeTurn 81 = .ok (.idiv, 1) := by decide +kernel
theorem dX3_takeTurn_82 : decode cX3_takeTurn 82 = .ok (.bipush 20, 2) := by decide +kernel
theorem dX3_takeTurn_84 : decode cX3_takeTurn 84 = .ok (.irem, 1) := by decide +kernel
theorem dX3_takeTurn_85 : decode cX3_takeTurn 85 = .ok (.invokevirtual 112, 3) := by decide +kernel
theorem dX3_takeTurn_88 : decode cX3_takeTurn 88 = .ok (.pop, 1) := by decide +kernel
theorem dX3_takeTurn_89 : decode cX3_takeTurn 89 = .ok (.goto 32, 3) := by decide +kernel
theorem dX3_takeTurn_92 : decode cX3_takeTurn 92 = .ok (.iload 4, 2) := by decide +kernel
theorem dX3_takeTurn_94 : decode cX3_takeTurn 94 = .ok (.iconst 4, 1) := by decide +kernel
theorem dX3_takeTurn_95 : decode cX3_takeTurn 95 = .ok (.if_icmp .ge 16, 3) := by decide +kernel
theorem dX3_takeTurn_98 : decode cX3_takeTurn 98 = .ok (.aload_n 0, 1) := by decide +kernel
theorem dX3_takeTurn_99 : decode cX3_takeTurn 99 = .ok (.getfield 41, 3) := by decide +kernel
theorem dX3_takeTurn_102 : decode cX3_takeTurn 102 = .ok (.iload_n 2, 1) := by decide +kernel
theorem dX3_takeTurn_103 : decode cX3_takeTurn 103 = .ok (.iload_n 3, 1) := by decide +kernel
theorem dX3_takeTurn_104 : decode cX3_takeTurn 104 = .ok (.invokevirtual 108, 3) := by decide +kernel
theorem dX3_takeTurn_107 : decode cX3_takeTurn 107 = .ok (.pop, 1) := by decide +kernel
theorem dX3_takeTurn_108 : decode cX3_takeTurn 108 = .ok (.goto 13, 3) := by decide +kernel
theorem dX3_takeTurn_111 : decode cX3_takeTurn 111 = .ok (.aload_n 0, 1) := by decide +kernel
theorem dX3_takeTurn_112 : decode cX3_takeTurn 112 = .ok (.getfield 41, 3) := by decide +kernel
theorem dX3_takeTurn_115 : decode cX3_takeTurn 115 = .ok (.iload_n 2, 1) := by decide +kernel
theorem dX3_takeTurn_116 : decode cX3_takeTurn 116 = .ok (.iload_n 3, 1) := by decide +kernel
theorem dX3_takeTurn_117 : decode cX3_takeTurn 117 = .ok (.invokevirtual 105, 3) := by decide +kernel
theorem dX3_takeTurn_120 : decode cX3_takeTurn 120 = .ok (.pop, 1) := by decide +kernel
theorem dX3_takeTurn_121 : decode cX3_takeTurn 121 = .ok (.return_, 1) := by decide +kernel
theorem dX3_save_0 : decode cX3_save 0 = .ok (.iload_n 1, 1) := by decide +kernel
theorem dX3_save_1 : decode cX3_save 1 = .ok (.invokestatic 263, 3) := by decide +kernel
theorem dX3_save_4 : decode cX3_save 4 = .ok (.aload_n 0, 1) := by decide +kernel
theorem dX3_save_5 : decode cX3_save 5 = .ok (.getfield 30, 3) := by decide +kernel
theorem dX3_save_8 : decode cX3_save 8 = .ok (.iload_n 1, 1) := by decide +kernel
theorem dX3_save_9 : decode cX3_save 9 = .ok (.aaload, 1) := by decide +kernel
theorem dX3_save_10 : decode cX3_save 10 = .ok (.aload_n 0, 1) := by decide +kernel
theorem dX3_save_11 : decode cX3_save 11 = .ok (.getfield 19, 3) := by decide +kernel
theorem dX3_save_14 : decode cX3_save 14 = .ok (.invokevirtual 76, 3) := by decide +kernel
theorem dX3_save_17 : decode cX3_save 17 = .ok (.aload_n 0, 1) := by decide +kernel
theorem dX3_save_18 : decode cX3_save 18 = .ok (.getfield 34, 3) := by decide +kernel
theorem dX3_save_21 : decode cX3_save 21 = .ok (.iload_n 1, 1) := by decide +kernel
theorem dX3_save_22 : decode cX3_save 22 = .ok (.iconst 1, 1) := by decide +kernel
theorem dX3_save_23 : decode cX3_save 23 = .ok (.bastore, 1) := by decide +kernel
theorem dX3_save_24 : decode cX3_save 24 = .ok (.aload_n 0, 1) := by decide +kernel
theorem dX3_save_25 : decode cX3_save 25 = .ok (.getfield 19, 3) := by decide +kernel
theorem dX3_save_28 : decode cX3_save 28 = .ok (.invokevirtual 255, 3) := by decide +kernel
theorem dX3_save_31 : decode cX3_save 31 = .ok (.ireturn, 1) := by decide +kernel
theorem dX3_restore_0 : decode cX3_restore 0 = .ok (.iload_n 1, 1) := by decide +kernel
theorem dX3_restore_1 : decode cX3_restore 1 = .ok (.invokestatic 263, 3) := by decide +kernel
theorem dX3_restore_4 : decode cX3_restore 4 = .ok (.aload_n 0, 1) := by decide +kernel
theorem dX3_restore_5 : decode cX3_restore 5 = .ok (.getfield 34, 3) := by decide +kernel
theorem dX3_restore_8 : decode cX3_restore 8 = .ok (.iload_n 1, 1) := by decide +kernel
theorem dX3_restore_9 : decode cX3_restore 9 = .ok (.baload, 1) := by decide +kernel
theorem dX3_restore_10 : decode cX3_restore 10 = .ok (.ifCond .ne 14, 3) := by decide +kernel
theorem dX3_restore_13 : decode cX3_restore 13 = .ok (.new 58, 3) := by decide +kernel
theorem dX3_restore_16 : decode cX3_restore 16 = .ok (.dup, 1) := by decide +kernel
theorem dX3_restore_17 : decode cX3_restore 17 = .ok (.ldc_w 266, 3) := by decide +kernel
theorem dX3_restore_20 : decode cX3_restore 20 = .ok (.invokespecial 62, 3) := by decide +kernel
theorem dX3_restore_23 : decode cX3_restore 23 = .ok (.athrow, 1) := by decide +kernel
theorem dX3_restore_24 : decode cX3_restore 24 = .ok (.aload_n 0, 1) := by decide +kernel
theorem dX3_restore_25 : decode cX3_restore 25 = .ok (.getfield 19, 3) := by decide +kernel
theorem dX3_restore_28 : decode cX3_restore 28 = .ok (.aload_n 0, 1) := by decide +kernel
theorem dX3_restore_29 : decode cX3_restore 29 = .ok (.getfield 30, 3) := by decide +kernel
theorem dX3_restore_32 : decode cX3_restore 32 = .ok (.iload_n 1, 1) := by decide +kernel
theorem dX3_restore_33 : decode cX3_restore 33 = .ok (.aaload, 1) := by decide +kernel
theorem dX3_restore_34 : decode cX3_restore 34 = .ok (.invokevirtual 76, 3) := by decide +kernel
theorem dX3_restore_37 : decode cX3_restore 37 = .ok (.aload_n 0, 1) := by decide +kernel
theorem dX3_restore_38 : decode cX3_restore 38 = .ok (.getfield 26, 3) := by decide +kernel
theorem dX3_restore_41 : decode cX3_restore 41 = .ok (.invokevirtual 80, 3) := by decide +kernel
theorem dX3_restore_44 : decode cX3_restore 44 = .ok (.aload_n 0, 1) := by decide +kernel
theorem dX3_restore_45 : decode cX3_restore 45 = .ok (.getfield 19, 3) := by decide +kernel
theorem dX3_restore_48 : decode cX3_restore 48 = .ok (.invokevirtual 255, 3) := by decide +kernel
theorem dX3_restore_51 : decode cX3_restore 51 = .ok (.ireturn, 1) := by decide +kernel
theorem dX3_needSpace_0 : decode cX3_needSpace 0 = .ok (.aload_n 0, 1) := by decide +kernel
theorem dX3_needSpace_1 : decode cX3_needSpace 1 = .ok (.getfield 19, 3) := by decide +kernel
theorem dX3_needSpace_4 : decode cX3_needSpace 4 = .ok (.iload_n 1, 1) := by decide +kernel
theorem dX3_needSpace_5 : decode cX3_needSpace 5 = .ok (.invokevirtual 239, 3) := by decide +kernel
theorem dX3_needSpace_8 : decode cX3_needSpace 8 = .ok (.ifCond .ne 14, 3) := by decide +kernel
theorem dX3_needSpace_11 : decode cX3_needSpace 11 = .ok (.new 268, 3) := by decide +kernel
theorem dX3_needSpace_14 : decode cX3_needSpace 14 = .ok (.dup, 1) := by decide +kernel
theorem dX3_needSpace_15 : decode cX3_needSpace 15 = .ok (.ldc_w 270, 3) := by decide +kernel
theorem dX3_needSpace_18 : decode cX3_needSpace 18 = .ok (.invokespecial 272, 3) := by decide +kernel
theorem dX3_needSpace_21 : decode cX3_needSpace 21 = .ok (.athrow, 1) := by decide +kernel
theorem dX3_needSpace_22 : decode cX3_needSpace 22 = .ok (.return_, 1) := by decide +kernel
theorem dX3_needPage_0 : decode cX3_needPage 0 = .ok (.aload_n 0, 1) := by decide +kernel
theorem dX3_needPage_1 : decode cX3_needPage 1 = .ok (.getfield 19, 3) := by decide +kernel
theorem dX3_needPage_4 : decode cX3_needPage 4 = .ok (.iload_n 1, 1) := by decide +kernel
theorem dX3_needPage_5 : decode cX3_needPage 5 = .ok (.iload_n 2, 1) := by decide +kernel
theorem dX3_needPage_6 : decode cX3_needPage 6 = .ok (.invokevirtual 273, 3) := by decide +kernel
theorem dX3_needPage_9 : decode cX3_needPage 9 = .ok (.ifCond .ne 14, 3) := by decide +kernel
theorem dX3_needPage_12 : decode cX3_needPage 12 = .ok (.new 268, 3) := by decide +kernel
theorem dX3_needPage_15 : decode cX3_needPage 15 = .ok (.dup, 1) := by decide +kernel
theorem dX3_needPage_16 : decode cX3_needPage 16 = .ok (.ldc_w 276, 3) := by decide +kernel
theorem dX3_needPage_19 : decode cX3_needPage 19 = .ok (.invokespecial 272, 3) := by decide +kernel
theorem dX3_needPage_22 : decode cX3_needPage 22 = .ok (.athrow, 1) := by decide +kernel
theorem dX3_needPage_23 : decode cX3_needPage 23 = .ok (.return_, 1) := by decide +kernel
theorem dX3_needSlot_0 : decode cX3_needSlot 0 = .ok (.iload_n 0, 1) := by decide +kernel
theorem dX3_needSlot_1 : decode cX3_needSlot 1 = .ok (.ifCond .lt 8, 3) := by decide +kernel
theorem dX3_needSlot_4 : decode cX3_needSlot 4 = .ok (.iload_n 0, 1) := by decide +kernel
theorem dX3_needSlot_5 : decode cX3_needSlot 5 = .ok (.iconst 2, 1) := by decide +kernel
theorem dX3_needSlot_6 : decode cX3_needSlot 6 = .ok (.if_icmp .lt 14, 3) := by decide +kernel
theorem dX3_needSlot_9 : decode cX3_needSlot 9 = .ok (.new 268, 3) := by decide +kernel
theorem dX3_needSlot_12 : decode cX3_needSlot 12 = .ok (.dup, 1) := by decide +kernel
theorem dX3_needSlot_13 : decode cX3_needSlot 13 = .ok (.ldc_w 278, 3) := by decide +kernel
theorem dX3_needSlot_16 : decode cX3_needSlot 16 = .ok (.invokespecial 272, 3) := by decide +kernel
theorem dX3_needSlot_19 : decode cX3_needSlot 19 = .ok (.athrow, 1) := by decide +kernel
theorem dX3_needSlot_20 : decode cX3_needSlot 20 = .ok (.return_, 1) := by decide +kernel
theorem dJ9_max_7cf53_0 : decode cJ9_max_7cf53 0 = .ok (.iload_n 0, 1) := by decide +kernel
theorem dJ9_max_7cf53_1 : decode cJ9_max_7cf53 1 = .ok (.iload_n 1, 1) := by decide +kernel
theorem dJ9_max_7cf53_2 : decode cJ9_max_7cf53 2 = .ok (.if_icmp .lt 7, 3) := by decide +kernel
theorem dJ9_max_7cf53_5 : decode cJ9_max_7cf53 5 = .ok (.iload_n 0, 1) := by decide +kernel
theorem dJ9_max_7cf53_6 : decode cJ9_max_7cf53 6 = .ok (.goto 4, 3) := by decide +kernel
theorem dJ9_max_7cf53_9 : decode cJ9_max_7cf53 9 = .ok (.iload_n 1, 1) := by decide +kernel
theorem dJ9_max_7cf53_10 : decode cJ9_max_7cf53 10 = .ok (.ireturn, 1) := by decide +kernel
theorem dJ9_min_7cf53_0 : decode cJ9_min_7cf53 0 = .ok (.iload_n 0, 1) := by decide +kernel
theorem dJ9_min_7cf53_1 : decode cJ9_min_7cf53 1 = .ok (.iload_n 1, 1) := by decide +kernel
theorem dJ9_min_7cf53_2 : decode cJ9_min_7cf53 2 = .ok (.if_icmp .gt 7, 3) := by decide +kernel
theorem dJ9_min_7cf53_5 : decode cJ9_min_7cf53 5 = .ok (.iload_n 0, 1) := by decide +kernel
theorem dJ9_min_7cf53_6 : decode cJ9_min_7cf53 6 = .ok (.goto 4, 3) := by decide +kernel
theorem dJ9_min_7cf53_9 : decode cJ9_min_7cf53 9 = .ok (.iload_n 1, 1) := by decide +kernel
theorem dJ9_min_7cf53_10 : decode cJ9_min_7cf53 10 = .ok (.ireturn, 1) := by decide +kernel
theorem dJ0_length_8abf5_0 : decode cJ0_length_8abf5 0 = .ok (.aload_n 0, 1) := by decide +kernel
theorem dJ0_length_8abf5_1 : decode cJ0_length_8abf5 1 = .ok (.getfield 9, 3) := by decide +kernel
theorem dJ0_length_8abf5_4 : decode cJ0_length_8abf5 4 = .ok (.arraylength, 1) := by decide +kernel
theorem dJ0_length_8abf5_5 : decode cJ0_length_8abf5 5 = .ok (.aload_n 0, 1) := by decide +kernel
theorem dJ0_length_8abf5_6 : decode cJ0_length_8abf5 6 = .ok (.invokevirtual 335, 3) := by decide +kernel
theorem dJ0_length_8abf5_9 : decode cJ0_length_8abf5 9 = .ok (.ishr, 1) := by decide +kernel
theorem dJ0_length_8abf5_10 : decode cJ0_length_8abf5 10 = .ok (.ireturn, 1) := by decide +kernel
theorem dJ0_isEmpty_aae02_0 : decode cJ0_isEmpty_aae02 0 = .ok (.aload_n 0, 1) := by decide +kernel
theorem dJ0_isEmpty_aae02_1 : decode cJ0_isEmpty_aae02 1 = .ok (.getfield 9, 3) := by decide +kernel
theorem dJ0_isEmpty_aae02_4 : decode cJ0_isEmpty_aae02 4 = .ok (.arraylength, 1) := by decide +kernel
theorem dJ0_isEmpty_aae02_5 : decode cJ0_isEmpty_aae02 5 = .ok (.ifCond .ne 7, 3) := by decide +kernel
theorem dJ0_isEmpty_aae02_8 : decode cJ0_isEmpty_aae02 8 = .ok (.iconst 1, 1) := by decide +kernel
theorem dJ0_isEmpty_aae02_9 : decode cJ0_isEmpty_aae02 9 = .ok (.goto 4, 3) := by decide +kernel
theorem dJ0_isEmpty_aae02_12 : decode cJ0_isEmpty_aae02 12 = .ok (.iconst 0, 1) := by decide +kernel
theorem dJ0_isEmpty_aae02_13 : decode cJ0_isEmpty_aae02 13 = .ok (.ireturn, 1) := by decide +kernel
theorem dJ0_charAt_5068e_0 : decode cJ0_charAt_5068e 0 = .ok (.aload_n 0, 1) := by decide +kernel
theorem dJ0_charAt_5068e_1 : decode cJ0_charAt_5068e 1 = .ok (.invokevirtual 492, 3) := by decide +kernel
theorem dJ0_charAt_5068e_4 : decode cJ0_charAt_5068e 4 = .ok (.ifCond .eq 12, 3) := by decide +kernel
theorem dJ0_charAt_5068e_7 : decode cJ0_charAt_5068e 7 = .ok (.aload_n 0, 1) := by decide +kernel
theorem dJ0_charAt_5068e_8 : decode cJ0_charAt_5068e 8 = .ok (.getfield 9, 3) := by decide +kernel
theorem dJ0_charAt_5068e_11 : decode cJ0_charAt_5068e 11 = .ok (.iload_n 1, 1) := by decide +kernel
theorem dJ0_charAt_5068e_12 : decode cJ0_charAt_5068e 12 = .ok (.invokestatic 495, 3) := by decide +kernel
theorem dJ0_charAt_5068e_15 : decode cJ0_charAt_5068e 15 = .ok (.ireturn, 1) := by decide +kernel
theorem dJ0_charAt_5068e_16 : decode cJ0_charAt_5068e 16 = .ok (.aload_n 0, 1) := by decide +kernel
theorem dJ0_charAt_5068e_17 : decode cJ0_charAt_5068e 17 = .ok (.getfield 9, 3) := by decide +kernel
theorem dJ0_charAt_5068e_20 : decode cJ0_charAt_5068e 20 = .ok (.iload_n 1, 1) := by decide +kernel
theorem dJ0_charAt_5068e_21 : decode cJ0_charAt_5068e 21 = .ok (.invokestatic 498, 3) := by decide +kernel
theorem dJ0_charAt_5068e_24 : decode cJ0_charAt_5068e 24 = .ok (.ireturn, 1) := by decide +kernel
theorem dJ0_coder_7d493_0 : decode cJ0_coder_7d493 0 = .ok (.getstatic 38, 3) := by decide +kernel
theorem dJ0_coder_7d493_3 : decode cJ0_coder_7d493 3 = .ok (.ifCond .eq 10, 3) := by decide +kernel
theorem dJ0_coder_7d493_6 : decode cJ0_coder_7d493 6 = .ok (.aload_n 0, 1) := by decide +kernel
theorem dJ0_coder_7d493_7 : decode cJ0_coder_7d493 7 = .ok (.getfield 15, 3) := by decide +kernel
theorem dJ0_coder_7d493_10 : decode cJ0_coder_7d493 10 = .ok (.goto 4, 3) := by decide +kernel
theorem dJ0_coder_7d493_13 : decode cJ0_coder_7d493 13 = .ok (.iconst 1, 1) := by decide +kernel
theorem dJ0_coder_7d493_14 : decode cJ0_coder_7d493 14 = .ok (.ireturn, 1) := by decide +kernel
theorem dJ0_isLatin1_aae02_0 : decode cJ0_isLatin1_aae02 0 = .ok (.getstatic 38, 3) := by decide +kernel
theorem dJ0_isLatin1_aae02_3 : decode cJ0_isLatin1_aae02 3 = .ok (.ifCond .eq 14, 3) := by decide +kernel
theorem dJ0_isLatin1_aae02_6 : decode cJ0_isLatin1_aae02 6 = .ok (.aload_n 0, 1) := by decide +kernel
theorem dJ0_isLatin1_aae02_7 : decode cJ0_isLatin1_aae02 7 = .ok (.getfield 15, 3) := by decide +kernel
theorem dJ0_isLatin1_aae02_10 : decode cJ0_isLatin1_aae02 10 = .ok (.ifCond .ne 7, 3) := by decide +kernel
theorem dJ0_isLatin1_aae02_13 : decode cJ0_isLatin1_aae02 13 = .ok (.iconst 1, 1) := by decide +kernel
theorem dJ0_isLatin1_aae02_14 : decode cJ0_isLatin1_aae02 14 = .ok (.goto 4, 3) := by decide +kernel
theorem dJ0_isLatin1_aae02_17 : decode cJ0_isLatin1_aae02 17 = .ok (.iconst 0, 1) := by decide +kernel
theorem dJ0_isLatin1_aae02_18 : decode cJ0_isLatin1_aae02 18 = .ok (.ireturn, 1) := by decide +kernel
theorem dJ0_checkIndex_df160_0 : decode cJ0_checkIndex_df160 0 = .ok (.iload_n 0, 1) := by decide +kernel
theorem dJ0_checkIndex_df160_1 : decode cJ0_checkIndex_df160 1 = .ok (.iload_n 1, 1) := by decide +kernel
theorem dJ0_checkIndex_df160_2 : decode cJ0_checkIndex_df160 2 = .ok (.getstatic 1053, 3) := by decide +kernel
theorem dJ0_checkIndex_df160_5 : decode cJ0_checkIndex_df160 5 = .ok (.invokestatic 1059, 3) := by decide +kernel
theorem dJ0_checkIndex_df160_8 : decode cJ0_checkIndex_df160 8 = .ok (.pop, 1) := by decide +kernel
theorem dJ0_checkIndex_df160_9 : decode cJ0_checkIndex_df160 9 = .ok (.return_, 1) := by decide +kernel
theorem dJ1_charAt_3b067_0 : decode cJ1_charAt_3b067 0 = .ok (.iload_n 1, 1) := by decide +kernel
theorem dJ1_charAt_3b067_1 : decode cJ1_charAt_3b067 1 = .ok (.aload_n 0, 1) := by decide +kernel
theorem dJ1_charAt_3b067_2 : decode cJ1_charAt_3b067 2 = .ok (.arraylength, 1) := by decide +kernel
theorem dJ1_charAt_3b067_3 : decode cJ1_charAt_3b067 3 = .ok (.invokestatic 9, 3) := by decide +kernel
theorem dJ1_charAt_3b067_6 : decode cJ1_charAt_3b067 6 = .ok (.aload_n 0, 1) := by decide +kernel
theorem dJ1_charAt_3b067_7 : decode cJ1_charAt_3b067 7 = .ok (.iload_n 1, 1) := by decide +kernel
theorem dJ1_charAt_3b067_8 : decode cJ1_charAt_3b067 8 = .ok (.baload, 1) := by decide +kernel
theorem dJ1_charAt_3b067_9 : decode cJ1_charAt_3b067 9 = .ok (.sipush 255, 3) := by decide +kernel
theorem dJ1_charAt_3b067_12 : decode cJ1_charAt_3b067 12 = .ok (.iand, 1) := by decide +kernel
theorem dJ1_charAt_3b067_13 : decode cJ1_charAt_3b067 13 = .ok (.i2c, 1) := by decide +kernel
theorem dJ1_charAt_3b067_14 : decode cJ1_charAt_3b067 14 = .ok (.ireturn, 1) := by decide +kernel
theorem dJ2_getChar_3b067_0 : decode cJ2_getChar_3b067 0 = .ok (.getstatic 44, 3) := by decide +kernel
theorem dJ2_getChar_3b067_3 : decode cJ2_getChar_3b067 3 = .ok (.ifCond .ne 25, 3) := by decide +kernel
theorem dJ2_getChar_3b067_6 : decode cJ2_getChar_3b067 6 = .ok (.iload_n 1, 1) := by decide +kernel
theorem dJ2_getChar_3b067_7 : decode cJ2_getChar_3b067 7 = .ok (.ifCond .lt 11, 3) := by decide +kernel
theorem dJ2_getChar_3b067_10 : decode cJ2_getChar_3b067 10 = .ok (.iload_n 1, 1) := by decide +kernel
theorem dJ2_getChar_3b067_11 : decode cJ2_getChar_3b067 11 = .ok (.aload_n 0, 1) := by decide +kernel
theorem dJ2_getChar_3b067_12 : decode cJ2_getChar_3b067 12 = .ok (.invokestatic 48, 3) := by decide +kernel
theorem dJ2_getChar_3b067_15 : decode cJ2_getChar_3b067 15 = .ok (.if_icmp .lt 13, 3) := by decide +kernel
theorem dJ2_getChar_3b067_18 : decode cJ2_getChar_3b067 18 = .ok (.new 52, 3) := by decide +kernel
theorem dJ2_getChar_3b067_21 : decode cJ2_getChar_3b067 21 = .ok (.dup, 1) := by decide +kernel
theorem dJ2_getChar_3b067_22 : decode cJ2_getChar_3b067 22 = .ok (.ldc 54, 2) := by decide +kernel
theorem dJ2_getChar_3b067_24 : decode cJ2_getChar_3b067 24 = .ok (.invokespecial 56, 3) := by decide +kernel
theorem dJ2_getChar_3b067_27 : decode cJ2_getChar_3b067 27 = .ok (.athrow, 1) := by decide +kernel
theorem dJ2_getChar_3b067_28 : decode cJ2_getChar_3b067 28 = .ok (.iload_n 1, 1) := by decide +kernel
theorem dJ2_getChar_3b067_29 : decode cJ2_getChar_3b067 29 = .ok (.iconst 1, 1) := by decide +kernel
theorem dJ2_getChar_3b067_30 : decode cJ2_getChar_3b067 30 = .ok (.ishl, 1) := by decide +kernel
theorem dJ2_getChar_3b067_31 : decode cJ2_getChar_3b067 31 = .ok (.istore_n 1, 1) := by decide +kernel
theorem dJ2_getChar_3b067_32 : decode cJ2_getChar_3b067 32 = .ok (.aload_n 0, 1) := by decide +kernel
theorem dJ2_getChar_3b067_33 : decode cJ2_getChar_3b067 33 = .ok (.iload_n 1, 1) := by decide +kernel
theorem dJ2_getChar_3b067_34 : decode cJ2_getChar_3b067 34 = .ok (.iinc 1 1, 3) := by decide +kernel
theorem dJ2_getChar_3b067_37 : decode cJ2_getChar_3b067 37 = .ok (.baload, 1) := by decide +kernel
theorem dJ2_getChar_3b067_38 : decode cJ2_getChar_3b067 38 = .ok (.sipush 255, 3) := by decide +kernel
theorem dJ2_getChar_3b067_41 : decode cJ2_getChar_3b067 41 = .ok (.iand, 1) := by decide +kernel
theorem dJ2_getChar_3b067_42 : decode cJ2_getChar_3b067 42 = .ok (.getstatic 59, 3) := by decide +kernel
theorem dJ2_getChar_3b067_45 : decode cJ2_getChar_3b067 45 = .ok (.ishl, 1) := by decide +kernel
theorem dJ2_getChar_3b067_46 : decode cJ2_getChar_3b067 46 = .ok (.aload_n 0, 1) := by decide +kernel
theorem dJ2_getChar_3b067_47 : decode cJ2_getChar_3b067 47 = .ok (.iload_n 1, 1) := by decide +kernel
theorem dJ2_getChar_3b067_48 : decode cJ2_getChar_3b067 48 = .ok (.baload, 1) := by decide +kernel
theorem dJ2_getChar_3b067_49 : decode cJ2_getChar_3b067 49 = .ok (.sipush 255, 3) := by decide +kernel
theorem dJ2_getChar_3b067_52 : decode cJ2_getChar_3b067 52 = .ok (.iand, 1) := by decide +kernel
theorem dJ2_getChar_3b067_53 : decode cJ2_getChar_3b067 53 = .ok (.getstatic 63, 3) := by decide +kernel
theorem dJ2_getChar_3b067_56 : decode cJ2_getChar_3b067 56 = .ok (.ishl, 1) := by decide +kernel
theorem dJ2_getChar_3b067_57 : decode cJ2_getChar_3b067 57 = .ok (.ior, 1) := by decide +kernel
theorem dJ2_getChar_3b067_58 : decode cJ2_getChar_3b067 58 = .ok (.i2c, 1) := by decide +kernel
theorem dJ2_getChar_3b067_59 : decode cJ2_getChar_3b067 59 = .ok (.ireturn, 1) := by decide +kernel
theorem dJ2_length_9d52b_0 : decode cJ2_length_9d52b 0 = .ok (.aload_n 0, 1) := by decide +kernel
theorem dJ2_length_9d52b_1 : decode cJ2_length_9d52b 1 = .ok (.arraylength, 1) := by decide +kernel
theorem dJ2_length_9d52b_2 : decode cJ2_length_9d52b 2 = .ok (.iconst 1, 1) := by decide +kernel
theorem dJ2_length_9d52b_3 : decode cJ2_length_9d52b 3 = .ok (.ishr, 1) := by decide +kernel
theorem dJ2_length_9d52b_4 : decode cJ2_length_9d52b 4 = .ok (.ireturn, 1) := by decide +kernel
theorem dJ2_charAt_3b067_0 : decode cJ2_charAt_3b067 0 = .ok (.iload_n 1, 1) := by decide +kernel
theorem dJ2_charAt_3b067_1 : decode cJ2_charAt_3b067 1 = .ok (.aload_n 0, 1) := by decide +kernel
theorem dJ2_charAt_3b067_2 : decode cJ2_charAt_3b067 2 = .ok (.invokestatic 67, 3) := by decide +kernel
theorem dJ2_charAt_3b067_5 : decode cJ2_charAt_3b067 5 = .ok (.aload_n 0, 1) := by decide +kernel
theorem dJ2_charAt_3b067_6 : decode cJ2_charAt_3b067 6 = .ok (.iload_n 1, 1) := by decide +kernel
theorem dJ2_charAt_3b067_7 : decode cJ2_charAt_3b067 7 = .ok (.invokestatic 71, 3) := by decide +kernel
theorem dJ2_charAt_3b067_10 : decode cJ2_charAt_3b067 10 = .ok (.ireturn, 1) := by decide +kernel
theorem dJ2_checkIndex_2214a_0 : decode cJ2_checkIndex_2214a 0 = .ok (.iload_n 0, 1) := by decide +kernel
theorem dJ2_checkIndex_2214a_1 : decode cJ2_checkIndex_2214a 1 = .ok (.aload_n 1, 1) := by decide +kernel
theorem dJ2_checkIndex_2214a_2 : decode cJ2_checkIndex_2214a 2 = .ok (.invokestatic 48, 3) := by decide +kernel
theorem dJ2_checkIndex_2214a_5 : decode cJ2_checkIndex_2214a 5 = .ok (.invokestatic 414, 3) := by decide +kernel
theorem dJ2_checkIndex_2214a_8 : decode cJ2_checkIndex_2214a 8 = .ok (.return_, 1) := by decide +kernel
theorem dJ3_checkIndex_8e157_0 : decode cJ3_checkIndex_8e157 0 = .ok (.iload_n 0, 1) := by decide +kernel
theorem dJ3_checkIndex_8e157_1 : decode cJ3_checkIndex_8e157 1 = .ok (.ifCond .lt 8, 3) := by decide +kernel
theorem dJ3_checkIndex_8e157_4 : decode cJ3_checkIndex_8e157 4 = .ok (.iload_n 0, 1) := by decide +kernel
theorem dJ3_checkIndex_8e157_5 : decode cJ3_checkIndex_8e157 5 = .ok (.iload_n 1, 1) := by decide +kernel
theorem dJ3_checkIndex_8e157_6 : decode cJ3_checkIndex_8e157 6 = .ok (.if_icmp .lt 10, 3) := by decide +kernel
theorem dJ3_checkIndex_8e157_9 : decode cJ3_checkIndex_8e157 9 = .ok (.aload_n 2, 1) := by decide +kernel
theorem dJ3_checkIndex_8e157_10 : decode cJ3_checkIndex_8e157 10 = .ok (.iload_n 0, 1) := by decide +kernel
theorem dJ3_checkIndex_8e157_11 : decode cJ3_checkIndex_8e157 11 = .ok (.iload_n 1, 1) := by decide +kernel
theorem dJ3_checkIndex_8e157_12 : decode cJ3_checkIndex_8e157 12 = .ok (.invokestatic 95, 3) := by decide +kernel
theorem dJ3_checkIndex_8e157_15 : decode cJ3_checkIndex_8e157 15 = .ok (.athrow, 1) := by decide +kernel
theorem dJ3_checkIndex_8e157_16 : decode cJ3_checkIndex_8e157 16 = .ok (.iload_n 0, 1) := by decide +kernel
theorem dJ3_checkIndex_8e157_17 : decode cJ3_checkIndex_8e157 17 = .ok (.ireturn, 1) := by decide +kernel
theorem dL_tryScript_0 : decode cL_tryScript 0 = .ok (.aload_n 0, 1) := by decide +kernel
theorem dL_tryScript_1 : decode cL_tryScript 1 = .ok (.iload_n 1, 1) := by decide +kernel
theorem dL_tryScript_2 : decode cL_tryScript 2 = .ok (.lload_n 2, 1) := by decide +kernel
theorem dL_tryScript_3 : decode cL_tryScript 3 = .ok (.invokevirtual 7, 3) := by decide +kernel
theorem dL_tryScript_6 : decode cL_tryScript 6 = .ok (.ireturn, 1) := by decide +kernel
theorem dL_tryScript_7 : decode cL_tryScript 7 = .ok (.astore 4, 2) := by decide +kernel
theorem dL_tryScript_9 : decode cL_tryScript 9 = .ok (.ldc 15, 2) := by decide +kernel
theorem dL_tryScript_11 : decode cL_tryScript 11 = .ok (.ireturn, 1) := by decide +kernel
theorem dL_trySimulate_0 : decode cL_trySimulate 0 = .ok (.aload_n 0, 1) := by decide +kernel
theorem dL_trySimulate_1 : decode cL_trySimulate 1 = .ok (.lload_n 1, 1) := by decide +kernel
theorem dL_trySimulate_2 : decode cL_trySimulate 2 = .ok (.iload_n 3, 1) := by decide +kernel
theorem dL_trySimulate_3 : decode cL_trySimulate 3 = .ok (.invokevirtual 16, 3) := by decide +kernel
theorem dL_trySimulate_6 : decode cL_trySimulate 6 = .ok (.ireturn, 1) := by decide +kernel
theorem dL_trySimulate_7 : decode cL_trySimulate 7 = .ok (.astore 4, 2) := by decide +kernel
theorem dL_trySimulate_9 : decode cL_trySimulate 9 = .ok (.ldc 15, 2) := by decide +kernel
theorem dL_trySimulate_11 : decode cL_trySimulate 11 = .ok (.ireturn, 1) := by decide +kernel
theorem dL_tryAppend_0 : decode cL_tryAppend 0 = .ok (.aload_n 0, 1) := by decide +kernel
theorem dL_tryAppend_1 : decode cL_tryAppend 1 = .ok (.iload_n 1, 1) := by decide +kernel
theorem dL_tryAppend_2 : decode cL_tryAppend 2 = .ok (.invokevirtual 20, 3) := by decide +kernel
theorem dL_tryAppend_5 : decode cL_tryAppend 5 = .ok (.ireturn, 1) := by decide +kernel
theorem dL_tryAppend_6 : decode cL_tryAppend 6 = .ok (.astore_n 2, 1) := by decide +kernel
theorem dL_tryAppend_7 : decode cL_tryAppend 7 = .ok (.ldc 15, 2) := by decide +kernel
theorem dL_tryAppend_9 : decode cL_tryAppend 9 = .ok (.ireturn, 1) := by decide +kernel
theorem dL_tryAppend_10 : decode cL_tryAppend 10 = .ok (.astore_n 2, 1) := by decide +kernel
theorem dL_tryAppend_11 : decode cL_tryAppend 11 = .ok (.ldc 26, 2) := by decide +kernel
theorem dL_tryAppend_13 : decode cL_tryAppend 13 = .ok (.ireturn, 1) := by decide +kernel
theorem dL_tryLoad_0 : decode cL_tryLoad 0 = .ok (.aload_n 0, 1) := by decide +kernel
theorem dL_tryLoad_1 : decode cL_tryLoad 1 = .ok (.invokevirtual 27, 3) := by decide +kernel
theorem dL_tryLoad_4 : decode cL_tryLoad 4 = .ok (.ireturn, 1) := by decide +kernel
theorem dL_tryLoad_5 : decode cL_tryLoad 5 = .ok (.astore_n 1, 1) := by decide +kernel
theorem dL_tryLoad_6 : decode cL_tryLoad 6 = .ok (.ldc 26, 2) := by decide +kernel
theorem dL_tryLoad_8 : decode cL_tryLoad 8 = .ok (.ireturn, 1) := by decide +kernel
theorem dL_tryAbout_0 : decode cL_tryAbout 0 = .ok (.aload_n 0, 1) := by decide +kernel
theorem dL_tryAbout_1 : decode cL_tryAbout 1 = .ok (.iload_n 1, 1) := by decide +kernel
theorem dL_tryAbout_2 : decode cL_tryAbout 2 = .ok (.invokevirtual 31, 3) := by decide +kernel
theorem dL_tryAbout_5 : decode cL_tryAbout 5 = .ok (.ireturn, 1) := by decide +kernel
theorem dL_tryAbout_6 : decode cL_tryAbout 6 = .ok (.astore_n 2, 1) := by decide +kernel
theorem dL_tryAbout_7 : decode cL_tryAbout 7 = .ok (.ldc 15, 2) := by decide +kernel
theorem dL_tryAbout_9 : decode cL_tryAbout 9 = .ok (.ireturn, 1) := by decide +kernel
theorem dL_trySpace_0 : decode cL_trySpace 0 = .ok (.aload_n 0, 1) := by decide +kernel
theorem dL_trySpace_1 : decode cL_trySpace 1 = .ok (.iload_n 1, 1) := by decide +kernel
theorem dL_trySpace_2 : decode cL_trySpace 2 = .ok (.iload_n 2, 1) := by decide +kernel
theorem dL_trySpace_3 : decode cL_trySpace 3 = .ok (.invokevirtual 34, 3) := by decide +kernel
theorem dL_trySpace_6 : decode cL_trySpace 6 = .ok (.ireturn, 1) := by decide +kernel
theorem dL_trySpace_7 : decode cL_trySpace 7 = .ok (.astore_n 3, 1) := by decide +kernel
theorem dL_trySpace_8 : decode cL_trySpace 8 = .ok (.ldc 40, 2) := by decide +kernel
theorem dL_trySpace_10 : decode cL_trySpace 10 = .ok (.ireturn, 1) := by decide +kernel
theorem dL_trySpace_11 : decode cL_trySpace 11 = .ok (.astore_n 3, 1) := by decide +kernel
theorem dL_trySpace_12 : decode cL_trySpace 12 = .ok (.ldc 15, 2) := by decide +kernel
theorem dL_trySpace_14 : decode cL_trySpace 14 = .ok (.ireturn, 1) := by decide +kernel
theorem dL_tryLoans_0 : decode cL_tryLoans 0 = .ok (.aload_n 0, 1) := by decide +kernel
theorem dL_tryLoans_1 : decode cL_tryLoans 1 = .ok (.iload_n 1, 1) := by decide +kernel
theorem dL_tryLoans_2 : decode cL_tryLoans 2 = .ok (.iload_n 2, 1) := by decide +kernel
theorem dL_tryLoans_3 : decode cL_tryLoans 3 = .ok (.invokevirtual 41, 3) := by decide +kernel
theorem dL_tryLoans_6 : decode cL_tryLoans 6 = .ok (.ireturn, 1) := by decide +kernel
theorem dL_tryLoans_7 : decode cL_tryLoans 7 = .ok (.astore_n 3, 1) := by decide +kernel
theorem dL_tryLoans_8 : decode cL_tryLoans 8 = .ok (.ldc 40, 2) := by decide +kernel
theorem dL_tryLoans_10 : decode cL_tryLoans 10 = .ok (.ireturn, 1) := by decide +kernel
theorem dL_tryTime_0 : decode cL_tryTime 0 = .ok (.aload_n 0, 1) := by decide +kernel
theorem dL_tryTime_1 : decode cL_tryTime 1 = .ok (.iload_n 1, 1) := by decide +kernel
theorem dL_tryTime_2 : decode cL_tryTime 2 = .ok (.iload_n 2, 1) := by decide +kernel
theorem dL_tryTime_3 : decode cL_tryTime 3 = .ok (.invokevirtual 44, 3) := by decide +kernel
theorem dL_tryTime_6 : decode cL_tryTime 6 = .ok (.ireturn, 1) := by decide +kernel
theorem dL_tryTime_7 : decode cL_tryTime 7 = .ok (.astore_n 3, 1) := by decide +kernel
theorem dL_tryTime_8 : decode cL_tryTime 8 = .ok (.ldc 40, 2) := by decide +kernel
theorem dL_tryTime_10 : decode cL_tryTime 10 = .ok (.ireturn, 1) := by decide +kernel
theorem dL_tryOldest_0 : decode cL_tryOldest 0 = .ok (.aload_n 0, 1) := by decide +kernel
theorem dL_tryOldest_1 : decode cL_tryOldest 1 = .ok (.iload_n 1, 1) := by decide +kernel
theorem dL_tryOldest_2 : decode cL_tryOldest 2 = .ok (.iload_n 2, 1) := by decide +kernel
theorem dL_tryOldest_3 : decode cL_tryOldest 3 = .ok (.invokevirtual 47, 3) := by decide +kernel
theorem dL_tryOldest_6 : decode cL_tryOldest 6 = .ok (.ireturn, 1) := by decide +kernel
theorem dL_tryOldest_7 : decode cL_tryOldest 7 = .ok (.astore_n 3, 1) := by decide +kernel
theorem dL_tryOldest_8 : decode cL_tryOldest 8 = .ok (.ldc 40, 2) := by decide +kernel
theorem dL_tryOldest_10 : decode cL_tryOldest 10 = .ok (.ireturn, 1) := by decide +kernel
theorem dL_tryOldest_11 : decode cL_tryOldest 11 = .ok (.astore_n 3, 1) := by decide +kernel
theorem dL_tryOldest_12 : decode cL_tryOldest 12 = .ok (.ldc 15, 2) := by decide +kernel
theorem dL_tryOldest_14 : decode cL_tryOldest 14 = .ok (.ireturn, 1) := by decide +kernel
theorem dL_tryMake_0 : decode cL_tryMake 0 = .ok (.aload_n 0, 1) := by decide +kernel
theorem dL_tryMake_1 : decode cL_tryMake 1 = .ok (.iload_n 1, 1) := by decide +kernel
theorem dL_tryMake_2 : decode cL_tryMake 2 = .ok (.iload_n 2, 1) := by decide +kernel
theorem dL_tryMake_3 : decode cL_tryMake 3 = .ok (.invokevirtual 50, 3) := by decide +kernel
theorem dL_tryMake_6 : decode cL_tryMake 6 = .ok (.ireturn, 1) := by decide +kernel
theorem dL_tryMake_7 : decode cL_tryMake 7 = .ok (.astore_n 3, 1) := by decide +kernel
theorem dL_tryMake_8 : decode cL_tryMake 8 = .ok (.ldc 15, 2) := by decide +kernel
theorem dL_tryMake_10 : decode cL_tryMake 10 = .ok (.ireturn, 1) := by decide +kernel
theorem dL_tryMake_11 : decode cL_tryMake 11 = .ok (.astore_n 3, 1) := by decide +kernel
theorem dL_tryMake_12 : decode cL_tryMake 12 = .ok (.ldc 26, 2) := by decide +kernel
theorem dL_tryMake_14 : decode cL_tryMake 14 = .ok (.ireturn, 1) := by decide +kernel
theorem dL_tryWrite_0 : decode cL_tryWrite 0 = .ok (.aload_n 0, 1) := by decide +kernel
theorem dL_tryWrite_1 : decode cL_tryWrite 1 = .ok (.iload_n 1, 1) := by decide +kernel
theorem dL_tryWrite_2 : decode cL_tryWrite 2 = .ok (.iload_n 2, 1) := by decide +kernel
theorem dL_tryWrite_3 : decode cL_tryWrite 3 = .ok (.invokevirtual 53, 3) := by decide +kernel
theorem dL_tryWrite_6 : decode cL_tryWrite 6 = .ok (.ireturn, 1) := by decide +kernel
theorem dL_tryWrite_7 : decode cL_tryWrite 7 = .ok (.astore_n 3, 1) := by decide +kernel
theorem dL_tryWrite_8 : decode cL_tryWrite 8 = .ok (.ldc 40, 2) := by decide +kernel
theorem dL_tryWrite_10 : decode cL_tryWrite 10 = .ok (.ireturn, 1) := by decide +kernel
theorem dL_tryTrim_0 : decode cL_tryTrim 0 = .ok (.aload_n 0, 1) := by decide +kernel
theorem dL_tryTrim_1 : decode cL_tryTrim 1 = .ok (.iload_n 1, 1) := by decide +kernel
theorem dL_tryTrim_2 : decode cL_tryTrim 2 = .ok (.iload_n 2, 1) := by decide +kernel
theorem dL_tryTrim_3 : decode cL_tryTrim 3 = .ok (.invokevirtual 56, 3) := by decide +kernel
theorem dL_tryTrim_6 : decode cL_tryTrim 6 = .ok (.ireturn, 1) := by decide +kernel
theorem dL_tryTrim_7 : decode cL_tryTrim 7 = .ok (.astore_n 3, 1) := by decide +kernel
theorem dL_tryTrim_8 : decode cL_tryTrim 8 = .ok (.ldc 40, 2) := by decide +kernel
theorem dL_tryTrim_10 : decode cL_tryTrim 10 = .ok (.ireturn, 1) := by decide +kernel
theorem dL_tryTrim_11 : decode cL_tryTrim 11 = .ok (.astore_n 3, 1) := by decide +kernel
theorem dL_tryTrim_12 : decode cL_tryTrim 12 = .ok (.ldc 26, 2) := by decide +kernel
theorem dL_tryTrim_14 : decode cL_tryTrim 14 = .ok (.ireturn, 1) := by decide +kernel
theorem dL_tryFloor_0 : decode cL_tryFloor 0 = .ok (.aload_n 0, 1) := by decide +kernel
theorem dL_tryFloor_1 : decode cL_tryFloor 1 = .ok (.iload_n 1, 1) := by decide +kernel
theorem dL_tryFloor_2 : decode cL_tryFloor 2 = .ok (.iload_n 2, 1) := by decide +kernel
theorem dL_tryFloor_3 : decode cL_tryFloor 3 = .ok (.invokevirtual 59, 3) := by decide +kernel
theorem dL_tryFloor_6 : decode cL_tryFloor 6 = .ok (.ireturn, 1) := by decide +kernel
theorem dL_tryFloor_7 : decode cL_tryFloor 7 = .ok (.astore_n 3, 1) := by decide +kernel
theorem dL_tryFloor_8 : decode cL_tryFloor 8 = .ok (.ldc 40, 2) := by decide +kernel
theorem dL_tryFloor_10 : decode cL_tryFloor 10 = .ok (.ireturn, 1) := by decide +kernel
theorem dL_tryFloor_11 : decode cL_tryFloor 11 = .ok (.astore_n 3, 1) := by decide +kernel
theorem dL_tryFloor_12 : decode cL_tryFloor 12 = .ok (.ldc 15, 2) := by decide +kernel
theorem dL_tryFloor_14 : decode cL_tryFloor 14 = .ok (.ireturn, 1) := by decide +kernel
theorem dL_tryFloor_15 : decode cL_tryFloor 15 = .ok (.astore_n 3, 1) := by decide +kernel
theorem dL_tryFloor_16 : decode cL_tryFloor 16 = .ok (.ldc 26, 2) := by decide +kernel
theorem dL_tryFloor_18 : decode cL_tryFloor 18 = .ok (.ireturn, 1) := by decide +kernel
theorem dL_tryCeiling_0 : decode cL_tryCeiling 0 = .ok (.aload_n 0, 1) := by decide +kernel
theorem dL_tryCeiling_1 : decode cL_tryCeiling 1 = .ok (.iload_n 1, 1) := by decide +kernel
theorem dL_tryCeiling_2 : decode cL_tryCeiling 2 = .ok (.iload_n 2, 1) := by decide +kernel
theorem dL_tryCeiling_3 : decode cL_tryCeiling 3 = .ok (.invokevirtual 62, 3) := by decide +kernel
theorem dL_tryCeiling_6 : decode cL_tryCeiling 6 = .ok (.ireturn, 1) := by decide +kernel
theorem dL_tryCeiling_7 : decode cL_tryCeiling 7 = .ok (.astore_n 3, 1) := by decide +kernel
theorem dL_tryCeiling_8 : decode cL_tryCeiling 8 = .ok (.ldc 40, 2) := by decide +kernel
theorem dL_tryCeiling_10 : decode cL_tryCeiling 10 = .ok (.ireturn, 1) := by decide +kernel
theorem dL_tryCeiling_11 : decode cL_tryCeiling 11 = .ok (.astore_n 3, 1) := by decide +kernel
theorem dL_tryCeiling_12 : decode cL_tryCeiling 12 = .ok (.ldc 15, 2) := by decide +kernel
theorem dL_tryCeiling_14 : decode cL_tryCeiling 14 = .ok (.ireturn, 1) := by decide +kernel
theorem dL_tryUndo_0 : decode cL_tryUndo 0 = .ok (.aload_n 0, 1) := by decide +kernel
theorem dL_tryUndo_1 : decode cL_tryUndo 1 = .ok (.invokevirtual 65, 3) := by decide +kernel
theorem dL_tryUndo_4 : decode cL_tryUndo 4 = .ok (.ireturn, 1) := by decide +kernel
theorem dL_tryUndo_5 : decode cL_tryUndo 5 = .ok (.astore_n 1, 1) := by decide +kernel
theorem dL_tryUndo_6 : decode cL_tryUndo 6 = .ok (.ldc 26, 2) := by decide +kernel
theorem dL_tryUndo_8 : decode cL_tryUndo 8 = .ok (.ireturn, 1) := by decide +kernel
theorem dL_tryWould_0 : decode cL_tryWould 0 = .ok (.aload_n 0, 1) := by decide +kernel
theorem dL_tryWould_1 : decode cL_tryWould 1 = .ok (.iload_n 1, 1) := by decide +kernel
theorem dL_tryWould_2 : decode cL_tryWould 2 = .ok (.iload_n 2, 1) := by decide +kernel
theorem dL_tryWould_3 : decode cL_tryWould 3 = .ok (.invokevirtual 68, 3) := by decide +kernel
theorem dL_tryWould_6 : decode cL_tryWould 6 = .ok (.ireturn, 1) := by decide +kernel
theorem dL_tryWould_7 : decode cL_tryWould 7 = .ok (.astore_n 3, 1) := by decide +kernel
theorem dL_tryWould_8 : decode cL_tryWould 8 = .ok (.ldc 40, 2) := by decide +kernel
theorem dL_tryWould_10 : decode cL_tryWould 10 = .ok (.ireturn, 1) := by decide +kernel
theorem dL_tryRoom_0 : decode cL_tryRoom 0 = .ok (.aload_n 0, 1) := by decide +kernel
theorem dL_tryRoom_1 : decode cL_tryRoom 1 = .ok (.iload_n 1, 1) := by decide +kernel
theorem dL_tryRoom_2 : decode cL_tryRoom 2 = .ok (.invokevirtual 71, 3) := by decide +kernel
theorem dL_tryRoom_5 : decode cL_tryRoom 5 = .ok (.ireturn, 1) := by decide +kernel
theorem dL_tryRoom_6 : decode cL_tryRoom 6 = .ok (.astore_n 2, 1) := by decide +kernel
theorem dL_tryRoom_7 : decode cL_tryRoom 7 = .ok (.ldc 40, 2) := by decide +kernel
theorem dL_tryRoom_9 : decode cL_tryRoom 9 = .ok (.ireturn, 1) := by decide +kernel
theorem dL_tryHarm_0 : decode cL_tryHarm 0 = .ok (.aload_n 0, 1) := by decide +kernel
theorem dL_tryHarm_1 : decode cL_tryHarm 1 = .ok (.iload_n 1, 1) := by decide +kernel
theorem dL_tryHarm_2 : decode cL_tryHarm 2 = .ok (.iload_n 2, 1) := by decide +kernel
theorem dL_tryHarm_3 : decode cL_tryHarm 3 = .ok (.invokevirtual 74, 3) := by decide +kernel
theorem dL_tryHarm_6 : decode cL_tryHarm 6 = .ok (.ireturn, 1) := by decide +kernel
theorem dL_tryHarm_7 : decode cL_tryHarm 7 = .ok (.astore_n 3, 1) := by decide +kernel
theorem dL_tryHarm_8 : decode cL_tryHarm 8 = .ok (.ldc 40, 2) := by decide +kernel
theorem dL_tryHarm_10 : decode cL_tryHarm 10 = .ok (.ireturn, 1) := by decide +kernel
theorem dL_tryHarm_11 : decode cL_tryHarm 11 = .ok (.astore_n 3, 1) := by decide +kernel
theorem dL_tryHarm_12 : decode cL_tryHarm 12 = .ok (.ldc 15, 2) := by decide +kernel
theorem dL_tryHarm_14 : decode cL_tryHarm 14 = .ok (.ireturn, 1) := by decide +kernel
theorem dL_tryVictim_0 : decode cL_tryVictim 0 = .ok (.aload_n 0, 1) := by decide +kernel
theorem dL_tryVictim_1 : decode cL_tryVictim 1 = .ok (.iload_n 1, 1) := by decide +kernel
theorem dL_tryVictim_2 : decode cL_tryVictim 2 = .ok (.invokevirtual 77, 3) := by decide +kernel
theorem dL_tryVictim_5 : decode cL_tryVictim 5 = .ok (.ireturn, 1) := by decide +kernel
theorem dL_tryVictim_6 : decode cL_tryVictim 6 = .ok (.astore_n 2, 1) := by decide +kernel
theorem dL_tryVictim_7 : decode cL_tryVictim 7 = .ok (.ldc 40, 2) := by decide +kernel
theorem dL_tryVictim_9 : decode cL_tryVictim 9 = .ok (.ireturn, 1) := by decide +kernel
theorem dL_tryMost_0 : decode cL_tryMost 0 = .ok (.aload_n 0, 1) := by decide +kernel
theorem dL_tryMost_1 : decode cL_tryMost 1 = .ok (.iload_n 1, 1) := by decide +kernel
theorem dL_tryMost_2 : decode cL_tryMost 2 = .ok (.invokevirtual 80, 3) := by decide +kernel
theorem dL_tryMost_5 : decode cL_tryMost 5 = .ok (.ireturn, 1) := by decide +kernel
theorem dL_tryMost_6 : decode cL_tryMost 6 = .ok (.astore_n 2, 1) := by decide +kernel
theorem dL_tryMost_7 : decode cL_tryMost 7 = .ok (.ldc 40, 2) := by decide +kernel
theorem dL_tryMost_9 : decode cL_tryMost 9 = .ok (.ireturn, 1) := by decide +kernel
theorem dL_tryLeast_0 : decode cL_tryLeast 0 = .ok (.aload_n 0, 1) := by decide +kernel
theorem dL_tryLeast_1 : decode cL_tryLeast 1 = .ok (.iload_n 1, 1) := by decide +kernel
theorem dL_tryLeast_2 : decode cL_tryLeast 2 = .ok (.invokevirtual 83, 3) := by decide +kernel
theorem dL_tryLeast_5 : decode cL_tryLeast 5 = .ok (.ireturn, 1) := by decide +kernel
theorem dL_tryLeast_6 : decode cL_tryLeast 6 = .ok (.astore_n 2, 1) := by decide +kernel
theorem dL_tryLeast_7 : decode cL_tryLeast 7 = .ok (.ldc 40, 2) := by decide +kernel
theorem dL_tryLeast_9 : decode cL_tryLeast 9 = .ok (.ireturn, 1) := by decide +kernel
theorem dL_tryKeep_0 : decode cL_tryKeep 0 = .ok (.aload_n 0, 1) := by decide +kernel
theorem dL_tryKeep_1 : decode cL_tryKeep 1 = .ok (.iload_n 1, 1) := by decide +kernel
theorem dL_tryKeep_2 : decode cL_tryKeep 2 = .ok (.invokevirtual 86, 3) := by decide +kernel
theorem dL_tryKeep_5 : decode cL_tryKeep 5 = .ok (.ireturn, 1) := by decide +kernel
theorem dL_tryKeep_6 : decode cL_tryKeep 6 = .ok (.astore_n 2, 1) := by decide +kernel
theorem dL_tryKeep_7 : decode cL_tryKeep 7 = .ok (.ldc 40, 2) := by decide +kernel
theorem dL_tryKeep_9 : decode cL_tryKeep 9 = .ok (.ireturn, 1) := by decide +kernel
theorem dL_tryBack_0 : decode cL_tryBack 0 = .ok (.aload_n 0, 1) := by decide +kernel
theorem dL_tryBack_1 : decode cL_tryBack 1 = .ok (.iload_n 1, 1) := by decide +kernel
theorem dL_tryBack_2 : decode cL_tryBack 2 = .ok (.invokevirtual 89, 3) := by decide +kernel
theorem dL_tryBack_5 : decode cL_tryBack 5 = .ok (.ireturn, 1) := by decide +kernel
theorem dL_tryBack_6 : decode cL_tryBack 6 = .ok (.astore_n 2, 1) := by decide +kernel
theorem dL_tryBack_7 : decode cL_tryBack 7 = .ok (.ldc 40, 2) := by decide +kernel
theorem dL_tryBack_9 : decode cL_tryBack 9 = .ok (.ireturn, 1) := by decide +kernel
theorem dL_tryBack_10 : decode cL_tryBack 10 = .ok (.astore_n 2, 1) := by decide +kernel
theorem dL_tryBack_11 : decode cL_tryBack 11 = .ok (.ldc 26, 2) := by decide +kernel
theorem dL_tryBack_13 : decode cL_tryBack 13 = .ok (.ireturn, 1) := by decide +kernel
theorem dL_call_0 : decode cL_call 0 = .ok (.iload_n 1, 1) := by decide +kernel
theorem dL_call_1 : decode cL_call 1 = .ok (.tableswitch 224 0 19 #[95, 101, 106, 112, 119, 126, 133, 140, 147, 154, 161, 168, 175, 180, 187, 193, 200, 206, 212, 218], 95) := by decide +kernel
theorem dL_call_96 : decode cL_call 96 = .ok (.aload_n 0, 1) := by decide +kernel
theorem dL_call_97 : decode cL_call 97 = .ok (.iload_n 2, 1) := by decide +kernel
theorem dL_call_98 : decode cL_call 98 = .ok (.invokestatic 92, 3) := by decide +kernel
theorem dL_call_101 : decode cL_call 101 = .ok (.ireturn, 1) := by decide +kernel
theorem dL_call_102 : decode cL_call 102 = .ok (.aload_n 0, 1) := by decide +kernel
theorem dL_call_103 : decode cL_call 103 = .ok (.invokestatic 98, 3) := by decide +kernel
theorem dL_call_106 : decode cL_call 106 = .ok (.ireturn, 1) := by decide +kernel
theorem dL_call_107 : decode cL_call 107 = .ok (.aload_n 0, 1) := by decide +kernel
theorem dL_call_108 : decode cL_call 108 = .ok (.iload_n 2, 1) := by decide +kernel
theorem dL_call_109 : decode cL_call 109 = .ok (.invokestatic 102, 3) := by decide +kernel
theorem dL_call_112 : decode cL_call 112 = .ok (.ireturn, 1) := by decide +kernel
theorem dL_call_113 : decode cL_call 113 = .ok (.aload_n 0, 1) := by decide +kernel
theorem dL_call_114 : decode cL_call 114 = .ok (.iload_n 2, 1) := by decide +kernel
theorem dL_call_115 : decode cL_call 115 = .ok (.iload_n 3, 1) := by decide +kernel
theorem dL_call_116 : decode cL_call 116 = .ok (.invokestatic 105, 3) := by decide +kernel
theorem dL_call_119 : decode cL_call 119 = .ok (.ireturn, 1) := by decide +kernel
theorem dL_call_120 : decode cL_call 120 = .ok (.aload_n 0, 1) := by decide +kernel
theorem dL_call_121 : decode cL_call 121 = .ok (.iload_n 2, 1) := by decide +kernel
theorem dL_call_122 : decode cL_call 122 = .ok (.iload_n 3, 1) := by decide +kernel
theorem dL_call_123 : decode cL_call 123 = .ok (.invokestatic 109, 3) := by decide +kernel
theorem dL_call_126 : decode cL_call 126 = .ok (.ireturn, 1) := by decide +kernel
theorem dL_call_127 : decode cL_call 127 = .ok (.aload_n 0, 1) := by decide +kernel
theorem dL_call_128 : decode cL_call 128 = .ok (.iload_n 2, 1) := by decide +kernel
theorem dL_call_129 : decode cL_call 129 = .ok (.iload_n 3, 1) := by decide +kernel
theorem dL_call_130 : decode cL_call 130 = .ok (.invokestatic 112, 3) := by decide +kernel
theorem dL_call_133 : decode cL_call 133 = .ok (.ireturn, 1) := by decide +kernel
theorem dL_call_134 : decode cL_call 134 = .ok (.aload_n 0, 1) := by decide +kernel
theorem dL_call_135 : decode cL_call 135 = .ok (.iload_n 2, 1) := by decide +kernel
theorem dL_call_136 : decode cL_call 136 = .ok (.iload_n 3, 1) := by decide +kernel
theorem dL_call_137 : decode cL_call 137 = .ok (.invokestatic 115, 3) := by decide +kernel
theorem dL_call_140 : decode cL_call 140 = .ok (.ireturn, 1) := by decide +kernel
theorem dL_call_141 : decode cL_call 141 = .ok (.aload_n 0, 1) := by decide +kernel
theorem dL_call_142 : decode cL_call 142 = .ok (.iload_n 2, 1) := by decide +kernel
theorem dL_call_143 : decode cL_call 143 = .ok (.iload_n 3, 1) := by decide +kernel
theorem dL_call_144 : decode cL_call 144 = .ok (.invokestatic 118, 3) := by decide +kernel
theorem dL_call_147 : decode cL_call 147 = .ok (.ireturn, 1) := by decide +kernel
theorem dL_call_148 : decode cL_call 148 = .ok (.aload_n 0, 1) := by decide +kernel
theorem dL_call_149 : decode cL_call 149 = .ok (.iload_n 2, 1) := by decide +kernel
theorem dL_call_150 : decode cL_call 150 = .ok (.iload_n 3, 1) := by decide +kernel
theorem dL_call_151 : decode cL_call 151 = .ok (.invokestatic 121, 3) := by decide +kernel
theorem dL_call_154 : decode cL_call 154 = .ok (.ireturn, 1) := by decide +kernel
theorem dL_call_155 : decode cL_call 155 = .ok (.aload_n 0, 1) := by decide +kernel
theorem dL_call_156 : decode cL_call 156 = .ok (.iload_n 2, 1) := by decide +kernel
theorem dL_call_157 : decode cL_call 157 = .ok (.iload_n 3, 1) := by decide +kernel
theorem dL_call_158 : decode cL_call 158 = .ok (.invokestatic 124, 3) := by decide +kernel
theorem dL_call_161 : decode cL_call 161 = .ok (.ireturn, 1) := by decide +kernel
theorem dL_call_162 : decode cL_call 162 = .ok (.aload_n 0, 1) := by decide +kernel
theorem dL_call_163 : decode cL_call 163 = .ok (.iload_n 2, 1) := by decide +kernel
theorem dL_call_164 : decode cL_call 164 = .ok (.iload_n 3, 1) := by decide +kernel
theorem dL_call_165 : decode cL_call 165 = .ok (.invokestatic 127, 3) := by decide +kernel
theorem dL_call_168 : decode cL_call 168 = .ok (.ireturn, 1) := by decide +kernel
theorem dL_call_169 : decode cL_call 169 = .ok (.aload_n 0, 1) := by decide +kernel
theorem dL_call_170 : decode cL_call 170 = .ok (.iload_n 2, 1) := by decide +kernel
theorem dL_call_171 : decode cL_call 171 = .ok (.iload_n 3, 1) := by decide +kernel
theorem dL_call_172 : decode cL_call 172 = .ok (.invokestatic 130, 3) := by decide +kernel
theorem dL_call_175 : decode cL_call 175 = .ok (.ireturn, 1) := by decide +kernel
theorem dL_call_176 : decode cL_call 176 = .ok (.aload_n 0, 1) := by decide +kernel
theorem dL_call_177 : decode cL_call 177 = .ok (.invokestatic 133, 3) := by decide +kernel
theorem dL_call_180 : decode cL_call 180 = .ok (.ireturn, 1) := by decide +kernel
theorem dL_call_181 : decode cL_call 181 = .ok (.aload_n 0, 1) := by decide +kernel
theorem dL_call_182 : decode cL_call 182 = .ok (.iload_n 2, 1) := by decide +kernel
theorem dL_call_183 : decode cL_call 183 = .ok (.iload_n 3, 1) := by decide +kernel
theorem dL_call_184 : decode cL_call 184 = .ok (.invokestatic 136, 3) := by decide +kernel
theorem dL_call_187 : decode cL_call 187 = .ok (.ireturn, 1) := by decide +kernel
theorem dL_call_188 : decode cL_call 188 = .ok (.aload_n 0, 1) := by decide +kernel
theorem dL_call_189 : decode cL_call 189 = .ok (.iload_n 2, 1) := by decide +kernel
theorem dL_call_190 : decode cL_call 190 = .ok (.invokestatic 139, 3) := by decide +kernel
theorem dL_call_193 : decode cL_call 193 = .ok (.ireturn, 1) := by decide +kernel
theorem dL_call_194 : decode cL_call 194 = .ok (.aload_n 0, 1) := by decide +kernel
theorem dL_call_195 : decode cL_call 195 = .ok (.iload_n 2, 1) := by decide +kernel
theorem dL_call_196 : decode cL_call 196 = .ok (.iload_n 3, 1) := by decide +kernel
theorem dL_call_197 : decode cL_call 197 = .ok (.invokestatic 142, 3) := by decide +kernel
theorem dL_call_200 : decode cL_call 200 = .ok (.ireturn, 1) := by decide +kernel
theorem dL_call_201 : decode cL_call 201 = .ok (.aload_n 0, 1) := by decide +kernel
theorem dL_call_202 : decode cL_call 202 = .ok (.iload_n 2, 1) := by decide +kernel
theorem dL_call_203 : decode cL_call 203 = .ok (.invokestatic 145, 3) := by decide +kernel
theorem dL_call_206 : decode cL_call 206 = .ok (.ireturn, 1) := by decide +kernel
theorem dL_call_207 : decode cL_call 207 = .ok (.aload_n 0, 1) := by decide +kernel
theorem dL_call_208 : decode cL_call 208 = .ok (.iload_n 2, 1) := by decide +kernel
theorem dL_call_209 : decode cL_call 209 = .ok (.invokestatic 148, 3) := by decide +kernel
theorem dL_call_212 : decode cL_call 212 = .ok (.ireturn, 1) := by decide +kernel
theorem dL_call_213 : decode cL_call 213 = .ok (.aload_n 0, 1) := by decide +kernel
theorem dL_call_214 : decode cL_call 214 = .ok (.iload_n 2, 1) := by decide +kernel
theorem dL_call_215 : decode cL_call 215 = .ok (.invokestatic 151, 3) := by decide +kernel
theorem dL_call_218 : decode cL_call 218 = .ok (.ireturn, 1) := by decide +kernel
theorem dL_call_219 : decode cL_call 219 = .ok (.aload_n 0, 1) := by decide +kernel
theorem dL_call_220 : decode cL_call 220 = .ok (.iload_n 2, 1) := by decide +kernel
theorem dL_call_221 : decode cL_call 221 = .ok (.invokestatic 154, 3) := by decide +kernel
theorem dL_call_224 : decode cL_call 224 = .ok (.ireturn, 1) := by decide +kernel
theorem dL_call_225 : decode cL_call 225 = .ok (.aload_n 0, 1) := by decide +kernel
theorem dL_call_226 : decode cL_call 226 = .ok (.iload_n 2, 1) := by decide +kernel
theorem dL_call_227 : decode cL_call 227 = .ok (.invokestatic 157, 3) := by decide +kernel
theorem dL_call_230 : decode cL_call 230 = .ok (.ireturn, 1) := by decide +kernel
theorem dL_cell_0 : decode cL_cell 0 = .ok (.iload_n 1, 1) := by decide +kernel
theorem dL_cell_1 : decode cL_cell 1 = .ok (.aload_n 0, 1) := by decide +kernel
theorem dL_cell_2 : decode cL_cell 2 = .ok (.arraylength, 1) := by decide +kernel
theorem dL_cell_3 : decode cL_cell 3 = .ok (.if_icmp .ge 9, 3) := by decide +kernel
theorem dL_cell_6 : decode cL_cell 6 = .ok (.aload_n 0, 1) := by decide +kernel
theorem dL_cell_7 : decode cL_cell 7 = .ok (.iload_n 1, 1) := by decide +kernel
theorem dL_cell_8 : decode cL_cell 8 = .ok (.iaload, 1) := by decide +kernel
theorem dL_cell_9 : decode cL_cell 9 = .ok (.goto 13, 3) := by decide +kernel
theorem dL_cell_12 : decode cL_cell 12 = .ok (.ldc 160, 2) := by decide +kernel
theorem dL_cell_14 : decode cL_cell 14 = .ok (.iload_n 1, 1) := by decide +kernel
theorem dL_cell_15 : decode cL_cell 15 = .ok (.iconst 3, 1) := by decide +kernel
theorem dL_cell_16 : decode cL_cell 16 = .ok (.iadd, 1) := by decide +kernel
theorem dL_cell_17 : decode cL_cell 17 = .ok (.imul, 1) := by decide +kernel
theorem dL_cell_18 : decode cL_cell 18 = .ok (.sipush 10799, 3) := by decide +kernel
theorem dL_cell_21 : decode cL_cell 21 = .ok (.iadd, 1) := by decide +kernel
theorem dL_cell_22 : decode cL_cell 22 = .ok (.ldc 161, 2) := by decide +kernel
theorem dL_cell_24 : decode cL_cell 24 = .ok (.iand, 1) := by decide +kernel
theorem dL_cell_25 : decode cL_cell 25 = .ok (.ireturn, 1) := by decide +kernel
theorem dL_thrown_0 : decode cL_thrown 0 = .ok (.iload_n 0, 1) := by decide +kernel
theorem dL_thrown_1 : decode cL_thrown 1 = .ok (.ldc 40, 2) := by decide +kernel
theorem dL_thrown_3 : decode cL_thrown 3 = .ok (.if_icmp .eq 15, 3) := by decide +kernel
theorem dL_thrown_6 : decode cL_thrown 6 = .ok (.iload_n 0, 1) := by decide +kernel
theorem dL_thrown_7 : decode cL_thrown 7 = .ok (.ldc 15, 2) := by decide +kernel
theorem dL_thrown_9 : decode cL_thrown 9 = .ok (.if_icmp .eq 9, 3) := by decide +kernel
theorem dL_thrown_12 : decode cL_thrown 12 = .ok (.iload_n 0, 1) := by decide +kernel
theorem dL_thrown_13 : decode cL_thrown 13 = .ok (.ldc 26, 2) := by decide +kernel
theorem dL_thrown_15 : decode cL_thrown 15 = .ok (.if_icmp .ne 7, 3) := by decide +kernel
theorem dL_thrown_18 : decode cL_thrown 18 = .ok (.iconst 1, 1) := by decide +kernel
theorem dL_thrown_19 : decode cL_thrown 19 = .ok (.goto 4, 3) := by decide +kernel
theorem dL_thrown_22 : decode cL_thrown 22 = .ok (.iconst 0, 1) := by decide +kernel
theorem dL_thrown_23 : decode cL_thrown 23 = .ok (.ireturn, 1) := by decide +kernel
theorem dL_refuses_0 : decode cL_refuses 0 = .ok (.aload_n 0, 1) := by decide +kernel
theorem dL_refuses_1 : decode cL_refuses 1 = .ok (.iconst 2, 1) := by decide +kernel
theorem dL_refuses_2 : decode cL_refuses 2 = .ok (.iconst 0, 1) := by decide +kernel
theorem dL_refuses_3 : decode cL_refuses 3 = .ok (.iconst 0, 1) := by decide +kernel
theorem dL_refuses_4 : decode cL_refuses 4 = .ok (.iconst 0, 1) := by decide +kernel
theorem dL_refuses_5 : decode cL_refuses 5 = .ok (.invokestatic 162, 3) := by decide +kernel
theorem dL_refuses_8 : decode cL_refuses 8 = .ok (.iload_n 1, 1) := by decide +kernel
theorem dL_refuses_9 : decode cL_refuses 9 = .ok (.bipush 50, 2) := by decide +kernel
theorem dL_refuses_11 : decode cL_refuses 11 = .ok (.irem, 1) := by decide +kernel
theorem dL_refuses_12 : decode cL_refuses 12 = .ok (.iadd, 1) := by decide +kernel
theorem dL_refuses_13 : decode cL_refuses 13 = .ok (.istore_n 2, 1) := by decide +kernel
theorem dL_refuses_14 : decode cL_refuses 14 = .ok (.iload_n 1, 1) := by decide +kernel
theorem dL_refuses_15 : decode cL_refuses 15 = .ok (.iconst 2, 1) := by decide +kernel
theorem dL_refuses_16 : decode cL_refuses 16 = .ok (.irem, 1) := by decide +kernel
theorem dL_refuses_17 : decode cL_refuses 17 = .ok (.ifCond .ne 12, 3) := by decide +kernel
theorem dL_refuses_20 : decode cL_refuses 20 = .ok (.iconst (-1), 1) := by decide +kernel
theorem dL_refuses_21 : decode cL_refuses 21 = .ok (.iload_n 1, 1) := by decide +kernel
theorem dL_refuses_22 : decode cL_refuses 22 = .ok (.bipush 99, 2) := by decide +kernel
theorem dL_refuses_24 : decode cL_refuses 24 = .ok (.irem, 1) := by decide +kernel
theorem dL_refuses_25 : decode cL_refuses 25 = .ok (.isub, 1) := by decide +kernel
theorem dL_refuses_26 : decode cL_refuses 26 = .ok (.goto 10, 3) := by decide +kernel
theorem dL_refuses_29 : decode cL_refuses 29 = .ok (.bipush 61, 2) := by decide +kernel
theorem dL_refuses_31 : decode cL_refuses 31 = .ok (.iload_n 1, 1) := by decide +kernel
theorem dL_refuses_32 : decode cL_refuses 32 = .ok (.bipush 99, 2) := by decide +kernel
theorem dL_refuses_34 : decode cL_refuses 34 = .ok (.irem, 1) := by decide +kernel
theorem dL_refuses_35 : decode cL_refuses 35 = .ok (.iadd, 1) := by decide +kernel
theorem dL_refuses_36 : decode cL_refuses 36 = .ok (.istore_n 3, 1) := by decide +kernel
theorem dL_refuses_37 : decode cL_refuses 37 = .ok (.aload_n 0, 1) := by decide +kernel
theorem dL_refuses_38 : decode cL_refuses 38 = .ok (.iconst 0, 1) := by decide +kernel
theorem dL_refuses_39 : decode cL_refuses 39 = .ok (.iload_n 1, 1) := by decide +kernel
theorem dL_refuses_40 : decode cL_refuses 40 = .ok (.iconst 2, 1) := by decide +kernel
theorem dL_refuses_41 : decode cL_refuses 41 = .ok (.irem, 1) := by decide +kernel
theorem dL_refuses_42 : decode cL_refuses 42 = .ok (.ifCond .ne 12, 3) := by decide +kernel
theorem dL_refuses_45 : decode cL_refuses 45 = .ok (.iconst (-1), 1) := by decide +kernel
theorem dL_refuses_46 : decode cL_refuses 46 = .ok (.iload_n 1, 1) := by decide +kernel
theorem dL_refuses_47 : decode cL_refuses 47 = .ok (.bipush 9, 2) := by decide +kernel
theorem dL_refuses_49 : decode cL_refuses 49 = .ok (.irem, 1) := by decide +kernel
theorem dL_refuses_50 : decode cL_refuses 50 = .ok (.isub, 1) := by decide +kernel
theorem dL_refuses_51 : decode cL_refuses 51 = .ok (.goto 11, 3) := by decide +kernel
theorem dL_refuses_54 : decode cL_refuses 54 = .ok (.sipush 256, 3) := by decide +kernel
theorem dL_refuses_57 : decode cL_refuses 57 = .ok (.iload_n 1, 1) := by decide +kernel
theorem dL_refuses_58 : decode cL_refuses 58 = .ok (.bipush 9, 2) := by decide +kernel
theorem dL_refuses_60 : decode cL_refuses 60 = .ok (.irem, 1) := by decide +kernel
theorem dL_refuses_61 : decode cL_refuses 61 = .ok (.iadd, 1) := by decide +kernel
theorem dL_refuses_62 : decode cL_refuses 62 = .ok (.iconst 0, 1) := by decide +kernel
theorem dL_refuses_63 : decode cL_refuses 63 = .ok (.iconst 0, 1) := by decide +kernel
theorem dL_refuses_64 : decode cL_refuses 64 = .ok (.invokestatic 162, 3) := by decide +kernel
theorem dL_refuses_67 : decode cL_refuses 67 = .ok (.ldc 15, 2) := by decide +kernel
theorem dL_refuses_69 : decode cL_refuses 69 = .ok (.if_icmp .ne 360, 3) := by decide +kernel
theorem dL_refuses_72 : decode cL_refuses 72 = .ok (.aload_n 0, 1) := by decide +kernel
theorem dL_refuses_73 : decode cL_refuses 73 = .ok (.iconst 2, 1) := by decide +kernel
theorem dL_refuses_74 : decode cL_refuses 74 = .ok (.bipush 9, 2) := by decide +kernel
theorem dL_refuses_76 : decode cL_refuses 76 = .ok (.iload_n 1, 1) := by decide +kernel
theorem dL_refuses_77 : decode cL_refuses 77 = .ok (.bipush 50, 2) := by decide +kernel
theorem dL_refuses_79 : decode cL_refuses 79 = .ok (.irem, 1) := by decide +kernel
theorem dL_refuses_80 : decode cL_refuses 80 = .ok (.iadd, 1) := by decide +kernel
theorem dL_refuses_81 : decode cL_refuses 81 = .ok (.iconst 0, 1) := by decide +kernel
theorem dL_refuses_82 : decode cL_refuses 82 = .ok (.iconst 0, 1) := by decide +kernel
theorem dL_refuses_83 : decode cL_refuses 83 = .ok (.invokestatic 162, 3) := by decide +kernel
theorem dL_refuses_86 : decode cL_refuses 86 = .ok (.ldc 15, 2) := by decide +kernel
theorem dL_refuses_88 : decode cL_refuses 88 = .ok (.if_icmp .ne 341, 3) := by decide +kernel
theorem dL_refuses_91 : decode cL_refuses 91 = .ok (.aload_n 0, 1) := by decide +kernel
theorem dL_refuses_92 : decode cL_refuses 92 = .ok (.iconst 3, 1) := by decide +kernel
theorem dL_refuses_93 : decode cL_refuses 93 = .ok (.iload_n 2, 1) := by decide +kernel
theorem dL_refuses_94 : decode cL_refuses 94 = .ok (.iconst 0, 1) := by decide +kernel
theorem dL_refuses_95 : decode cL_refuses 95 = .ok (.iconst 0, 1) := by decide +kernel
theorem dL_refuses_96 : decode cL_refuses 96 = .ok (.invokestatic 162, 3) := by decide +kernel
theorem dL_refuses_99 : decode cL_refuses 99 = .ok (.ldc 40, 2) := by decide +kernel
theorem dL_refuses_101 : decode cL_refuses 101 = .ok (.if_icmp .ne 328, 3) := by decide +kernel
theorem dL_refuses_104 : decode cL_refuses 104 = .ok (.aload_n 0, 1) := by decide +kernel
theorem dL_refuses_105 : decode cL_refuses 105 = .ok (.iconst 4, 1) := by decide +kernel
theorem dL_refuses_106 : decode cL_refuses 106 = .ok (.iconst 0, 1) := by decide +kernel
theorem dL_refuses_107 : decode cL_refuses 107 = .ok (.iload_n 2, 1) := by decide +kernel
theorem dL_refuses_108 : decode cL_refuses 108 = .ok (.iconst 0, 1) := by decide +kernel
theorem dL_refuses_109 : decode cL_refuses 109 = .ok (.invokestatic 162, 3) := by decide +kernel
theorem dL_refuses_112 : decode cL_refuses 112 = .ok (.ldc 40, 2) := by decide +kernel
theorem dL_refuses_114 : decode cL_refuses 114 = .ok (.if_icmp .ne 315, 3) := by decide +kernel
theorem dL_refuses_117 : decode cL_refuses 117 = .ok (.aload_n 0, 1) := by decide +kernel
theorem dL_refuses_118 : decode cL_refuses 118 = .ok (.iconst 5, 1) := by decide +kernel
theorem dL_refuses_119 : decode cL_refuses 119 = .ok (.iload_n 2, 1) := by decide +kernel
theorem dL_refuses_120 : decode cL_refuses 120 = .ok (.iconst 0, 1) := by decide +kernel
theorem dL_refuses_121 : decode cL_refuses 121 = .ok (.iconst 0, 1) := by decide +kernel
theorem dL_refuses_122 : decode cL_refuses 122 = .ok (.invokestatic 162, 3) := by decide +kernel
theorem dL_refuses_125 : decode cL_refuses 125 = .ok (.ldc 40, 2) := by decide +kernel
theorem dL_refuses_127 : decode cL_refuses 127 = .ok (.if_icmp .ne 302, 3) := by decide +kernel
theorem dL_refuses_130 : decode cL_refuses 130 = .ok (.aload_n 0, 1) := by decide +kernel
theorem dL_refuses_131 : decode cL_refuses 131 = .ok (.bipush 6, 2) := by decide +kernel
theorem dL_refuses_133 : decode cL_refuses 133 = .ok (.iload_n 2, 1) := by decide +kernel
theorem dL_refuses_134 : decode cL_refuses 134 = .ok (.iconst (-1), 1) := by decide +kernel
theorem dL_refuses_135 : decode cL_refuses 135 = .ok (.iconst 0, 1) := by decide +kernel
theorem dL_refuses_136 : decode cL_refuses 136 = .ok (.invokestatic 162, 3) := by decide +kernel
theorem dL_refuses_139 : decode cL_refuses 139 = .ok (.ldc 40, 2) := by decide +kernel
theorem dL_refuses_141 : decode cL_refuses 141 = .ok (.if_icmp .ne 288, 3) := by decide +kernel
theorem dL_refuses_144 : decode cL_refuses 144 = .ok (.aload_n 0, 1) := by decide +kernel
theorem dL_refuses_145 : decode cL_refuses 145 = .ok (.bipush 7, 2) := by decide +kernel
theorem dL_refuses_147 : decode cL_refuses 147 = .ok (.iload_n 3, 1) := by decide +kernel
theorem dL_refuses_148 : decode cL_refuses 148 = .ok (.bipush 60, 2) := by decide +kernel
theorem dL_refuses_150 : decode cL_refuses 150 = .ok (.iconst 0, 1) := by decide +kernel
theorem dL_refuses_151 : decode cL_refuses 151 = .ok (.invokestatic 162, 3) := by decide +kernel
theorem dL_refuses_154 : decode cL_refuses 154 = .ok (.ldc 15, 2) := by decide +kernel
theorem dL_refuses_156 : decode cL_refuses 156 = .ok (.if_icmp .ne 273, 3) := by decide +kernel
theorem dL_refuses_159 : decode cL_refuses 159 = .ok (.aload_n 0, 1) := by decide +kernel
theorem dL_refuses_160 : decode cL_refuses 160 = .ok (.bipush 7, 2) := by decide +kernel
theorem dL_refuses_162 : decode cL_refuses 162 = .ok (.iconst 5, 1) := by decide +kernel
theorem dL_refuses_163 : decode cL_refuses 163 = .ok (.iconst 4, 1) := by decide +kernel
theorem dL_refuses_164 : decode cL_refuses 164 = .ok (.iload_n 1, 1) := by decide +kernel
theorem dL_refuses_165 : decode cL_refuses 165 = .ok (.iconst 4, 1) := by decide +kernel
theorem dL_refuses_166 : decode cL_refuses 166 = .ok (.irem, 1) := by decide +kernel
theorem dL_refuses_167 : decode cL_refuses 167 = .ok (.isub, 1) := by decide +kernel
theorem dL_refuses_168 : decode cL_refuses 168 = .ok (.iconst 0, 1) := by decide +kernel
theorem dL_refuses_169 : decode cL_refuses 169 = .ok (.invokestatic 162, 3) := by decide +kernel
theorem dL_refuses_172 : decode cL_refuses 172 = .ok (.ldc 15, 2) := by decide +kernel
theorem dL_refuses_174 : decode cL_refuses 174 = .ok (.if_icmp .ne 255, 3) := by decide +kernel
theorem dL_refuses_177 : decode cL_refuses 177 = .ok (.aload_n 0, 1) := by decide +kernel
theorem dL_refuses_178 : decode cL_refuses 178 = .ok (.bipush 8, 2) := by decide +kernel
theorem dL_refuses_180 : decode cL_refuses 180 = .ok (.iload_n 2, 1) := by decide +kernel
theorem dL_refuses_181 : decode cL_refuses 181 = .ok (.iconst 0, 1) := by decide +kernel
theorem dL_refuses_182 : decode cL_refuses 182 = .ok (.iconst 0, 1) := by decide +kernel
theorem dL_refuses_183 : decode cL_refuses 183 = .ok (.invokestatic 162, 3) := by decide +kernel
theorem dL_refuses_186 : decode cL_refuses 186 = .ok (.ldc 40, 2) := by decide +kernel
theorem dL_refuses_188 : decode cL_refuses 188 = .ok (.if_icmp .ne 241, 3) := by decide +kernel
theorem dL_refuses_191 : decode cL_refuses 191 = .ok (.aload_n 0, 1) := by decide +kernel
theorem dL_refuses_192 : decode cL_refuses 192 = .ok (.bipush 8, 2) := by decide +kernel
theorem dL_refuses_194 : decode cL_refuses 194 = .ok (.iconst 0, 1) := by decide +kernel
theorem dL_refuses_195 : decode cL_refuses 195 = .ok (.bipush 40, 2) := by decide +kernel
theorem dL_refuses_197 : decode cL_refuses 197 = .ok (.iload_n 1, 1) := by decide +kernel
theorem dL_refuses_198 : decode cL_refuses 198 = .ok (.bipush 99, 2) := by decide +kernel
theorem dL_refuses_200 : decode cL_refuses 200 = .ok (.irem, 1) := by decide +kernel
theorem dL_refuses_201 : decode cL_refuses 201 = .ok (.iadd, 1) := by decide +kernel
theorem dL_refuses_202 : decode cL_refuses 202 = .ok (.iconst 0, 1) := by decide +kernel
theorem dL_refuses_203 : decode cL_refuses 203 = .ok (.invokestatic 162, 3) := by decide +kernel
theorem dL_refuses_206 : decode cL_refuses 206 = .ok (.ldc 40, 2) := by decide +kernel
theorem dL_refuses_208 : decode cL_refuses 208 = .ok (.if_icmp .ne 221, 3) := by decide +kernel
theorem dL_refuses_211 : decode cL_refuses 211 = .ok (.aload_n 0, 1) := by decide +kernel
theorem dL_refuses_212 : decode cL_refuses 212 = .ok (.bipush 9, 2) := by decide +kernel
theorem dL_refuses_214 : decode cL_refuses 214 = .ok (.iload_n 2, 1) := by decide +kernel
theorem dL_refuses_215 : decode cL_refuses 215 = .ok (.iconst 0, 1) := by decide +kernel
theorem dL_refuses_216 : decode cL_refuses 216 = .ok (.iconst 0, 1) := by decide +kernel
theorem dL_refuses_217 : decode cL_refuses 217 = .ok (.invokestatic 162, 3) := by decide +kernel
theorem dL_refuses_220 : decode cL_refuses 220 = .ok (.ldc 40, 2) := by decide +kernel
theorem dL_refuses_222 : decode cL_refuses 222 = .ok (.if_icmp .ne 207, 3) := by decide +kernel
theorem dL_refuses_225 : decode cL_refuses 225 = .ok (.aload_n 0, 1) := by decide +kernel
theorem dL_refuses_226 : decode cL_refuses 226 = .ok (.bipush 10, 2) := by decide +kernel
theorem dL_refuses_228 : decode cL_refuses 228 = .ok (.iload_n 2, 1) := by decide +kernel
theorem dL_refuses_229 : decode cL_refuses 229 = .ok (.iload_n 3, 1) := by decide +kernel
theorem dL_refuses_230 : decode cL_refuses 230 = .ok (.iconst 0, 1) := by decide +kernel
theorem dL_refuses_231 : decode cL_refuses 231 = .ok (.invokestatic 162, 3) := by decide +kernel
theorem dL_refuses_234 : decode cL_refuses 234 = .ok (.ldc 40, 2) := by decide +kernel
theorem dL_refuses_236 : decode cL_refuses 236 = .ok (.if_icmp .ne 193, 3) := by decide +kernel
theorem dL_refuses_239 : decode cL_refuses 239 = .ok (.aload_n 0, 1) := by decide +kernel
theorem dL_refuses_240 : decode cL_refuses 240 = .ok (.bipush 11, 2) := by decide +kernel
theorem dL_refuses_242 : decode cL_refuses 242 = .ok (.iload_n 2, 1) := by decide +kernel
theorem dL_refuses_243 : decode cL_refuses 243 = .ok (.iload_n 3, 1) := by decide +kernel
theorem dL_refuses_244 : decode cL_refuses 244 = .ok (.iconst 0, 1) := by decide +kernel
theorem dL_refuses_245 : decode cL_refuses 245 = .ok (.invokestatic 162, 3) := by decide +kernel
theorem dL_refuses_248 : decode cL_refuses 248 = .ok (.ldc 40, 2) := by decide +kernel
theorem dL_refuses_250 : decode cL_refuses 250 = .ok (.if_icmp .ne 179, 3) := by decide +kernel
theorem dL_refuses_253 : decode cL_refuses 253 = .ok (.aload_n 0, 1) := by decide +kernel
theorem dL_refuses_254 : decode cL_refuses 254 = .ok (.bipush 13, 2) := by decide +kernel
theorem dL_refuses_256 : decode cL_refuses 256 = .ok (.iload_n 2, 1) := by decide +kernel
theorem dL_refuses_257 : decode cL_refuses 257 = .ok (.iconst 0, 1) := by decide +kernel
theorem dL_refuses_258 : decode cL_refuses 258 = .ok (.iconst 0, 1) := by decide +kernel
theorem dL_refuses_259 : decode cL_refuses 259 = .ok (.invokestatic 162, 3) := by decide +kernel
theorem dL_refuses_262 : decode cL_refuses 262 = .ok (.ldc 40, 2) := by decide +kernel
theorem dL_refuses_264 : decode cL_refuses 264 = .ok (.if_icmp .ne 165, 3) := by decide +kernel
theorem dL_refuses_267 : decode cL_refuses 267 = .ok (.aload_n 0, 1) := by decide +kernel
theorem dL_refuses_268 : decode cL_refuses 268 = .ok (.bipush 14, 2) := by decide +kernel
theorem dL_refuses_270 : decode cL_refuses 270 = .ok (.iconst (-1), 1) := by decide +kernel
theorem dL_refuses_271 : decode cL_refuses 271 = .ok (.iload_n 1, 1) := by decide +kernel
theorem dL_refuses_272 : decode cL_refuses 272 = .ok (.bipush 9, 2) := by decide +kernel
theorem dL_refuses_274 : decode cL_refuses 274 = .ok (.irem, 1) := by decide +kernel
theorem dL_refuses_275 : decode cL_refuses 275 = .ok (.isub, 1) := by decide +kernel
theorem dL_refuses_276 : decode cL_refuses 276 = .ok (.iconst 0, 1) := by decide +kernel
theorem dL_refuses_277 : decode cL_refuses 277 = .ok (.iconst 0, 1) := by decide +kernel
theorem dL_refuses_278 : decode cL_refuses 278 = .ok (.invokestatic 162, 3) := by decide +kernel
theorem dL_refuses_281 : decode cL_refuses 281 = .ok (.ldc 40, 2) := by decide +kernel
theorem dL_refuses_283 : decode cL_refuses 283 = .ok (.if_icmp .ne 146, 3) := by decide +kernel
theorem dL_refuses_286 : decode cL_refuses 286 = .ok (.aload_n 0, 1) := by decide +kernel
theorem dL_refuses_287 : decode cL_refuses 287 = .ok (.bipush 15, 2) := by decide +kernel
theorem dL_refuses_289 : decode cL_refuses 289 = .ok (.iload_n 2, 1) := by decide +kernel
theorem dL_refuses_290 : decode cL_refuses 290 = .ok (.iload_n 3, 1) := by decide +kernel
theorem dL_refuses_291 : decode cL_refuses 291 = .ok (.iconst 0, 1) := by decide +kernel
theorem dL_refuses_292 : decode cL_refuses 292 = .ok (.invokestatic 162, 3) := by decide +kernel
theorem dL_refuses_295 : decode cL_refuses 295 = .ok (.ldc 40, 2) := by decide +kernel
theorem dL_refuses_297 : decode cL_refuses 297 = .ok (.if_icmp .ne 132, 3) := by decide +kernel
theorem dL_refuses_300 : decode cL_refuses 300 = .ok (.aload_n 0, 1) := by decide +kernel
theorem dL_refuses_301 : decode cL_refuses 301 = .ok (.bipush 16, 2) := by decide +kernel
theorem dL_refuses_303 : decode cL_refuses 303 = .ok (.iload_n 2, 1) := by decide +kernel
theorem dL_refuses_304 : decode cL_refuses 304 = .ok (.iconst 0, 1) := by decide +kernel
theorem dL_refuses_305 : decode cL_refuses 305 = .ok (.iconst 0, 1) := by decide +kernel
theorem dL_refuses_306 : decode cL_refuses 306 = .ok (.invokestatic 162, 3) := by decide +kernel
theorem dL_refuses_309 : decode cL_refuses 309 = .ok (.ldc 40, 2) := by decide +kernel
theorem dL_refuses_311 : decode cL_refuses 311 = .ok (.if_icmp .ne 118, 3) := by decide +kernel
theorem dL_refuses_314 : decode cL_refuses 314 = .ok (.aload_n 0, 1) := by decide +kernel
theorem dL_refuses_315 : decode cL_refuses 315 = .ok (.bipush 17, 2) := by decide +kernel
theorem dL_refuses_317 : decode cL_refuses 317 = .ok (.iload_n 2, 1) := by decide +kernel
theorem dL_refuses_318 : decode cL_refuses 318 = .ok (.iconst 0, 1) := by decide +kernel
theorem dL_refuses_319 : decode cL_refuses 319 = .ok (.iconst 0, 1) := by decide +kernel
theorem dL_refuses_320 : decode cL_refuses 320 = .ok (.invokestatic 162, 3) := by decide +kernel
theorem dL_refuses_323 : decode cL_refuses 323 = .ok (.ldc 40, 2) := by decide +kernel
theorem dL_refuses_325 : decode cL_refuses 325 = .ok (.if_icmp .ne 104, 3) := by decide +kernel
theorem dL_refuses_328 : decode cL_refuses 328 = .ok (.aload_n 0, 1) := by decide +kernel
theorem dL_refuses_329 : decode cL_refuses 329 = .ok (.bipush 18, 2) := by decide +kernel
theorem dL_refuses_331 : decode cL_refuses 331 = .ok (.iload_n 2, 1) := by decide +kernel
theorem dL_refuses_332 : decode cL_refuses 332 = .ok (.iconst 0, 1) := by decide +kernel
theorem dL_refuses_333 : decode cL_refuses 333 = .ok (.iconst 0, 1) := by decide +kernel
theorem dL_refuses_334 : decode cL_refuses 334 = .ok (.invokestatic 162, 3) := by decide +kernel
theorem dL_refuses_337 : decode cL_refuses 337 = .ok (.ldc 40, 2) := by decide +kernel
theorem dL_refuses_339 : decode cL_refuses 339 = .ok (.if_icmp .ne 90, 3) := by decide +kernel
theorem dL_refuses_342 : decode cL_refuses 342 = .ok (.aload_n 0, 1) := by decide +kernel
theorem dL_refuses_343 : decode cL_refuses 343 = .ok (.bipush 19, 2) := by decide +kernel
theorem dL_refuses_345 : decode cL_refuses 345 = .ok (.iconst 2, 1) := by decide +kernel
theorem dL_refuses_346 : decode cL_refuses 346 = .ok (.iload_n 1, 1) := by decide +kernel
theorem dL_refuses_347 : decode cL_refuses 347 = .ok (.bipush 50, 2) := by decide +kernel
theorem dL_refuses_349 : decode cL_refuses 349 = .ok (.irem, 1) := by decide +kernel
theorem dL_refuses_350 : decode cL_refuses 350 = .ok (.iadd, 1) := by decide +kernel
theorem dL_refuses_351 : decode cL_refuses 351 = .ok (.iconst 0, 1) := by decide +kernel
theorem dL_refuses_352 : decode cL_refuses 352 = .ok (.iconst 0, 1) := by decide +kernel
theorem dL_refuses_353 : decode cL_refuses 353 = .ok (.invokestatic 162, 3) := by decide +kernel
theorem dL_refuses_356 : decode cL_refuses 356 = .ok (.ldc 40, 2) := by decide +kernel
theorem dL_refuses_358 : decode cL_refuses 358 = .ok (.if_icmp .ne 71, 3) := by decide +kernel
theorem dL_refuses_361 : decode cL_refuses 361 = .ok (.aload_n 0, 1) := by decide +kernel
theorem dL_refuses_362 : decode cL_refuses 362 = .ok (.bipush 20, 2) := by decide +kernel
theorem dL_refuses_364 : decode cL_refuses 364 = .ok (.iconst (-1), 1) := by decide +kernel
theorem dL_refuses_365 : decode cL_refuses 365 = .ok (.iload_n 1, 1) := by decide +kernel
theorem dL_refuses_366 : decode cL_refuses 366 = .ok (.bipush 9, 2) := by decide +kernel
theorem dL_refuses_368 : decode cL_refuses 368 = .ok (.irem, 1) := by decide +kernel
theorem dL_refuses_369 : decode cL_refuses 369 = .ok (.isub, 1) := by decide +kernel
theorem dL_refuses_370 : decode cL_refuses 370 = .ok (.iconst 0, 1) := by decide +kernel
theorem dL_refuses_371 : decode cL_refuses 371 = .ok (.iconst 0, 1) := by decide +kernel
theorem dL_refuses_372 : decode cL_refuses 372 = .ok (.invokestatic 162, 3) := by decide +kernel
theorem dL_refuses_375 : decode cL_refuses 375 = .ok (.ldc 40, 2) := by decide +kernel
theorem dL_refuses_377 : decode cL_refuses 377 = .ok (.if_icmp .ne 52, 3) := by decide +kernel
theorem dL_refuses_380 : decode cL_refuses 380 = .ok (.aload_n 0, 1) := by decide +kernel
theorem dL_refuses_381 : decode cL_refuses 381 = .ok (.iconst 0, 1) := by decide +kernel
theorem dL_refuses_382 : decode cL_refuses 382 = .ok (.lconst 0, 1) := by decide +kernel
theorem dL_refuses_383 : decode cL_refuses 383 = .ok (.invokestatic 166, 3) := by decide +kernel
theorem dL_refuses_386 : decode cL_refuses 386 = .ok (.ldc 15, 2) := by decide +kernel
theorem dL_refuses_388 : decode cL_refuses 388 = .ok (.if_icmp .ne 41, 3) := by decide +kernel
theorem dL_refuses_391 : decode cL_refuses 391 = .ok (.aload_n 0, 1) := by decide +kernel
theorem dL_refuses_392 : decode cL_refuses 392 = .ok (.iconst 1, 1) := by decide +kernel
theorem dL_refuses_393 : decode cL_refuses 393 = .ok (.ldc2_w 170, 3) := by decide +kernel
theorem dL_refuses_396 : decode cL_refuses 396 = .ok (.iload_n 1, 1) := by decide +kernel
theorem dL_refuses_397 : decode cL_refuses 397 = .ok (.i2l, 1) := by decide +kernel
theorem dL_refuses_398 : decode cL_refuses 398 = .ok (.ladd, 1) := by decide +kernel
theorem dL_refuses_399 : decode cL_refuses 399 = .ok (.invokestatic 166, 3) := by decide +kernel
theorem dL_refuses_402 : decode cL_refuses 402 = .ok (.ldc 15, 2) := by decide +kernel
theorem dL_refuses_404 : decode cL_refuses 404 = .ok (.if_icmp .ne 25, 3) := by decide +kernel
theorem dL_refuses_407 : decode cL_refuses 407 = .ok (.aload_n 0, 1) := by decide +kernel
theorem dL_refuses_408 : decode cL_refuses 408 = .ok (.iload_n 1, 1) := by decide +kernel
theorem dL_refuses_409 : decode cL_refuses 409 = .ok (.i2l, 1) := by decide +kernel
theorem dL_refuses_410 : decode cL_refuses 410 = .ok (.bipush 100, 2) := by decide +kernel
theorem dL_refuses_412 : decode cL_refuses 412 = .ok (.iload_n 1, 1) := by decide +kernel
theorem dL_refuses_413 : decode cL_refuses 413 = .ok (.bipush 9, 2) := by decide +kernel
theorem dL_refuses_415 : decode cL_refuses 415 = .ok (.irem, 1) := by decide +kernel
theorem dL_refuses_416 : decode cL_refuses 416 = .ok (.iadd, 1) := by decide +kernel
theorem dL_refuses_417 : decode cL_refuses 417 = .ok (.invokestatic 172, 3) := by decide +kernel
theorem dL_refuses_420 : decode cL_refuses 420 = .ok (.ldc 15, 2) := by decide +kernel
theorem dL_refuses_422 : decode cL_refuses 422 = .ok (.if_icmp .ne 7, 3) := by decide +kernel
theorem dL_refuses_425 : decode cL_refuses 425 = .ok (.iconst 1, 1) := by decide +kernel
theorem dL_refuses_426 : decode cL_refuses 426 = .ok (.goto 4, 3) := by decide +kernel
theorem dL_refuses_429 : decode cL_refuses 429 = .ok (.iconst 0, 1) := by decide +kernel
theorem dL_refuses_430 : decode cL_refuses 430 = .ok (.ireturn, 1) := by decide +kernel
theorem dL_holds_0 : decode cL_holds 0 = .ok (.aload_n 0, 1) := by decide +kernel
theorem dL_holds_1 : decode cL_holds 1 = .ok (.iconst 2, 1) := by decide +kernel
theorem dL_holds_2 : decode cL_holds 2 = .ok (.iconst 0, 1) := by decide +kernel
theorem dL_holds_3 : decode cL_holds 3 = .ok (.iconst 0, 1) := by decide +kernel
theorem dL_holds_4 : decode cL_holds 4 = .ok (.iconst 0, 1) := by decide +kernel
theorem dL_holds_5 : decode cL_holds 5 = .ok (.invokestatic 162, 3) := by decide +kernel
theorem dL_holds_8 : decode cL_holds 8 = .ok (.istore_n 2, 1) := by decide +kernel
theorem dL_holds_9 : decode cL_holds 9 = .ok (.iconst 0, 1) := by decide +kernel
theorem dL_holds_10 : decode cL_holds 10 = .ok (.istore_n 3, 1) := by decide +kernel
theorem dL_holds_11 : decode cL_holds 11 = .ok (.iconst 0, 1) := by decide +kernel
theorem dL_holds_12 : decode cL_holds 12 = .ok (.istore 4, 2) := by decide +kernel
theorem dL_holds_14 : decode cL_holds 14 = .ok (.iconst 0, 1) := by decide +kernel
theorem dL_holds_15 : decode cL_holds 15 = .ok (.istore 5, 2) := by decide +kernel
theorem dL_holds_17 : decode cL_holds 17 = .ok (.iconst 0, 1) := by decide +kernel
theorem dL_holds_18 : decode cL_holds 18 = .ok (.istore 6, 2) := by decide +kernel
theorem dL_holds_20 : decode cL_holds 20 = .ok (.iconst 1, 1) := by decide +kernel
theorem dL_holds_21 : decode cL_holds 21 = .ok (.istore 7, 2) := by decide +kernel
theorem dL_holds_23 : decode cL_holds 23 = .ok (.iconst 0, 1) := by decide +kernel
theorem dL_holds_24 : decode cL_holds 24 = .ok (.istore 8, 2) := by decide +kernel
theorem dL_holds_26 : decode cL_holds 26 = .ok (.iload 8, 2) := by decide +kernel
theorem dL_holds_28 : decode cL_holds 28 = .ok (.iload_n 2, 1) := by decide +kernel
theorem dL_holds_29 : decode cL_holds 29 = .ok (.if_icmp .ge 299, 3) := by decide +kernel
theorem dL_holds_32 : decode cL_holds 32 = .ok (.iload 7, 2) := by decide +kernel
theorem dL_holds_34 : decode cL_holds 34 = .ok (.ifCond .eq 294, 3) := by decide +kernel
theorem dL_holds_37 : decode cL_holds 37 = .ok (.aload_n 0, 1) := by decide +kernel
theorem dL_holds_38 : decode cL_holds 38 = .ok (.iconst 3, 1) := by decide +kernel
theorem dL_holds_39 : decode cL_holds 39 = .ok (.iload 8, 2) := by decide +kernel
theorem dL_holds_41 : decode cL_holds 41 = .ok (.iconst 0, 1) := by decide +kernel
theorem dL_holds_42 : decode cL_holds 42 = .ok (.iconst 0, 1) := by decide +kernel
theorem dL_holds_43 : decode cL_holds 43 = .ok (.invokestatic 162, 3) := by decide +kernel
theorem dL_holds_46 : decode cL_holds 46 = .ok (.istore 9, 2) := by decide +kernel
theorem dL_holds_48 : decode cL_holds 48 = .ok (.aload_n 0, 1) := by decide +kernel
theorem dL_holds_49 : decode cL_holds 49 = .ok (.iconst 3, 1) := by decide +kernel
theorem dL_holds_50 : decode cL_holds 50 = .ok (.iload 8, 2) := by decide +kernel
theorem dL_holds_52 : decode cL_holds 52 = .ok (.iconst 3, 1) := by decide +kernel
theorem dL_holds_53 : decode cL_holds 53 = .ok (.iconst 0, 1) := by decide +kernel
theorem dL_holds_54 : decode cL_holds 54 = .ok (.invokestatic 162, 3) := by decide +kernel
theorem dL_holds_57 : decode cL_holds 57 = .ok (.istore 10, 2) := by decide +kernel
theorem dL_holds_59 : decode cL_holds 59 = .ok (.aload_n 0, 1) := by decide +kernel
theorem dL_holds_60 : decode cL_holds 60 = .ok (.iconst 3, 1) := by decide +kernel
theorem dL_holds_61 : decode cL_holds 61 = .ok (.iload 8, 2) := by decide +kernel
theorem dL_holds_63 : decode cL_holds 63 = .ok (.bipush 6, 2) := by decide +kernel
theorem dL_holds_65 : decode cL_holds 65 = .ok (.iconst 0, 1) := by decide +kernel
theorem dL_holds_66 : decode cL_holds 66 = .ok (.invokestatic 162, 3) := by decide +kernel
theorem dL_holds_69 : decode cL_holds 69 = .ok (.istore 11, 2) := by decide +kernel
theorem dL_holds_71 : decode cL_holds 71 = .ok (.aload_n 0, 1) := by decide +kernel
theorem dL_holds_72 : decode cL_holds 72 = .ok (.iconst 3, 1) := by decide +kernel
theorem dL_holds_73 : decode cL_holds 73 = .ok (.iload 8, 2) := by decide +kernel
theorem dL_holds_75 : decode cL_holds 75 = .ok (.iconst 5, 1) := by decide +kernel
theorem dL_holds_76 : decode cL_holds 76 = .ok (.iconst 0, 1) := by decide +kernel
theorem dL_holds_77 : decode cL_holds 77 = .ok (.invokestatic 162, 3) := by decide +kernel
theorem dL_holds_80 : decode cL_holds 80 = .ok (.istore 12, 2) := by decide +kernel
theorem dL_holds_82 : decode cL_holds 82 = .ok (.iconst 0, 1) := by decide +kernel
theorem dL_holds_83 : decode cL_holds 83 = .ok (.istore 13, 2) := by decide +kernel
theorem dL_holds_85 : decode cL_holds 85 = .ok (.iconst 0, 1) := by decide +kernel
theorem dL_holds_86 : decode cL_holds 86 = .ok (.istore 14, 2) := by decide +kernel
theorem dL_holds_88 : decode cL_holds 88 = .ok (.iconst 0, 1) := by decide +kernel
theorem dL_holds_89 : decode cL_holds 89 = .ok (.istore 15, 2) := by decide +kernel
theorem dL_holds_91 : decode cL_holds 91 = .ok (.iload 15, 2) := by decide +kernel
theorem dL_holds_93 : decode cL_holds 93 = .ok (.iload_n 2, 1) := by decide +kernel
theorem dL_holds_94 : decode cL_holds 94 = .ok (.if_icmp .ge 39, 3) := by decide +kernel
theorem dL_holds_97 : decode cL_holds 97 = .ok (.iload 13, 2) := by decide +kernel
theorem dL_holds_99 : decode cL_holds 99 = .ok (.aload_n 0, 1) := by decide +kernel
theorem dL_holds_100 : decode cL_holds 100 = .ok (.iconst 4, 1) := by decide +kernel
theorem dL_holds_101 : decode cL_holds 101 = .ok (.iload 15, 2) := by decide +kernel
theorem dL_holds_103 : decode cL_holds 103 = .ok (.iload 8, 2) := by decide +kernel
theorem dL_holds_105 : decode cL_holds 105 = .ok (.iconst 0, 1) := by decide +kernel
theorem dL_holds_106 : decode cL_holds 106 = .ok (.invokestatic 162, 3) := by decide +kernel
theorem dL_holds_109 : decode cL_holds 109 = .ok (.iadd, 1) := by decide +kernel
theorem dL_holds_110 : decode cL_holds 110 = .ok (.istore 13, 2) := by decide +kernel
theorem dL_holds_112 : decode cL_holds 112 = .ok (.iload 14, 2) := by decide +kernel
theorem dL_holds_114 : decode cL_holds 114 = .ok (.aload_n 0, 1) := by decide +kernel
theorem dL_holds_115 : decode cL_holds 115 = .ok (.iconst 4, 1) := by decide +kernel
theorem dL_holds_116 : decode cL_holds 116 = .ok (.iload 8, 2) := by decide +kernel
theorem dL_holds_118 : decode cL_holds 118 = .ok (.iload 15, 2) := by decide +kernel
theorem dL_holds_120 : decode cL_holds 120 = .ok (.iconst 0, 1) := by decide +kernel
theorem dL_holds_121 : decode cL_holds 121 = .ok (.invokestatic 162, 3) := by decide +kernel
theorem dL_holds_124 : decode cL_holds 124 = .ok (.iadd, 1) := by decide +kernel
theorem dL_holds_125 : decode cL_holds 125 = .ok (.istore 14, 2) := by decide +kernel
theorem dL_holds_127 : decode cL_holds 127 = .ok (.iinc 15 1, 3) := by decide +kernel
theorem dL_holds_130 : decode cL_holds 130 = .ok (.goto (-39), 3) := by decide +kernel
theorem dL_holds_133 : decode cL_holds 133 = .ok (.iload_n 3, 1) := by decide +kernel
theorem dL_holds_134 : decode cL_holds 134 = .ok (.iload 9, 2) := by decide +kernel
theorem dL_holds_136 : decode cL_holds 136 = .ok (.iadd, 1) := by decide +kernel
theorem dL_holds_137 : decode cL_holds 137 = .ok (.istore_n 3, 1) := by decide +kernel
theorem dL_holds_138 : decode cL_holds 138 = .ok (.iload 4, 2) := by decide +kernel
theorem dL_holds_140 : decode cL_holds 140 = .ok (.aload_n 0, 1) := by decide +kernel
theorem dL_holds_141 : decode cL_holds 141 = .ok (.iconst 3, 1) := by decide +kernel
theorem dL_holds_142 : decode cL_holds 142 = .ok (.iload 8, 2) := by decide +kernel
theorem dL_holds_144 : decode cL_holds 144 = .ok (.iconst 2, 1) := by decide +kernel
theorem dL_holds_145 : decode cL_holds 145 = .ok (.iconst 0, 1) := by decide +kernel
theorem dL_holds_146 : decode cL_holds 146 = .ok (.invokestatic 162, 3) := by decide +kernel
theorem dL_holds_149 : decode cL_holds 149 = .ok (.iadd, 1) := by decide +kernel
theorem dL_holds_150 : decode cL_holds 150 = .ok (.istore 4, 2) := by decide +kernel
theorem dL_holds_152 : decode cL_holds 152 = .ok (.iload 5, 2) := by decide +kernel
theorem dL_holds_154 : decode cL_holds 154 = .ok (.aload_n 0, 1) := by decide +kernel
theorem dL_holds_155 : decode cL_holds 155 = .ok (.iconst 3, 1) := by decide +kernel
theorem dL_holds_156 : decode cL_holds 156 = .ok (.iload 8, 2) := by decide +kernel
theorem dL_holds_158 : decode cL_holds 158 = .ok (.iconst 4, 1) := by decide +kernel
theorem dL_holds_159 : decode cL_holds 159 = .ok (.iconst 0, 1) := by decide +kernel
theorem dL_holds_160 : decode cL_holds 160 = .ok (.invokestatic 162, 3) := by decide +kernel
theorem dL_holds_163 : decode cL_holds 163 = .ok (.iadd, 1) := by decide +kernel
theorem dL_holds_164 : decode cL_holds 164 = .ok (.istore 5, 2) := by decide +kernel
theorem dL_holds_166 : decode cL_holds 166 = .ok (.iload 6, 2) := by decide +kernel
theorem dL_holds_168 : decode cL_holds 168 = .ok (.iload 12, 2) := by decide +kernel
theorem dL_holds_170 : decode cL_holds 170 = .ok (.iadd, 1) := by decide +kernel
theorem dL_holds_171 : decode cL_holds 171 = .ok (.istore 6, 2) := by decide +kernel
theorem dL_holds_173 : decode cL_holds 173 = .ok (.iload 9, 2) := by decide +kernel
theorem dL_holds_175 : decode cL_holds 175 = .ok (.aload_n 0, 1) := by decide +kernel
theorem dL_holds_176 : decode cL_holds 176 = .ok (.iconst 3, 1) := by decide +kernel
theorem dL_holds_177 : decode cL_holds 177 = .ok (.iload 8, 2) := by decide +kernel
theorem dL_holds_179 : decode cL_holds 179 = .ok (.iconst 1, 1) := by decide +kernel
theorem dL_holds_180 : decode cL_holds 180 = .ok (.iconst 0, 1) := by decide +kernel
theorem dL_holds_181 : decode cL_holds 181 = .ok (.invokestatic 162, 3) := by decide +kernel
theorem dL_holds_184 : decode cL_holds 184 = .ok (.if_icmp .gt 135, 3) := by decide +kernel
theorem dL_holds_187 : decode cL_holds 187 = .ok (.iload 10, 2) := by decide +kernel
theorem dL_holds_189 : decode cL_holds 189 = .ok (.ifCond .lt 130, 3) := by decide +kernel
theorem dL_holds_192 : decode cL_holds 192 = .ok (.iload 11, 2) := by decide +kernel
theorem dL_holds_194 : decode cL_holds 194 = .ok (.ifCond .lt 125, 3) := by decide +kernel
theorem dL_holds_197 : decode cL_holds 197 = .ok (.aload_n 0, 1) := by decide +kernel
theorem dL_holds_198 : decode cL_holds 198 = .ok (.iconst 3, 1) := by decide +kernel
theorem dL_holds_199 : decode cL_holds 199 = .ok (.iload 8, 2) := by decide +kernel
theorem dL_holds_201 : decode cL_holds 201 = .ok (.bipush 7, 2) := by decide +kernel
theorem dL_holds_203 : decode cL_holds 203 = .ok (.iconst 0, 1) := by decide +kernel
theorem dL_holds_204 : decode cL_holds 204 = .ok (.invokestatic 162, 3) := by decide +kernel
theorem dL_holds_207 : decode cL_holds 207 = .ok (.iload 9, 2) := by decide +kernel
theorem dL_holds_209 : decode cL_holds 209 = .ok (.iload 10, 2) := by decide +kernel
theorem dL_holds_211 : decode cL_holds 211 = .ok (.isub, 1) := by decide +kernel
theorem dL_holds_212 : decode cL_holds 212 = .ok (.iload 11, 2) := by decide +kernel
theorem dL_holds_214 : decode cL_holds 214 = .ok (.isub, 1) := by decide +kernel
theorem dL_holds_215 : decode cL_holds 215 = .ok (.if_icmp .ne 104, 3) := by decide +kernel
theorem dL_holds_218 : decode cL_holds 218 = .ok (.iload 9, 2) := by decide +kernel
theorem dL_holds_220 : decode cL_holds 220 = .ok (.iload 10, 2) := by decide +kernel
theorem dL_holds_222 : decode cL_holds 222 = .ok (.iload 11, 2) := by decide +kernel
theorem dL_holds_224 : decode cL_holds 224 = .ok (.iadd, 1) := by decide +kernel
theorem dL_holds_225 : decode cL_holds 225 = .ok (.if_icmp .lt 94, 3) := by decide +kernel
theorem dL_holds_228 : decode cL_holds 228 = .ok (.iload 13, 2) := by decide +kernel
theorem dL_holds_230 : decode cL_holds 230 = .ok (.iload 11, 2) := by decide +kernel
theorem dL_holds_232 : decode cL_holds 232 = .ok (.if_icmp .ne 87, 3) := by decide +kernel
theorem dL_holds_235 : decode cL_holds 235 = .ok (.iload 14, 2) := by decide +kernel
theorem dL_holds_237 : decode cL_holds 237 = .ok (.iload 12, 2) := by decide +kernel
theorem dL_holds_239 : decode cL_holds 239 = .ok (.if_icmp .ne 80, 3) := by decide +kernel
theorem dL_holds_242 : decode cL_holds 242 = .ok (.aload_n 0, 1) := by decide +kernel
theorem dL_holds_243 : decode cL_holds 243 = .ok (.iconst 4, 1) := by decide +kernel
theorem dL_holds_244 : decode cL_holds 244 = .ok (.iload 8, 2) := by decide +kernel
theorem dL_holds_246 : decode cL_holds 246 = .ok (.iload 8, 2) := by decide +kernel
theorem dL_holds_248 : decode cL_holds 248 = .ok (.iconst 0, 1) := by decide +kernel
theorem dL_holds_249 : decode cL_holds 249 = .ok (.invokestatic 162, 3) := by decide +kernel
theorem dL_holds_252 : decode cL_holds 252 = .ok (.ifCond .ne 67, 3) := by decide +kernel
theorem dL_holds_255 : decode cL_holds 255 = .ok (.aload_n 0, 1) := by decide +kernel
theorem dL_holds_256 : decode cL_holds 256 = .ok (.iconst 3, 1) := by decide +kernel
theorem dL_holds_257 : decode cL_holds 257 = .ok (.iload 8, 2) := by decide +kernel
theorem dL_holds_259 : decode cL_holds 259 = .ok (.iconst 2, 1) := by decide +kernel
theorem dL_holds_260 : decode cL_holds 260 = .ok (.iconst 0, 1) := by decide +kernel
theorem dL_holds_261 : decode cL_holds 261 = .ok (.invokestatic 162, 3) := by decide +kernel
theorem dL_holds_264 : decode cL_holds 264 = .ok (.iload 10, 2) := by decide +kernel
theorem dL_holds_266 : decode cL_holds 266 = .ok (.aload_n 0, 1) := by decide +kernel
theorem dL_holds_267 : decode cL_holds 267 = .ok (.iconst 3, 1) := by decide +kernel
theorem dL_holds_268 : decode cL_holds 268 = .ok (.iload 8, 2) := by decide +kernel
theorem dL_holds_270 : decode cL_holds 270 = .ok (.iconst 4, 1) := by decide +kernel
theorem dL_holds_271 : decode cL_holds 271 = .ok (.iconst 0, 1) := by decide +kernel
theorem dL_holds_272 : decode cL_holds 272 = .ok (.invokestatic 162, 3) := by decide +kernel
theorem dL_holds_275 : decode cL_holds 275 = .ok (.iadd, 1) := by decide +kernel
theorem dL_holds_276 : decode cL_holds 276 = .ok (.iload 12, 2) := by decide +kernel
theorem dL_holds_278 : decode cL_holds 278 = .ok (.iadd, 1) := by decide +kernel
theorem dL_holds_279 : decode cL_holds 279 = .ok (.if_icmp .ne 40, 3) := by decide +kernel
theorem dL_holds_282 : decode cL_holds 282 = .ok (.aload_n 0, 1) := by decide +kernel
theorem dL_holds_283 : decode cL_holds 283 = .ok (.bipush 18, 2) := by decide +kernel
theorem dL_holds_285 : decode cL_holds 285 = .ok (.iload 8, 2) := by decide +kernel
theorem dL_holds_287 : decode cL_holds 287 = .ok (.iconst 0, 1) := by decide +kernel
theorem dL_holds_288 : decode cL_holds 288 = .ok (.iconst 0, 1) := by decide +kernel
theorem dL_holds_289 : decode cL_holds 289 = .ok (.invokestatic 162, 3) := by decide +kernel
theorem dL_holds_292 : decode cL_holds 292 = .ok (.iload 10, 2) := by decide +kernel
theorem dL_holds_294 : decode cL_holds 294 = .ok (.iload 11, 2) := by decide +kernel
theorem dL_holds_296 : decode cL_holds 296 = .ok (.iadd, 1) := by decide +kernel
theorem dL_holds_297 : decode cL_holds 297 = .ok (.if_icmp .ne 22, 3) := by decide +kernel
theorem dL_holds_300 : decode cL_holds 300 = .ok (.aload_n 0, 1) := by decide +kernel
theorem dL_holds_301 : decode cL_holds 301 = .ok (.bipush 17, 2) := by decide +kernel
theorem dL_holds_303 : decode cL_holds 303 = .ok (.iload 8, 2) := by decide +kernel
theorem dL_holds_305 : decode cL_holds 305 = .ok (.iconst 0, 1) := by decide +kernel
theorem dL_holds_306 : decode cL_holds 306 = .ok (.iconst 0, 1) := by decide +kernel
theorem dL_holds_307 : decode cL_holds 307 = .ok (.invokestatic 162, 3) := by decide +kernel
theorem dL_holds_310 : decode cL_holds 310 = .ok (.iload 9, 2) := by decide +kernel
theorem dL_holds_312 : decode cL_holds 312 = .ok (.if_icmp .lt 7, 3) := by decide +kernel
theorem dL_holds_315 : decode cL_holds 315 = .ok (.iconst 1, 1) := by decide +kernel
theorem dL_holds_316 : decode cL_holds 316 = .ok (.goto 4, 3) := by decide +kernel
theorem dL_holds_319 : decode cL_holds 319 = .ok (.iconst 0, 1) := by decide +kernel
theorem dL_holds_320 : decode cL_holds 320 = .ok (.istore 7, 2) := by decide +kernel
theorem dL_holds_322 : decode cL_holds 322 = .ok (.iinc 8 1, 3) := by decide +kernel
theorem dL_holds_325 : decode cL_holds 325 = .ok (.goto (-299), 3) := by decide +kernel
theorem dL_holds_328 : decode cL_holds 328 = .ok (.iload 7, 2) := by decide +kernel
theorem dL_holds_330 : decode cL_holds 330 = .ok (.ifCond .eq 83, 3) := by decide +kernel
theorem dL_holds_333 : decode cL_holds 333 = .ok (.aload_n 0, 1) := by decide +kernel
theorem dL_holds_334 : decode cL_holds 334 = .ok (.iconst 2, 1) := by decide +kernel
theorem dL_holds_335 : decode cL_holds 335 = .ok (.iconst 1, 1) := by decide +kernel
theorem dL_holds_336 : decode cL_holds 336 = .ok (.iconst 0, 1) := by decide +kernel
theorem dL_holds_337 : decode cL_holds 337 = .ok (.iconst 0, 1) := by decide +kernel
theorem dL_holds_338 : decode cL_holds 338 = .ok (.invokestatic 162, 3) := by decide +kernel
theorem dL_holds_341 : decode cL_holds 341 = .ok (.iload 4, 2) := by decide +kernel
theorem dL_holds_343 : decode cL_holds 343 = .ok (.if_icmp .ne 70, 3) := by decide +kernel
theorem dL_holds_346 : decode cL_holds 346 = .ok (.aload_n 0, 1) := by decide +kernel
theorem dL_holds_347 : decode cL_holds 347 = .ok (.iconst 2, 1) := by decide +kernel
theorem dL_holds_348 : decode cL_holds 348 = .ok (.iconst 2, 1) := by decide +kernel
theorem dL_holds_349 : decode cL_holds 349 = .ok (.iconst 0, 1) := by decide +kernel
theorem dL_holds_350 : decode cL_holds 350 = .ok (.iconst 0, 1) := by decide +kernel
theorem dL_holds_351 : decode cL_holds 351 = .ok (.invokestatic 162, 3) := by decide +kernel
theorem dL_holds_354 : decode cL_holds 354 = .ok (.bipush 60, 2) := by decide +kernel
theorem dL_holds_356 : decode cL_holds 356 = .ok (.iload_n 3, 1) := by decide +kernel
theorem dL_holds_357 : decode cL_holds 357 = .ok (.isub, 1) := by decide +kernel
theorem dL_holds_358 : decode cL_holds 358 = .ok (.if_icmp .ne 55, 3) := by decide +kernel
theorem dL_holds_361 : decode cL_holds 361 = .ok (.aload_n 0, 1) := by decide +kernel
theorem dL_holds_362 : decode cL_holds 362 = .ok (.iconst 2, 1) := by decide +kernel
theorem dL_holds_363 : decode cL_holds 363 = .ok (.iconst 3, 1) := by decide +kernel
theorem dL_holds_364 : decode cL_holds 364 = .ok (.iconst 0, 1) := by decide +kernel
theorem dL_holds_365 : decode cL_holds 365 = .ok (.iconst 0, 1) := by decide +kernel
theorem dL_holds_366 : decode cL_holds 366 = .ok (.invokestatic 162, 3) := by decide +kernel
theorem dL_holds_369 : decode cL_holds 369 = .ok (.bipush 60, 2) := by decide +kernel
theorem dL_holds_371 : decode cL_holds 371 = .ok (.iload_n 3, 1) := by decide +kernel
theorem dL_holds_372 : decode cL_holds 372 = .ok (.isub, 1) := by decide +kernel
theorem dL_holds_373 : decode cL_holds 373 = .ok (.iload 5, 2) := by decide +kernel
theorem dL_holds_375 : decode cL_holds 375 = .ok (.isub, 1) := by decide +kernel
theorem dL_holds_376 : decode cL_holds 376 = .ok (.if_icmp .ne 37, 3) := by decide +kernel
theorem dL_holds_379 : decode cL_holds 379 = .ok (.bipush 60, 2) := by decide +kernel
theorem dL_holds_381 : decode cL_holds 381 = .ok (.iload_n 3, 1) := by decide +kernel
theorem dL_holds_382 : decode cL_holds 382 = .ok (.isub, 1) := by decide +kernel
theorem dL_holds_383 : decode cL_holds 383 = .ok (.iload 5, 2) := by decide +kernel
theorem dL_holds_385 : decode cL_holds 385 = .ok (.isub, 1) := by decide +kernel
theorem dL_holds_386 : decode cL_holds 386 = .ok (.ifCond .lt 27, 3) := by decide +kernel
theorem dL_holds_389 : decode cL_holds 389 = .ok (.aload_n 0, 1) := by decide +kernel
theorem dL_holds_390 : decode cL_holds 390 = .ok (.iconst 2, 1) := by decide +kernel
theorem dL_holds_391 : decode cL_holds 391 = .ok (.iconst 4, 1) := by decide +kernel
theorem dL_holds_392 : decode cL_holds 392 = .ok (.iconst 0, 1) := by decide +kernel
theorem dL_holds_393 : decode cL_holds 393 = .ok (.iconst 0, 1) := by decide +kernel
theorem dL_holds_394 : decode cL_holds 394 = .ok (.invokestatic 162, 3) := by decide +kernel
theorem dL_holds_397 : decode cL_holds 397 = .ok (.iload 6, 2) := by decide +kernel
theorem dL_holds_399 : decode cL_holds 399 = .ok (.if_icmp .ne 14, 3) := by decide +kernel
theorem dL_holds_402 : decode cL_holds 402 = .ok (.iload 4, 2) := by decide +kernel
theorem dL_holds_404 : decode cL_holds 404 = .ok (.bipush 60, 2) := by decide +kernel
theorem dL_holds_406 : decode cL_holds 406 = .ok (.if_icmp .gt 7, 3) := by decide +kernel
theorem dL_holds_409 : decode cL_holds 409 = .ok (.iconst 1, 1) := by decide +kernel
theorem dL_holds_410 : decode cL_holds 410 = .ok (.goto 4, 3) := by decide +kernel
theorem dL_holds_413 : decode cL_holds 413 = .ok (.iconst 0, 1) := by decide +kernel
theorem dL_holds_414 : decode cL_holds 414 = .ok (.istore 7, 2) := by decide +kernel
theorem dL_holds_416 : decode cL_holds 416 = .ok (.iload_n 2, 1) := by decide +kernel
theorem dL_holds_417 : decode cL_holds 417 = .ok (.ifCond .eq 8, 3) := by decide +kernel
theorem dL_holds_420 : decode cL_holds 420 = .ok (.iload 7, 2) := by decide +kernel
theorem dL_holds_422 : decode cL_holds 422 = .ok (.ifCond .ne 22, 3) := by decide +kernel
theorem dL_holds_425 : decode cL_holds 425 = .ok (.iload 7, 2) := by decide +kernel
theorem dL_holds_427 : decode cL_holds 427 = .ok (.ifCond .eq 15, 3) := by decide +kernel
theorem dL_holds_430 : decode cL_holds 430 = .ok (.aload_n 0, 1) := by decide +kernel
theorem dL_holds_431 : decode cL_holds 431 = .ok (.invokevirtual 176, 3) := by decide +kernel
theorem dL_holds_434 : decode cL_holds 434 = .ok (.iconst (-1), 1) := by decide +kernel
theorem dL_holds_435 : decode cL_holds 435 = .ok (.if_icmp .ne 7, 3) := by decide +kernel
theorem dL_holds_438 : decode cL_holds 438 = .ok (.iconst 1, 1) := by decide +kernel
theorem dL_holds_439 : decode cL_holds 439 = .ok (.goto 4, 3) := by decide +kernel
theorem dL_holds_442 : decode cL_holds 442 = .ok (.iconst 0, 1) := by decide +kernel
theorem dL_holds_443 : decode cL_holds 443 = .ok (.ireturn, 1) := by decide +kernel
theorem dL_holds_444 : decode cL_holds 444 = .ok (.iload_n 1, 1) := by decide +kernel
theorem dL_holds_445 : decode cL_holds 445 = .ok (.iload_n 2, 1) := by decide +kernel
theorem dL_holds_446 : decode cL_holds 446 = .ok (.irem, 1) := by decide +kernel
theorem dL_holds_447 : decode cL_holds 447 = .ok (.istore 8, 2) := by decide +kernel
theorem dL_holds_449 : decode cL_holds 449 = .ok (.aload_n 0, 1) := by decide +kernel
theorem dL_holds_450 : decode cL_holds 450 = .ok (.iconst 3, 1) := by decide +kernel
theorem dL_holds_451 : decode cL_holds 451 = .ok (.iload 8, 2) := by decide +kernel
theorem dL_holds_453 : decode cL_holds 453 = .ok (.iconst 2, 1) := by decide +kernel
theorem dL_holds_454 : decode cL_holds 454 = .ok (.iconst 0, 1) := by decide +kernel
theorem dL_holds_455 : decode cL_holds 455 = .ok (.invokestatic 162, 3) := by decide +kernel
theorem dL_holds_458 : decode cL_holds 458 = .ok (.istore 9, 2) := by decide +kernel
theorem dL_holds_460 : decode cL_holds 460 = .ok (.iconst 0, 1) := by decide +kernel
theorem dL_holds_461 : decode cL_holds 461 = .ok (.istore 10, 2) := by decide +kernel
theorem dL_holds_463 : decode cL_holds 463 = .ok (.iconst 0, 1) := by decide +kernel
theorem dL_holds_464 : decode cL_holds 464 = .ok (.istore 11, 2) := by decide +kernel
theorem dL_holds_466 : decode cL_holds 466 = .ok (.iload 11, 2) := by decide +kernel
theorem dL_holds_468 : decode cL_holds 468 = .ok (.iload 9, 2) := by decide +kernel
theorem dL_holds_470 : decode cL_holds 470 = .ok (.if_icmp .ge 70, 3) := by decide +kernel
theorem dL_holds_473 : decode cL_holds 473 = .ok (.iload 7, 2) := by decide +kernel
theorem dL_holds_475 : decode cL_holds 475 = .ok (.ifCond .eq 65, 3) := by decide +kernel
theorem dL_holds_478 : decode cL_holds 478 = .ok (.aload_n 0, 1) := by decide +kernel
theorem dL_holds_479 : decode cL_holds 479 = .ok (.bipush 6, 2) := by decide +kernel
theorem dL_holds_481 : decode cL_holds 481 = .ok (.iload 8, 2) := by decide +kernel
theorem dL_holds_483 : decode cL_holds 483 = .ok (.iload 11, 2) := by decide +kernel
theorem dL_holds_485 : decode cL_holds 485 = .ok (.iconst 0, 1) := by decide +kernel
theorem dL_holds_486 : decode cL_holds 486 = .ok (.invokestatic 162, 3) := by decide +kernel
theorem dL_holds_489 : decode cL_holds 489 = .ok (.istore 12, 2) := by decide +kernel
theorem dL_holds_491 : decode cL_holds 491 = .ok (.aload_n 0, 1) := by decide +kernel
theorem dL_holds_492 : decode cL_holds 492 = .ok (.iconst 5, 1) := by decide +kernel
theorem dL_holds_493 : decode cL_holds 493 = .ok (.iload 8, 2) := by decide +kernel
theorem dL_holds_495 : decode cL_holds 495 = .ok (.iload 12, 2) := by decide +kernel
theorem dL_holds_497 : decode cL_holds 497 = .ok (.iconst 0, 1) := by decide +kernel
theorem dL_holds_498 : decode cL_holds 498 = .ok (.invokestatic 162, 3) := by decide +kernel
theorem dL_holds_501 : decode cL_holds 501 = .ok (.istore 13, 2) := by decide +kernel
theorem dL_holds_503 : decode cL_holds 503 = .ok (.iload 13, 2) := by decide +kernel
theorem dL_holds_505 : decode cL_holds 505 = .ok (.iload 10, 2) := by decide +kernel
theorem dL_holds_507 : decode cL_holds 507 = .ok (.if_icmp .le 20, 3) := by decide +kernel
theorem dL_holds_510 : decode cL_holds 510 = .ok (.iload 13, 2) := by decide +kernel
theorem dL_holds_512 : decode cL_holds 512 = .ok (.aload_n 0, 1) := by decide +kernel
theorem dL_holds_513 : decode cL_holds 513 = .ok (.iconst 2, 1) := by decide +kernel
theorem dL_holds_514 : decode cL_holds 514 = .ok (.iconst 5, 1) := by decide +kernel
theorem dL_holds_515 : decode cL_holds 515 = .ok (.iconst 0, 1) := by decide +kernel
theorem dL_holds_516 : decode cL_holds 516 = .ok (.iconst 0, 1) := by decide +kernel
theorem dL_holds_517 : decode cL_holds 517 = .ok (.invokestatic 162, 3) := by decide +kernel
theorem dL_holds_520 : decode cL_holds 520 = .ok (.if_icmp .gt 7, 3) := by decide +kernel
theorem dL_holds_523 : decode cL_holds 523 = .ok (.iconst 1, 1) := by decide +kernel
theorem dL_holds_524 : decode cL_holds 524 = .ok (.goto 4, 3) := by decide +kernel
theorem dL_holds_527 : decode cL_holds 527 = .ok (.iconst 0, 1) := by decide +kernel
theorem dL_holds_528 : decode cL_holds 528 = .ok (.istore 7, 2) := by decide +kernel
theorem dL_holds_530 : decode cL_holds 530 = .ok (.iload 13, 2) := by decide +kernel
theorem dL_holds_532 : decode cL_holds 532 = .ok (.istore 10, 2) := by decide +kernel
theorem dL_holds_534 : decode cL_holds 534 = .ok (.iinc 11 1, 3) := by decide +kernel
theorem dL_holds_537 : decode cL_holds 537 = .ok (.goto (-71), 3) := by decide +kernel
theorem dL_holds_540 : decode cL_holds 540 = .ok (.aload_n 0, 1) := by decide +kernel
theorem dL_holds_541 : decode cL_holds 541 = .ok (.bipush 14, 2) := by decide +kernel
theorem dL_holds_543 : decode cL_holds 543 = .ok (.iload 8, 2) := by decide +kernel
theorem dL_holds_545 : decode cL_holds 545 = .ok (.iconst 0, 1) := by decide +kernel
theorem dL_holds_546 : decode cL_holds 546 = .ok (.iconst 0, 1) := by decide +kernel
theorem dL_holds_547 : decode cL_holds 547 = .ok (.invokestatic 162, 3) := by decide +kernel
theorem dL_holds_550 : decode cL_holds 550 = .ok (.istore 11, 2) := by decide +kernel
theorem dL_holds_552 : decode cL_holds 552 = .ok (.aload_n 0, 1) := by decide +kernel
theorem dL_holds_553 : decode cL_holds 553 = .ok (.bipush 15, 2) := by decide +kernel
theorem dL_holds_555 : decode cL_holds 555 = .ok (.iload 8, 2) := by decide +kernel
theorem dL_holds_557 : decode cL_holds 557 = .ok (.bipush 60, 2) := by decide +kernel
theorem dL_holds_559 : decode cL_holds 559 = .ok (.iconst 0, 1) := by decide +kernel
theorem dL_holds_560 : decode cL_holds 560 = .ok (.invokestatic 162, 3) := by decide +kernel
theorem dL_holds_563 : decode cL_holds 563 = .ok (.istore 12, 2) := by decide +kernel
theorem dL_holds_565 : decode cL_holds 565 = .ok (.iload 7, 2) := by decide +kernel
theorem dL_holds_567 : decode cL_holds 567 = .ok (.ifCond .eq 155, 3) := by decide +kernel
theorem dL_holds_570 : decode cL_holds 570 = .ok (.aload_n 0, 1) := by decide +kernel
theorem dL_holds_571 : decode cL_holds 571 = .ok (.bipush 6, 2) := by decide +kernel
theorem dL_holds_573 : decode cL_holds 573 = .ok (.iload 8, 2) := by decide +kernel
theorem dL_holds_575 : decode cL_holds 575 = .ok (.iload 9, 2) := by decide +kernel
theorem dL_holds_577 : decode cL_holds 577 = .ok (.iconst 0, 1) := by decide +kernel
theorem dL_holds_578 : decode cL_holds 578 = .ok (.invokestatic 162, 3) := by decide +kernel
theorem dL_holds_581 : decode cL_holds 581 = .ok (.iconst (-1), 1) := by decide +kernel
theorem dL_holds_582 : decode cL_holds 582 = .ok (.if_icmp .ne 140, 3) := by decide +kernel
theorem dL_holds_585 : decode cL_holds 585 = .ok (.iload 11, 2) := by decide +kernel
theorem dL_holds_587 : decode cL_holds 587 = .ok (.ifCond .lt 135, 3) := by decide +kernel
theorem dL_holds_590 : decode cL_holds 590 = .ok (.iload 11, 2) := by decide +kernel
theorem dL_holds_592 : decode cL_holds 592 = .ok (.ifCond .le 7, 3) := by decide +kernel
theorem dL_holds_595 : decode cL_holds 595 = .ok (.iconst 1, 1) := by decide +kernel
theorem dL_holds_596 : decode cL_holds 596 = .ok (.goto 4, 3) := by decide +kernel
theorem dL_holds_599 : decode cL_holds 599 = .ok (.iconst 0, 1) := by decide +kernel
theorem dL_holds_600 : decode cL_holds 600 = .ok (.iload 9, 2) := by decide +kernel
theorem dL_holds_602 : decode cL_holds 602 = .ok (.bipush 40, 2) := by decide +kernel
theorem dL_holds_604 : decode cL_holds 604 = .ok (.if_icmp .eq 12, 3) := by decide +kernel
theorem dL_holds_607 : decode cL_holds 607 = .ok (.aload_n 0, 1) := by decide +kernel
theorem dL_holds_608 : decode cL_holds 608 = .ok (.iload 8, 2) := by decide +kernel
theorem dL_holds_610 : decode cL_holds 610 = .ok (.invokestatic 179, 3) := by decide +kernel
theorem dL_holds_613 : decode cL_holds 613 = .ok (.ifCond .eq 7, 3) := by decide +kernel
theorem dL_holds_616 : decode cL_holds 616 = .ok (.iconst 1, 1) := by decide +kernel
theorem dL_holds_617 : decode cL_holds 617 = .ok (.goto 4, 3) := by decide +kernel
theorem dL_holds_620 : decode cL_holds 620 = .ok (.iconst 0, 1) := by decide +kernel
theorem dL_holds_621 : decode cL_holds 621 = .ok (.if_icmp .ne 7, 3) := by decide +kernel
theorem dL_holds_624 : decode cL_holds 624 = .ok (.iconst 1, 1) := by decide +kernel
theorem dL_holds_625 : decode cL_holds 625 = .ok (.goto 4, 3) := by decide +kernel
theorem dL_holds_628 : decode cL_holds 628 = .ok (.iconst 0, 1) := by decide +kernel
theorem dL_holds_629 : decode cL_holds 629 = .ok (.iload 9, 2) := by decide +kernel
theorem dL_holds_631 : decode cL_holds 631 = .ok (.bipush 40, 2) := by decide +kernel
theorem dL_holds_633 : decode cL_holds 633 = .ok (.if_icmp .ne 7, 3) := by decide +kernel
theorem dL_holds_636 : decode cL_holds 636 = .ok (.iconst 1, 1) := by decide +kernel
theorem dL_holds_637 : decode cL_holds 637 = .ok (.goto 4, 3) := by decide +kernel
theorem dL_holds_640 : decode cL_holds 640 = .ok (.iconst 0, 1) := by decide +kernel
theorem dL_holds_641 : decode cL_holds 641 = .ok (.ior, 1) := by decide +kernel
theorem dL_holds_642 : decode cL_holds 642 = .ok (.ifCond .eq 80, 3) := by decide +kernel
theorem dL_holds_645 : decode cL_holds 645 = .ok (.iload 12, 2) := by decide +kernel
theorem dL_holds_647 : decode cL_holds 647 = .ok (.ifCond .le 7, 3) := by decide +kernel
theorem dL_holds_650 : decode cL_holds 650 = .ok (.iconst 1, 1) := by decide +kernel
theorem dL_holds_651 : decode cL_holds 651 = .ok (.goto 4, 3) := by decide +kernel
theorem dL_holds_654 : decode cL_holds 654 = .ok (.iconst 0, 1) := by decide +kernel
theorem dL_holds_655 : decode cL_holds 655 = .ok (.aload_n 0, 1) := by decide +kernel
theorem dL_holds_656 : decode cL_holds 656 = .ok (.bipush 16, 2) := by decide +kernel
theorem dL_holds_658 : decode cL_holds 658 = .ok (.iload 8, 2) := by decide +kernel
theorem dL_holds_660 : decode cL_holds 660 = .ok (.iconst 0, 1) := by decide +kernel
theorem dL_holds_661 : decode cL_holds 661 = .ok (.iconst 0, 1) := by decide +kernel
theorem dL_holds_662 : decode cL_holds 662 = .ok (.invokestatic 162, 3) := by decide +kernel
theorem dL_holds_665 : decode cL_holds 665 = .ok (.iconst (-1), 1) := by decide +kernel
theorem dL_holds_666 : decode cL_holds 666 = .ok (.if_icmp .eq 7, 3) := by decide +kernel
theorem dL_holds_669 : decode cL_holds 669 = .ok (.iconst 1, 1) := by decide +kernel
theorem dL_holds_670 : decode cL_holds 670 = .ok (.goto 4, 3) := by decide +kernel
theorem dL_holds_673 : decode cL_holds 673 = .ok (.iconst 0, 1) := by decide +kernel
theorem dL_holds_674 : decode cL_holds 674 = .ok (.if_icmp .ne 48, 3) := by decide +kernel
theorem dL_holds_677 : decode cL_holds 677 = .ok (.iload 12, 2) := by decide +kernel
theorem dL_holds_679 : decode cL_holds 679 = .ok (.aload_n 0, 1) := by decide +kernel
theorem dL_holds_680 : decode cL_holds 680 = .ok (.bipush 15, 2) := by decide +kernel
theorem dL_holds_682 : decode cL_holds 682 = .ok (.iload 8, 2) := by decide +kernel
theorem dL_holds_684 : decode cL_holds 684 = .ok (.iload_n 1, 1) := by decide +kernel
theorem dL_holds_685 : decode cL_holds 685 = .ok (.bipush 8, 2) := by decide +kernel
theorem dL_holds_687 : decode cL_holds 687 = .ok (.idiv, 1) := by decide +kernel
theorem dL_holds_688 : decode cL_holds 688 = .ok (.bipush 61, 2) := by decide +kernel
theorem dL_holds_690 : decode cL_holds 690 = .ok (.irem, 1) := by decide +kernel
theorem dL_holds_691 : decode cL_holds 691 = .ok (.iconst 0, 1) := by decide +kernel
theorem dL_holds_692 : decode cL_holds 692 = .ok (.invokestatic 162, 3) := by decide +kernel
theorem dL_holds_695 : decode cL_holds 695 = .ok (.if_icmp .lt 27, 3) := by decide +kernel
theorem dL_holds_698 : decode cL_holds 698 = .ok (.aload_n 0, 1) := by decide +kernel
theorem dL_holds_699 : decode cL_holds 699 = .ok (.bipush 15, 2) := by decide +kernel
theorem dL_holds_701 : decode cL_holds 701 = .ok (.iload 8, 2) := by decide +kernel
theorem dL_holds_703 : decode cL_holds 703 = .ok (.iconst 0, 1) := by decide +kernel
theorem dL_holds_704 : decode cL_holds 704 = .ok (.iconst 0, 1) := by decide +kernel
theorem dL_holds_705 : decode cL_holds 705 = .ok (.invokestatic 162, 3) := by decide +kernel
theorem dL_holds_708 : decode cL_holds 708 = .ok (.ifCond .ne 14, 3) := by decide +kernel
theorem dL_holds_711 : decode cL_holds 711 = .ok (.iload 12, 2) := by decide +kernel
theorem dL_holds_713 : decode cL_holds 713 = .ok (.iload 11, 2) := by decide +kernel
theorem dL_holds_715 : decode cL_holds 715 = .ok (.if_icmp .gt 7, 3) := by decide +kernel
theorem dL_holds_718 : decode cL_holds 718 = .ok (.iconst 1, 1) := by decide +kernel
theorem dL_holds_719 : decode cL_holds 719 = .ok (.goto 4, 3) := by decide +kernel
theorem dL_holds_722 : decode cL_holds 722 = .ok (.iconst 0, 1) := by decide +kernel
theorem dL_holds_723 : decode cL_holds 723 = .ok (.ireturn, 1) := by decide +kernel
theorem dL_wouldTake_0 : decode cL_wouldTake 0 = .ok (.iconst 0, 1) := by decide +kernel
theorem dL_wouldTake_1 : decode cL_wouldTake 1 = .ok (.istore_n 2, 1) := by decide +kernel
theorem dL_wouldTake_2 : decode cL_wouldTake 2 = .ok (.iload_n 2, 1) := by decide +kernel
theorem dL_wouldTake_3 : decode cL_wouldTake 3 = .ok (.bipush 40, 2) := by decide +kernel
theorem dL_wouldTake_5 : decode cL_wouldTake 5 = .ok (.if_icmp .ge 40, 3) := by decide +kernel
theorem dL_wouldTake_8 : decode cL_wouldTake 8 = .ok (.aload_n 0, 1) := by decide +kernel
theorem dL_wouldTake_9 : decode cL_wouldTake 9 = .ok (.iconst 5, 1) := by decide +kernel
theorem dL_wouldTake_10 : decode cL_wouldTake 10 = .ok (.iload_n 1, 1) := by decide +kernel
theorem dL_wouldTake_11 : decode cL_wouldTake 11 = .ok (.iload_n 2, 1) := by decide +kernel
theorem dL_wouldTake_12 : decode cL_wouldTake 12 = .ok (.iconst 0, 1) := by decide +kernel
theorem dL_wouldTake_13 : decode cL_wouldTake 13 = .ok (.invokestatic 162, 3) := by decide +kernel
theorem dL_wouldTake_16 : decode cL_wouldTake 16 = .ok (.iconst (-1), 1) := by decide +kernel
theorem dL_wouldTake_17 : decode cL_wouldTake 17 = .ok (.if_icmp .ne 22, 3) := by decide +kernel
theorem dL_wouldTake_20 : decode cL_wouldTake 20 = .ok (.aload_n 0, 1) := by decide +kernel
theorem dL_wouldTake_21 : decode cL_wouldTake 21 = .ok (.bipush 13, 2) := by decide +kernel
theorem dL_wouldTake_23 : decode cL_wouldTake 23 = .ok (.iload_n 1, 1) := by decide +kernel
theorem dL_wouldTake_24 : decode cL_wouldTake 24 = .ok (.iload_n 2, 1) := by decide +kernel
theorem dL_wouldTake_25 : decode cL_wouldTake 25 = .ok (.iconst 0, 1) := by decide +kernel
theorem dL_wouldTake_26 : decode cL_wouldTake 26 = .ok (.invokestatic 162, 3) := by decide +kernel
theorem dL_wouldTake_29 : decode cL_wouldTake 29 = .ok (.iconst 5, 1) := by decide +kernel
theorem dL_wouldTake_30 : decode cL_wouldTake 30 = .ok (.if_icmp .ge 7, 3) := by decide +kernel
theorem dL_wouldTake_33 : decode cL_wouldTake 33 = .ok (.iconst 1, 1) := by decide +kernel
theorem dL_wouldTake_34 : decode cL_wouldTake 34 = .ok (.goto 4, 3) := by decide +kernel
theorem dL_wouldTake_37 : decode cL_wouldTake 37 = .ok (.iconst 0, 1) := by decide +kernel
theorem dL_wouldTake_38 : decode cL_wouldTake 38 = .ok (.ireturn, 1) := by decide +kernel
theorem dL_wouldTake_39 : decode cL_wouldTake 39 = .ok (.iinc 2 1, 3) := by decide +kernel
theorem dL_wouldTake_42 : decode cL_wouldTake 42 = .ok (.goto (-40), 3) := by decide +kernel
theorem dL_wouldTake_45 : decode cL_wouldTake 45 = .ok (.iconst 0, 1) := by decide +kernel
theorem dL_wouldTake_46 : decode cL_wouldTake 46 = .ok (.ireturn, 1) := by decide +kernel
theorem dL_act_0 : decode cL_act 0 = .ok (.aload_n 0, 1) := by decide +kernel
theorem dL_act_1 : decode cL_act 1 = .ok (.iconst 2, 1) := by decide +kernel
theorem dL_act_2 : decode cL_act 2 = .ok (.iconst 0, 1) := by decide +kernel
theorem dL_act_3 : decode cL_act 3 = .ok (.iconst 0, 1) := by decide +kernel
theorem dL_act_4 : decode cL_act 4 = .ok (.iconst 0, 1) := by decide +kernel
theorem dL_act_5 : decode cL_act 5 = .ok (.invokestatic 162, 3) := by decide +kernel
theorem dL_act_8 : decode cL_act 8 = .ok (.istore_n 2, 1) := by decide +kernel
theorem dL_act_9 : decode cL_act 9 = .ok (.iload_n 2, 1) := by decide +kernel
theorem dL_act_10 : decode cL_act 10 = .ok (.ifCond .ne 7, 3) := by decide +kernel
theorem dL_act_13 : decode cL_act 13 = .ok (.iconst 0, 1) := by decide +kernel
theorem dL_act_14 : decode cL_act 14 = .ok (.goto 9, 3) := by decide +kernel
theorem dL_act_17 : decode cL_act 17 = .ok (.iload_n 1, 1) := by decide +kernel
theorem dL_act_18 : decode cL_act 18 = .ok (.bipush 16, 2) := by decide +kernel
theorem dL_act_20 : decode cL_act 20 = .ok (.idiv, 1) := by decide +kernel
theorem dL_act_21 : decode cL_act 21 = .ok (.iload_n 2, 1) := by decide +kernel
theorem dL_act_22 : decode cL_act 22 = .ok (.irem, 1) := by decide +kernel
theorem dL_act_23 : decode cL_act 23 = .ok (.istore_n 3, 1) := by decide +kernel
theorem dL_act_24 : decode cL_act 24 = .ok (.iload_n 1, 1) := by decide +kernel
theorem dL_act_25 : decode cL_act 25 = .ok (.sipush 128, 3) := by decide +kernel
theorem dL_act_28 : decode cL_act 28 = .ok (.idiv, 1) := by decide +kernel
theorem dL_act_29 : decode cL_act 29 = .ok (.bipush 40, 2) := by decide +kernel
theorem dL_act_31 : decode cL_act 31 = .ok (.irem, 1) := by decide +kernel
theorem dL_act_32 : decode cL_act 32 = .ok (.istore 4, 2) := by decide +kernel
theorem dL_act_34 : decode cL_act 34 = .ok (.iload_n 1, 1) := by decide +kernel
theorem dL_act_35 : decode cL_act 35 = .ok (.bipush 16, 2) := by decide +kernel
theorem dL_act_37 : decode cL_act 37 = .ok (.irem, 1) := by decide +kernel
theorem dL_act_38 : decode cL_act 38 = .ok (.tableswitch 166 0 7 #[46, 72, 89, 106, 106, 117, 136, 151], 46) := by decide +kernel
theorem dL_act_84 : decode cL_act 84 = .ok (.aload_n 0, 1) := by decide +kernel
theorem dL_act_85 : decode cL_act 85 = .ok (.bipush 7, 2) := by decide +kernel
theorem dL_act_87 : decode cL_act 87 = .ok (.iload_n 1, 1) := by decide +kernel
theorem dL_act_88 : decode cL_act 88 = .ok (.bipush 16, 2) := by decide +kernel
theorem dL_act_90 : decode cL_act 90 = .ok (.idiv, 1) := by decide +kernel
theorem dL_act_91 : decode cL_act 91 = .ok (.bipush 25, 2) := by decide +kernel
theorem dL_act_93 : decode cL_act 93 = .ok (.irem, 1) := by decide +kernel
theorem dL_act_94 : decode cL_act 94 = .ok (.bipush 25, 2) := by decide +kernel
theorem dL_act_96 : decode cL_act 96 = .ok (.iload_n 1, 1) := by decide +kernel
theorem dL_act_97 : decode cL_act 97 = .ok (.sipush 400, 3) := by decide +kernel
theorem dL_act_100 : decode cL_act 100 = .ok (.idiv, 1) := by decide +kernel
theorem dL_act_101 : decode cL_act 101 = .ok (.bipush 36, 2) := by decide +kernel
theorem dL_act_103 : decode cL_act 103 = .ok (.irem, 1) := by decide +kernel
theorem dL_act_104 : decode cL_act 104 = .ok (.iadd, 1) := by decide +kernel
theorem dL_act_105 : decode cL_act 105 = .ok (.iconst 0, 1) := by decide +kernel
theorem dL_act_106 : decode cL_act 106 = .ok (.invokestatic 162, 3) := by decide +kernel
theorem dL_act_109 : decode cL_act 109 = .ok (.ireturn, 1) := by decide +kernel
theorem dL_act_110 : decode cL_act 110 = .ok (.aload_n 0, 1) := by decide +kernel
theorem dL_act_111 : decode cL_act 111 = .ok (.bipush 10, 2) := by decide +kernel
theorem dL_act_113 : decode cL_act 113 = .ok (.iload_n 3, 1) := by decide +kernel
theorem dL_act_114 : decode cL_act 114 = .ok (.iload_n 1, 1) := by decide +kernel
theorem dL_act_115 : decode cL_act 115 = .ok (.sipush 128, 3) := by decide +kernel
theorem dL_act_118 : decode cL_act 118 = .ok (.idiv, 1) := by decide +kernel
theorem dL_act_119 : decode cL_act 119 = .ok (.bipush 61, 2) := by decide +kernel
theorem dL_act_121 : decode cL_act 121 = .ok (.irem, 1) := by decide +kernel
theorem dL_act_122 : decode cL_act 122 = .ok (.iconst 0, 1) := by decide +kernel
theorem dL_act_123 : decode cL_act 123 = .ok (.invokestatic 162, 3) := by decide +kernel
theorem dL_act_126 : decode cL_act 126 = .ok (.ireturn, 1) := by decide +kernel
theorem dL_act_127 : decode cL_act 127 = .ok (.aload_n 0, 1) := by decide +kernel
theorem dL_act_128 : decode cL_act 128 = .ok (.bipush 11, 2) := by decide +kernel
theorem dL_act_130 : decode cL_act 130 = .ok (.iload_n 3, 1) := by decide +kernel
theorem dL_act_131 : decode cL_act 131 = .ok (.iload_n 1, 1) := by decide +kernel
theorem dL_act_132 : decode cL_act 132 = .ok (.sipush 128, 3) := by decide +kernel
theorem dL_act_135 : decode cL_act 135 = .ok (.idiv, 1) := by decide +kernel
theorem dL_act_136 : decode cL_act 136 = .ok (.bipush 61, 2) := by decide +kernel
theorem dL_act_138 : decode cL_act 138 = .ok (.irem, 1) := by decide +kernel
theorem dL_act_139 : decode cL_act 139 = .ok (.iconst 0, 1) := by decide +kernel
theorem dL_act_140 : decode cL_act 140 = .ok (.invokestatic 162, 3) := by decide +kernel
theorem dL_act_143 : decode cL_act 143 = .ok (.ireturn, 1) := by decide +kernel
theorem dL_act_144 : decode cL_act 144 = .ok (.aload_n 0, 1) := by decide +kernel
theorem dL_act_145 : decode cL_act 145 = .ok (.bipush 9, 2) := by decide +kernel
theorem dL_act_147 : decode cL_act 147 = .ok (.iload_n 3, 1) := by decide +kernel
theorem dL_act_148 : decode cL_act 148 = .ok (.iload 4, 2) := by decide +kernel
theorem dL_act_150 : decode cL_act 150 = .ok (.iconst 0, 1) := by decide +kernel
theorem dL_act_151 : decode cL_act 151 = .ok (.invokestatic 162, 3) := by decide +kernel
theorem dL_act_154 : decode cL_act 154 = .ok (.ireturn, 1) := by decide +kernel
theorem dL_act_155 : decode cL_act 155 = .ok (.iload_n 2, 1) := by decide +kernel
theorem dL_act_156 : decode cL_act 156 = .ok (.iconst 2, 1) := by decide +kernel
theorem dL_act_157 : decode cL_act 157 = .ok (.if_icmp .ge 7, 3) := by decide +kernel
theorem dL_act_160 : decode cL_act 160 = .ok (.iconst (-1), 1) := by decide +kernel
theorem dL_act_161 : decode cL_act 161 = .ok (.goto 12, 3) := by decide +kernel
theorem dL_act_164 : decode cL_act 164 = .ok (.aload_n 0, 1) := by decide +kernel
theorem dL_act_165 : decode cL_act 165 = .ok (.bipush 12, 2) := by decide +kernel
theorem dL_act_167 : decode cL_act 167 = .ok (.iconst 0, 1) := by decide +kernel
theorem dL_act_168 : decode cL_act 168 = .ok (.iconst 0, 1) := by decide +kernel
theorem dL_act_169 : decode cL_act 169 = .ok (.iconst 0, 1) := by decide +kernel
theorem dL_act_170 : decode cL_act 170 = .ok (.invokestatic 162, 3) := by decide +kernel
theorem dL_act_173 : decode cL_act 173 = .ok (.ireturn, 1) := by decide +kernel
theorem dL_act_174 : decode cL_act 174 = .ok (.aload_n 0, 1) := by decide +kernel
theorem dL_act_175 : decode cL_act 175 = .ok (.bipush 19, 2) := by decide +kernel
theorem dL_act_177 : decode cL_act 177 = .ok (.iload_n 1, 1) := by decide +kernel
theorem dL_act_178 : decode cL_act 178 = .ok (.bipush 16, 2) := by decide +kernel
theorem dL_act_180 : decode cL_act 180 = .ok (.idiv, 1) := by decide +kernel
theorem dL_act_181 : decode cL_act 181 = .ok (.iconst 2, 1) := by decide +kernel
theorem dL_act_182 : decode cL_act 182 = .ok (.irem, 1) := by decide +kernel
theorem dL_act_183 : decode cL_act 183 = .ok (.iconst 0, 1) := by decide +kernel
theorem dL_act_184 : decode cL_act 184 = .ok (.iconst 0, 1) := by decide +kernel
theorem dL_act_185 : decode cL_act 185 = .ok (.invokestatic 162, 3) := by decide +kernel
theorem dL_act_188 : decode cL_act 188 = .ok (.ireturn, 1) := by decide +kernel
theorem dL_act_189 : decode cL_act 189 = .ok (.aload_n 0, 1) := by decide +kernel
theorem dL_act_190 : decode cL_act 190 = .ok (.bipush 20, 2) := by decide +kernel
theorem dL_act_192 : decode cL_act 192 = .ok (.iload_n 1, 1) := by decide +kernel
theorem dL_act_193 : decode cL_act 193 = .ok (.bipush 16, 2) := by decide +kernel
theorem dL_act_195 : decode cL_act 195 = .ok (.idiv, 1) := by decide +kernel
theorem dL_act_196 : decode cL_act 196 = .ok (.iconst 2, 1) := by decide +kernel
theorem dL_act_197 : decode cL_act 197 = .ok (.irem, 1) := by decide +kernel
theorem dL_act_198 : decode cL_act 198 = .ok (.iconst 0, 1) := by decide +kernel
theorem dL_act_199 : decode cL_act 199 = .ok (.iconst 0, 1) := by decide +kernel
theorem dL_act_200 : decode cL_act 200 = .ok (.invokestatic 162, 3) := by decide +kernel
theorem dL_act_203 : decode cL_act 203 = .ok (.ireturn, 1) := by decide +kernel
theorem dL_act_204 : decode cL_act 204 = .ok (.aload_n 0, 1) := by decide +kernel
theorem dL_act_205 : decode cL_act 205 = .ok (.bipush 8, 2) := by decide +kernel
theorem dL_act_207 : decode cL_act 207 = .ok (.iload_n 3, 1) := by decide +kernel
theorem dL_act_208 : decode cL_act 208 = .ok (.iload 4, 2) := by decide +kernel
theorem dL_act_210 : decode cL_act 210 = .ok (.iconst 0, 1) := by decide +kernel
theorem dL_act_211 : decode cL_act 211 = .ok (.invokestatic 162, 3) := by decide +kernel
theorem dL_act_214 : decode cL_act 214 = .ok (.ireturn, 1) := by decide +kernel
theorem dL_alike_0 : decode cL_alike 0 = .ok (.aload_n 0, 1) := by decide +kernel
theorem dL_alike_1 : decode cL_alike 1 = .ok (.iconst 2, 1) := by decide +kernel
theorem dL_alike_2 : decode cL_alike 2 = .ok (.iconst 0, 1) := by decide +kernel
theorem dL_alike_3 : decode cL_alike 3 = .ok (.iconst 0, 1) := by decide +kernel
theorem dL_alike_4 : decode cL_alike 4 = .ok (.iconst 0, 1) := by decide +kernel
theorem dL_alike_5 : decode cL_alike 5 = .ok (.invokestatic 162, 3) := by decide +kernel
theorem dL_alike_8 : decode cL_alike 8 = .ok (.istore_n 3, 1) := by decide +kernel
theorem dL_alike_9 : decode cL_alike 9 = .ok (.aload_n 1, 1) := by decide +kernel
theorem dL_alike_10 : decode cL_alike 10 = .ok (.iconst 2, 1) := by decide +kernel
theorem dL_alike_11 : decode cL_alike 11 = .ok (.iconst 0, 1) := by decide +kernel
theorem dL_alike_12 : decode cL_alike 12 = .ok (.iconst 0, 1) := by decide +kernel
theorem dL_alike_13 : decode cL_alike 13 = .ok (.iconst 0, 1) := by decide +kernel
theorem dL_alike_14 : decode cL_alike 14 = .ok (.invokestatic 162, 3) := by decide +kernel
theorem dL_alike_17 : decode cL_alike 17 = .ok (.iload_n 3, 1) := by decide +kernel
theorem dL_alike_18 : decode cL_alike 18 = .ok (.if_icmp .ne 45, 3) := by decide +kernel
theorem dL_alike_21 : decode cL_alike 21 = .ok (.aload_n 0, 1) := by decide +kernel
theorem dL_alike_22 : decode cL_alike 22 = .ok (.invokevirtual 176, 3) := by decide +kernel
theorem dL_alike_25 : decode cL_alike 25 = .ok (.aload_n 1, 1) := by decide +kernel
theorem dL_alike_26 : decode cL_alike 26 = .ok (.invokevirtual 176, 3) := by decide +kernel
theorem dL_alike_29 : decode cL_alike 29 = .ok (.if_icmp .ne 34, 3) := by decide +kernel
theorem dL_alike_32 : decode cL_alike 32 = .ok (.aload_n 0, 1) := by decide +kernel
theorem dL_alike_33 : decode cL_alike 33 = .ok (.iload_n 2, 1) := by decide +kernel
theorem dL_alike_34 : decode cL_alike 34 = .ok (.i2l, 1) := by decide +kernel
theorem dL_alike_35 : decode cL_alike 35 = .ok (.iconst 1, 1) := by decide +kernel
theorem dL_alike_36 : decode cL_alike 36 = .ok (.iload_n 2, 1) := by decide +kernel
theorem dL_alike_37 : decode cL_alike 37 = .ok (.bipush 20, 2) := by decide +kernel
theorem dL_alike_39 : decode cL_alike 39 = .ok (.irem, 1) := by decide +kernel
theorem dL_alike_40 : decode cL_alike 40 = .ok (.iadd, 1) := by decide +kernel
theorem dL_alike_41 : decode cL_alike 41 = .ok (.invokestatic 172, 3) := by decide +kernel
theorem dL_alike_44 : decode cL_alike 44 = .ok (.aload_n 1, 1) := by decide +kernel
theorem dL_alike_45 : decode cL_alike 45 = .ok (.iload_n 2, 1) := by decide +kernel
theorem dL_alike_46 : decode cL_alike 46 = .ok (.i2l, 1) := by decide +kernel
theorem dL_alike_47 : decode cL_alike 47 = .ok (.iconst 1, 1) := by decide +kernel
theorem dL_alike_48 : decode cL_alike 48 = .ok (.iload_n 2, 1) := by decide +kernel
theorem dL_alike_49 : decode cL_alike 49 = .ok (.bipush 20, 2) := by decide +kernel
theorem dL_alike_51 : decode cL_alike 51 = .ok (.irem, 1) := by decide +kernel
theorem dL_alike_52 : decode cL_alike 52 = .ok (.iadd, 1) := by decide +kernel
theorem dL_alike_53 : decode cL_alike 53 = .ok (.invokestatic 172, 3) := by decide +kernel
theorem dL_alike_56 : decode cL_alike 56 = .ok (.if_icmp .ne 7, 3) := by decide +kernel
theorem dL_alike_59 : decode cL_alike 59 = .ok (.iconst 1, 1) := by decide +kernel
theorem dL_alike_60 : decode cL_alike 60 = .ok (.goto 4, 3) := by decide +kernel
theorem dL_alike_63 : decode cL_alike 63 = .ok (.iconst 0, 1) := by decide +kernel
theorem dL_alike_64 : decode cL_alike 64 = .ok (.istore 4, 2) := by decide +kernel
theorem dL_alike_66 : decode cL_alike 66 = .ok (.iconst 1, 1) := by decide +kernel
theorem dL_alike_67 : decode cL_alike 67 = .ok (.istore 5, 2) := by decide +kernel
theorem dL_alike_69 : decode cL_alike 69 = .ok (.iload 5, 2) := by decide +kernel
theorem dL_alike_71 : decode cL_alike 71 = .ok (.bipush 9, 2) := by decide +kernel
theorem dL_alike_73 : decode cL_alike 73 = .ok (.if_icmp .ge 42, 3) := by decide +kernel
theorem dL_alike_76 : decode cL_alike 76 = .ok (.iload 4, 2) := by decide +kernel
theorem dL_alike_78 : decode cL_alike 78 = .ok (.ifCond .eq 37, 3) := by decide +kernel
theorem dL_alike_81 : decode cL_alike 81 = .ok (.aload_n 0, 1) := by decide +kernel
theorem dL_alike_82 : decode cL_alike 82 = .ok (.iconst 2, 1) := by decide +kernel
theorem dL_alike_83 : decode cL_alike 83 = .ok (.iload 5, 2) := by decide +kernel
theorem dL_alike_85 : decode cL_alike 85 = .ok (.iconst 0, 1) := by decide +kernel
theorem dL_alike_86 : decode cL_alike 86 = .ok (.iconst 0, 1) := by decide +kernel
theorem dL_alike_87 : decode cL_alike 87 = .ok (.invokestatic 162, 3) := by decide +kernel
theorem dL_alike_90 : decode cL_alike 90 = .ok (.aload_n 1, 1) := by decide +kernel
theorem dL_alike_91 : decode cL_alike 91 = .ok (.iconst 2, 1) := by decide +kernel
theorem dL_alike_92 : decode cL_alike 92 = .ok (.iload 5, 2) := by decide +kernel
theorem dL_alike_94 : decode cL_alike 94 = .ok (.iconst 0, 1) := by decide +kernel
theorem dL_alike_95 : decode cL_alike 95 = .ok (.iconst 0, 1) := by decide +kernel
theorem dL_alike_96 : decode cL_alike 96 = .ok (.invokestatic 162, 3) := by decide +kernel
theorem dL_alike_99 : decode cL_alike 99 = .ok (.if_icmp .ne 7, 3) := by decide +kernel
theorem dL_alike_102 : decode cL_alike 102 = .ok (.iconst 1, 1) := by decide +kernel
theorem dL_alike_103 : decode cL_alike 103 = .ok (.goto 4, 3) := by decide +kernel
theorem dL_alike_106 : decode cL_alike 106 = .ok (.iconst 0, 1) := by decide +kernel
theorem dL_alike_107 : decode cL_alike 107 = .ok (.istore 4, 2) := by decide +kernel
theorem dL_alike_109 : decode cL_alike 109 = .ok (.iinc 5 1, 3) := by decide +kernel
theorem dL_alike_112 : decode cL_alike 112 = .ok (.goto (-43), 3) := by decide +kernel
theorem dL_alike_115 : decode cL_alike 115 = .ok (.iconst 0, 1) := by decide +kernel
theorem dL_alike_116 : decode cL_alike 116 = .ok (.istore 5, 2) := by decide +kernel
theorem dL_alike_118 : decode cL_alike 118 = .ok (.iload 5, 2) := by decide +kernel
theorem dL_alike_120 : decode cL_alike 120 = .ok (.iload_n 3, 1) := by decide +kernel
theorem dL_alike_121 : decode cL_alike 121 = .ok (.if_icmp .ge 156, 3) := by decide +kernel
theorem dL_alike_124 : decode cL_alike 124 = .ok (.iload 4, 2) := by decide +kernel
theorem dL_alike_126 : decode cL_alike 126 = .ok (.ifCond .eq 151, 3) := by decide +kernel
theorem dL_alike_129 : decode cL_alike 129 = .ok (.iconst 0, 1) := by decide +kernel
theorem dL_alike_130 : decode cL_alike 130 = .ok (.istore 6, 2) := by decide +kernel
theorem dL_alike_132 : decode cL_alike 132 = .ok (.iload 6, 2) := by decide +kernel
theorem dL_alike_134 : decode cL_alike 134 = .ok (.bipush 11, 2) := by decide +kernel
theorem dL_alike_136 : decode cL_alike 136 = .ok (.if_icmp .ge 44, 3) := by decide +kernel
theorem dL_alike_139 : decode cL_alike 139 = .ok (.iload 4, 2) := by decide +kernel
theorem dL_alike_141 : decode cL_alike 141 = .ok (.ifCond .eq 39, 3) := by decide +kernel
theorem dL_alike_144 : decode cL_alike 144 = .ok (.aload_n 0, 1) := by decide +kernel
theorem dL_alike_145 : decode cL_alike 145 = .ok (.iconst 3, 1) := by decide +kernel
theorem dL_alike_146 : decode cL_alike 146 = .ok (.iload 5, 2) := by decide +kernel
theorem dL_alike_148 : decode cL_alike 148 = .ok (.iload 6, 2) := by decide +kernel
theorem dL_alike_150 : decode cL_alike 150 = .ok (.iconst 0, 1) := by decide +kernel
theorem dL_alike_151 : decode cL_alike 151 = .ok (.invokestatic 162, 3) := by decide +kernel
theorem dL_alike_154 : decode cL_alike 154 = .ok (.aload_n 1, 1) := by decide +kernel
theorem dL_alike_155 : decode cL_alike 155 = .ok (.iconst 3, 1) := by decide +kernel
theorem dL_alike_156 : decode cL_alike 156 = .ok (.iload 5, 2) := by decide +kernel
theorem dL_alike_158 : decode cL_alike 158 = .ok (.iload 6, 2) := by decide +kernel
theorem dL_alike_160 : decode cL_alike 160 = .ok (.iconst 0, 1) := by decide +kernel
theorem dL_alike_161 : decode cL_alike 161 = .ok (.invokestatic 162, 3) := by decide +kernel
theorem dL_alike_164 : decode cL_alike 164 = .ok (.if_icmp .ne 7, 3) := by decide +kernel
theorem dL_alike_167 : decode cL_alike 167 = .ok (.iconst 1, 1) := by decide +kernel
theorem dL_alike_168 : decode cL_alike 168 = .ok (.goto 4, 3) := by decide +kernel
theorem dL_alike_171 : decode cL_alike 171 = .ok (.iconst 0, 1) := by decide +kernel
theorem dL_alike_172 : decode cL_alike 172 = .ok (.istore 4, 2) := by decide +kernel
theorem dL_alike_174 : decode cL_alike 174 = .ok (.iinc 6 1, 3) := by decide +kernel
theorem dL_alike_177 : decode cL_alike 177 = .ok (.goto (-45), 3) := by decide +kernel
theorem dL_alike_180 : decode cL_alike 180 = .ok (.iload 4, 2) := by decide +kernel
theorem dL_alike_182 : decode cL_alike 182 = .ok (.ifCond .eq 86, 3) := by decide +kernel
theorem dL_alike_185 : decode cL_alike 185 = .ok (.aload_n 0, 1) := by decide +kernel
theorem dL_alike_186 : decode cL_alike 186 = .ok (.iconst 5, 1) := by decide +kernel
theorem dL_alike_187 : decode cL_alike 187 = .ok (.iload 5, 2) := by decide +kernel
theorem dL_alike_189 : decode cL_alike 189 = .ok (.iload_n 2, 1) := by decide +kernel
theorem dL_alike_190 : decode cL_alike 190 = .ok (.bipush 40, 2) := by decide +kernel
theorem dL_alike_192 : decode cL_alike 192 = .ok (.irem, 1) := by decide +kernel
theorem dL_alike_193 : decode cL_alike 193 = .ok (.iconst 0, 1) := by decide +kernel
theorem dL_alike_194 : decode cL_alike 194 = .ok (.invokestatic 162, 3) := by decide +kernel
theorem dL_alike_197 : decode cL_alike 197 = .ok (.aload_n 1, 1) := by decide +kernel
theorem dL_alike_198 : decode cL_alike 198 = .ok (.iconst 5, 1) := by decide +kernel
theorem dL_alike_199 : decode cL_alike 199 = .ok (.iload 5, 2) := by decide +kernel
theorem dL_alike_201 : decode cL_alike 201 = .ok (.iload_n 2, 1) := by decide +kernel
theorem dL_alike_202 : decode cL_alike 202 = .ok (.bipush 40, 2) := by decide +kernel
theorem dL_alike_204 : decode cL_alike 204 = .ok (.irem, 1) := by decide +kernel
theorem dL_alike_205 : decode cL_alike 205 = .ok (.iconst 0, 1) := by decide +kernel
theorem dL_alike_206 : decode cL_alike 206 = .ok (.invokestatic 162, 3) := by decide +kernel
theorem dL_alike_209 : decode cL_alike 209 = .ok (.if_icmp .ne 59, 3) := by decide +kernel
theorem dL_alike_212 : decode cL_alike 212 = .ok (.aload_n 0, 1) := by decide +kernel
theorem dL_alike_213 : decode cL_alike 213 = .ok (.bipush 6, 2) := by decide +kernel
theorem dL_alike_215 : decode cL_alike 215 = .ok (.iload 5, 2) := by decide +kernel
theorem dL_alike_217 : decode cL_alike 217 = .ok (.iload_n 2, 1) := by decide +kernel
theorem dL_alike_218 : decode cL_alike 218 = .ok (.bipush 40, 2) := by decide +kernel
theorem dL_alike_220 : decode cL_alike 220 = .ok (.irem, 1) := by decide +kernel
theorem dL_alike_221 : decode cL_alike 221 = .ok (.iconst 0, 1) := by decide +kernel
theorem dL_alike_222 : decode cL_alike 222 = .ok (.invokestatic 162, 3) := by decide +kernel
theorem dL_alike_225 : decode cL_alike 225 = .ok (.aload_n 1, 1) := by decide +kernel
theorem dL_alike_226 : decode cL_alike 226 = .ok (.bipush 6, 2) := by decide +kernel
theorem dL_alike_228 : decode cL_alike 228 = .ok (.iload 5, 2) := by decide +kernel
theorem dL_alike_230 : decode cL_alike 230 = .ok (.iload_n 2, 1) := by decide +kernel
theorem dL_alike_231 : decode cL_alike 231 = .ok (.bipush 40, 2) := by decide +kernel
theorem dL_alike_233 : decode cL_alike 233 = .ok (.irem, 1) := by decide +kernel
theorem dL_alike_234 : decode cL_alike 234 = .ok (.iconst 0, 1) := by decide +kernel
theorem dL_alike_235 : decode cL_alike 235 = .ok (.invokestatic 162, 3) := by decide +kernel
theorem dL_alike_238 : decode cL_alike 238 = .ok (.if_icmp .ne 30, 3) := by decide +kernel
theorem dL_alike_241 : decode cL_alike 241 = .ok (.aload_n 0, 1) := by decide +kernel
theorem dL_alike_242 : decode cL_alike 242 = .ok (.bipush 14, 2) := by decide +kernel
theorem dL_alike_244 : decode cL_alike 244 = .ok (.iload 5, 2) := by decide +kernel
theorem dL_alike_246 : decode cL_alike 246 = .ok (.iconst 0, 1) := by decide +kernel
theorem dL_alike_247 : decode cL_alike 247 = .ok (.iconst 0, 1) := by decide +kernel
theorem dL_alike_248 : decode cL_alike 248 = .ok (.invokestatic 162, 3) := by decide +kernel
theorem dL_alike_251 : decode cL_alike 251 = .ok (.aload_n 1, 1) := by decide +kernel
theorem dL_alike_252 : decode cL_alike 252 = .ok (.bipush 14, 2) := by decide +kernel
theorem dL_alike_254 : decode cL_alike 254 = .ok (.iload 5, 2) := by decide +kernel
theorem dL_alike_256 : decode cL_alike 256 = .ok (.iconst 0, 1) := by decide +kernel
theorem dL_alike_257 : decode cL_alike 257 = .ok (.iconst 0, 1) := by decide +kernel
theorem dL_alike_258 : decode cL_alike 258 = .ok (.invokestatic 162, 3) := by decide +kernel
theorem dL_alike_261 : decode cL_alike 261 = .ok (.if_icmp .ne 7, 3) := by decide +kernel
theorem dL_alike_264 : decode cL_alike 264 = .ok (.iconst 1, 1) := by decide +kernel
theorem dL_alike_265 : decode cL_alike 265 = .ok (.goto 4, 3) := by decide +kernel
theorem dL_alike_268 : decode cL_alike 268 = .ok (.iconst 0, 1) := by decide +kernel
theorem dL_alike_269 : decode cL_alike 269 = .ok (.istore 4, 2) := by decide +kernel
theorem dL_alike_271 : decode cL_alike 271 = .ok (.iinc 5 1, 3) := by decide +kernel
theorem dL_alike_274 : decode cL_alike 274 = .ok (.goto (-156), 3) := by decide +kernel
theorem dL_alike_277 : decode cL_alike 277 = .ok (.iload 4, 2) := by decide +kernel
theorem dL_alike_279 : decode cL_alike 279 = .ok (.ireturn, 1) := by decide +kernel
theorem dL_law_0 : decode cL_law 0 = .ok (.new 8, 3) := by decide +kernel
theorem dL_law_3 : decode cL_law 3 = .ok (.dup, 1) := by decide +kernel
theorem dL_law_4 : decode cL_law 4 = .ok (.invokespecial 183, 3) := by decide +kernel
theorem dL_law_7 : decode cL_law 7 = .ok (.astore_n 1, 1) := by decide +kernel
theorem dL_law_8 : decode cL_law 8 = .ok (.new 8, 3) := by decide +kernel
theorem dL_law_11 : decode cL_law 11 = .ok (.dup, 1) := by decide +kernel
theorem dL_law_12 : decode cL_law 12 = .ok (.invokespecial 183, 3) := by decide +kernel
theorem dL_law_15 : decode cL_law 15 = .ok (.astore_n 2, 1) := by decide +kernel
theorem dL_law_16 : decode cL_law 16 = .ok (.aload_n 0, 1) := by decide +kernel
theorem dL_law_17 : decode cL_law 17 = .ok (.iconst 0, 1) := by decide +kernel
theorem dL_law_18 : decode cL_law 18 = .ok (.invokestatic 184, 3) := by decide +kernel
theorem dL_law_21 : decode cL_law 21 = .ok (.istore_n 3, 1) := by decide +kernel
theorem dL_law_22 : decode cL_law 22 = .ok (.aload_n 1, 1) := by decide +kernel
theorem dL_law_23 : decode cL_law 23 = .ok (.bipush 7, 2) := by decide +kernel
theorem dL_law_25 : decode cL_law 25 = .ok (.iload_n 3, 1) := by decide +kernel
theorem dL_law_26 : decode cL_law 26 = .ok (.bipush 30, 2) := by decide +kernel
theorem dL_law_28 : decode cL_law 28 = .ok (.irem, 1) := by decide +kernel
theorem dL_law_29 : decode cL_law 29 = .ok (.bipush 60, 2) := by decide +kernel
theorem dL_law_31 : decode cL_law 31 = .ok (.iconst 0, 1) := by decide +kernel
theorem dL_law_32 : decode cL_law 32 = .ok (.invokestatic 162, 3) := by decide +kernel
theorem dL_law_35 : decode cL_law 35 = .ok (.ifCond .ne 63, 3) := by decide +kernel
theorem dL_law_38 : decode cL_law 38 = .ok (.aload_n 2, 1) := by decide +kernel
theorem dL_law_39 : decode cL_law 39 = .ok (.bipush 7, 2) := by decide +kernel
theorem dL_law_41 : decode cL_law 41 = .ok (.iload_n 3, 1) := by decide +kernel
theorem dL_law_42 : decode cL_law 42 = .ok (.bipush 30, 2) := by decide +kernel
theorem dL_law_44 : decode cL_law 44 = .ok (.irem, 1) := by decide +kernel
theorem dL_law_45 : decode cL_law 45 = .ok (.bipush 60, 2) := by decide +kernel
theorem dL_law_47 : decode cL_law 47 = .ok (.iconst 0, 1) := by decide +kernel
theorem dL_law_48 : decode cL_law 48 = .ok (.invokestatic 162, 3) := by decide +kernel
theorem dL_law_51 : decode cL_law 51 = .ok (.ifCond .ne 47, 3) := by decide +kernel
theorem dL_law_54 : decode cL_law 54 = .ok (.aload_n 1, 1) := by decide +kernel
theorem dL_law_55 : decode cL_law 55 = .ok (.bipush 7, 2) := by decide +kernel
theorem dL_law_57 : decode cL_law 57 = .ok (.iload_n 3, 1) := by decide +kernel
theorem dL_law_58 : decode cL_law 58 = .ok (.bipush 64, 2) := by decide +kernel
theorem dL_law_60 : decode cL_law 60 = .ok (.idiv, 1) := by decide +kernel
theorem dL_law_61 : decode cL_law 61 = .ok (.bipush 31, 2) := by decide +kernel
theorem dL_law_63 : decode cL_law 63 = .ok (.irem, 1) := by decide +kernel
theorem dL_law_64 : decode cL_law 64 = .ok (.bipush 31, 2) := by decide +kernel
theorem dL_law_66 : decode cL_law 66 = .ok (.iconst 0, 1) := by decide +kernel
theorem dL_law_67 : decode cL_law 67 = .ok (.invokestatic 162, 3) := by decide +kernel
theorem dL_law_70 : decode cL_law 70 = .ok (.iconst 1, 1) := by decide +kernel
theorem dL_law_71 : decode cL_law 71 = .ok (.if_icmp .ne 27, 3) := by decide +kernel
theorem dL_law_74 : decode cL_law 74 = .ok (.aload_n 2, 1) := by decide +kernel
theorem dL_law_75 : decode cL_law 75 = .ok (.bipush 7, 2) := by decide +kernel
theorem dL_law_77 : decode cL_law 77 = .ok (.iload_n 3, 1) := by decide +kernel
theorem dL_law_78 : decode cL_law 78 = .ok (.bipush 64, 2) := by decide +kernel
theorem dL_law_80 : decode cL_law 80 = .ok (.idiv, 1) := by decide +kernel
theorem dL_law_81 : decode cL_law 81 = .ok (.bipush 31, 2) := by decide +kernel
theorem dL_law_83 : decode cL_law 83 = .ok (.irem, 1) := by decide +kernel
theorem dL_law_84 : decode cL_law 84 = .ok (.bipush 31, 2) := by decide +kernel
theorem dL_law_86 : decode cL_law 86 = .ok (.iconst 0, 1) := by decide +kernel
theorem dL_law_87 : decode cL_law 87 = .ok (.invokestatic 162, 3) := by decide +kernel
theorem dL_law_90 : decode cL_law 90 = .ok (.iconst 1, 1) := by decide +kernel
theorem dL_law_91 : decode cL_law 91 = .ok (.if_icmp .ne 7, 3) := by decide +kernel
theorem dL_law_94 : decode cL_law 94 = .ok (.iconst 1, 1) := by decide +kernel
theorem dL_law_95 : decode cL_law 95 = .ok (.goto 4, 3) := by decide +kernel
theorem dL_law_98 : decode cL_law 98 = .ok (.iconst 0, 1) := by decide +kernel
theorem dL_law_99 : decode cL_law 99 = .ok (.istore 4, 2) := by decide +kernel
theorem dL_law_101 : decode cL_law 101 = .ok (.bipush 8, 2) := by decide +kernel
theorem dL_law_103 : decode cL_law 103 = .ok (.aload_n 0, 1) := by decide +kernel
theorem dL_law_104 : decode cL_law 104 = .ok (.iconst 1, 1) := by decide +kernel
theorem dL_law_105 : decode cL_law 105 = .ok (.invokestatic 184, 3) := by decide +kernel
theorem dL_law_108 : decode cL_law 108 = .ok (.bipush 19, 2) := by decide +kernel
theorem dL_law_110 : decode cL_law 110 = .ok (.irem, 1) := by decide +kernel
theorem dL_law_111 : decode cL_law 111 = .ok (.iadd, 1) := by decide +kernel
theorem dL_law_112 : decode cL_law 112 = .ok (.istore 5, 2) := by decide +kernel
theorem dL_law_114 : decode cL_law 114 = .ok (.iconst 0, 1) := by decide +kernel
theorem dL_law_115 : decode cL_law 115 = .ok (.istore 6, 2) := by decide +kernel
theorem dL_law_117 : decode cL_law 117 = .ok (.iload 6, 2) := by decide +kernel
theorem dL_law_119 : decode cL_law 119 = .ok (.iload 5, 2) := by decide +kernel
theorem dL_law_121 : decode cL_law 121 = .ok (.if_icmp .ge 401, 3) := by decide +kernel
theorem dL_law_124 : decode cL_law 124 = .ok (.iload 4, 2) := by decide +kernel
theorem dL_law_126 : decode cL_law 126 = .ok (.ifCond .eq 396, 3) := by decide +kernel
theorem dL_law_129 : decode cL_law 129 = .ok (.aload_n 0, 1) := by decide +kernel
theorem dL_law_130 : decode cL_law 130 = .ok (.iconst 2, 1) := by decide +kernel
theorem dL_law_131 : decode cL_law 131 = .ok (.iload 6, 2) := by decide +kernel
theorem dL_law_133 : decode cL_law 133 = .ok (.iadd, 1) := by decide +kernel
theorem dL_law_134 : decode cL_law 134 = .ok (.invokestatic 184, 3) := by decide +kernel
theorem dL_law_137 : decode cL_law 137 = .ok (.istore 7, 2) := by decide +kernel
theorem dL_law_139 : decode cL_law 139 = .ok (.aload_n 1, 1) := by decide +kernel
theorem dL_law_140 : decode cL_law 140 = .ok (.iload 7, 2) := by decide +kernel
theorem dL_law_142 : decode cL_law 142 = .ok (.invokestatic 188, 3) := by decide +kernel
theorem dL_law_145 : decode cL_law 145 = .ok (.istore 8, 2) := by decide +kernel
theorem dL_law_147 : decode cL_law 147 = .ok (.aload_n 2, 1) := by decide +kernel
theorem dL_law_148 : decode cL_law 148 = .ok (.iload 7, 2) := by decide +kernel
theorem dL_law_150 : decode cL_law 150 = .ok (.ldc 191, 2) := by decide +kernel
theorem dL_law_152 : decode cL_law 152 = .ok (.irem, 1) := by decide +kernel
theorem dL_law_153 : decode cL_law 153 = .ok (.invokestatic 192, 3) := by decide +kernel
theorem dL_law_156 : decode cL_law 156 = .ok (.ifCond .eq 67, 3) := by decide +kernel
theorem dL_law_159 : decode cL_law 159 = .ok (.aload_n 2, 1) := by decide +kernel
theorem dL_law_160 : decode cL_law 160 = .ok (.iload 7, 2) := by decide +kernel
theorem dL_law_162 : decode cL_law 162 = .ok (.invokestatic 188, 3) := by decide +kernel
theorem dL_law_165 : decode cL_law 165 = .ok (.iload 8, 2) := by decide +kernel
theorem dL_law_167 : decode cL_law 167 = .ok (.if_icmp .ne 56, 3) := by decide +kernel
theorem dL_law_170 : decode cL_law 170 = .ok (.aload_n 2, 1) := by decide +kernel
theorem dL_law_171 : decode cL_law 171 = .ok (.iload 7, 2) := by decide +kernel
theorem dL_law_173 : decode cL_law 173 = .ok (.sipush 1000, 3) := by decide +kernel
theorem dL_law_176 : decode cL_law 176 = .ok (.irem, 1) := by decide +kernel
theorem dL_law_177 : decode cL_law 177 = .ok (.invokestatic 192, 3) := by decide +kernel
theorem dL_law_180 : decode cL_law 180 = .ok (.ifCond .eq 43, 3) := by decide +kernel
theorem dL_law_183 : decode cL_law 183 = .ok (.aload_n 1, 1) := by decide +kernel
theorem dL_law_184 : decode cL_law 184 = .ok (.aload_n 2, 1) := by decide +kernel
theorem dL_law_185 : decode cL_law 185 = .ok (.iload 7, 2) := by decide +kernel
theorem dL_law_187 : decode cL_law 187 = .ok (.sipush 5000, 3) := by decide +kernel
theorem dL_law_190 : decode cL_law 190 = .ok (.irem, 1) := by decide +kernel
theorem dL_law_191 : decode cL_law 191 = .ok (.invokestatic 195, 3) := by decide +kernel
theorem dL_law_194 : decode cL_law 194 = .ok (.ifCond .eq 29, 3) := by decide +kernel
theorem dL_law_197 : decode cL_law 197 = .ok (.aload_n 1, 1) := by decide +kernel
theorem dL_law_198 : decode cL_law 198 = .ok (.iload 7, 2) := by decide +kernel
theorem dL_law_200 : decode cL_law 200 = .ok (.iconst 3, 1) := by decide +kernel
theorem dL_law_201 : decode cL_law 201 = .ok (.idiv, 1) := by decide +kernel
theorem dL_law_202 : decode cL_law 202 = .ok (.invokestatic 199, 3) := by decide +kernel
theorem dL_law_205 : decode cL_law 205 = .ok (.ifCond .eq 18, 3) := by decide +kernel
theorem dL_law_208 : decode cL_law 208 = .ok (.aload_n 2, 1) := by decide +kernel
theorem dL_law_209 : decode cL_law 209 = .ok (.iload 7, 2) := by decide +kernel
theorem dL_law_211 : decode cL_law 211 = .ok (.iconst 5, 1) := by decide +kernel
theorem dL_law_212 : decode cL_law 212 = .ok (.idiv, 1) := by decide +kernel
theorem dL_law_213 : decode cL_law 213 = .ok (.invokestatic 199, 3) := by decide +kernel
theorem dL_law_216 : decode cL_law 216 = .ok (.ifCond .eq 7, 3) := by decide +kernel
theorem dL_law_219 : decode cL_law 219 = .ok (.iconst 1, 1) := by decide +kernel
theorem dL_law_220 : decode cL_law 220 = .ok (.goto 4, 3) := by decide +kernel
theorem dL_law_223 : decode cL_law 223 = .ok (.iconst 0, 1) := by decide +kernel
theorem dL_law_224 : decode cL_law 224 = .ok (.istore 4, 2) := by decide +kernel
theorem dL_law_226 : decode cL_law 226 = .ok (.iload 7, 2) := by decide +kernel
theorem dL_law_228 : decode cL_law 228 = .ok (.bipush 11, 2) := by decide +kernel
theorem dL_law_230 : decode cL_law 230 = .ok (.idiv, 1) := by decide +kernel
theorem dL_law_231 : decode cL_law 231 = .ok (.iconst 3, 1) := by decide +kernel
theorem dL_law_232 : decode cL_law 232 = .ok (.irem, 1) := by decide +kernel
theorem dL_law_233 : decode cL_law 233 = .ok (.ifCond .ne 8, 3) := by decide +kernel
theorem dL_law_236 : decode cL_law 236 = .ok (.bipush 40, 2) := by decide +kernel
theorem dL_law_238 : decode cL_law 238 = .ok (.goto 4, 3) := by decide +kernel
theorem dL_law_241 : decode cL_law 241 = .ok (.iconst 0, 1) := by decide +kernel
theorem dL_law_242 : decode cL_law 242 = .ok (.istore 9, 2) := by decide +kernel
theorem dL_law_244 : decode cL_law 244 = .ok (.aload_n 1, 1) := by decide +kernel
theorem dL_law_245 : decode cL_law 245 = .ok (.iconst 2, 1) := by decide +kernel
theorem dL_law_246 : decode cL_law 246 = .ok (.iconst 0, 1) := by decide +kernel
theorem dL_law_247 : decode cL_law 247 = .ok (.iconst 0, 1) := by decide +kernel
theorem dL_law_248 : decode cL_law 248 = .ok (.iconst 0, 1) := by decide +kernel
theorem dL_law_249 : decode cL_law 249 = .ok (.invokestatic 162, 3) := by decide +kernel
theorem dL_law_252 : decode cL_law 252 = .ok (.istore 10, 2) := by decide +kernel
theorem dL_law_254 : decode cL_law 254 = .ok (.iconst 0, 1) := by decide +kernel
theorem dL_law_255 : decode cL_law 255 = .ok (.istore 11, 2) := by decide +kernel
theorem dL_law_257 : decode cL_law 257 = .ok (.iload 11, 2) := by decide +kernel
theorem dL_law_259 : decode cL_law 259 = .ok (.iload 9, 2) := by decide +kernel
theorem dL_law_261 : decode cL_law 261 = .ok (.if_icmp .ge 58, 3) := by decide +kernel
theorem dL_law_264 : decode cL_law 264 = .ok (.iload 4, 2) := by decide +kernel
theorem dL_law_266 : decode cL_law 266 = .ok (.ifCond .eq 53, 3) := by decide +kernel
theorem dL_law_269 : decode cL_law 269 = .ok (.aload_n 1, 1) := by decide +kernel
theorem dL_law_270 : decode cL_law 270 = .ok (.bipush 8, 2) := by decide +kernel
theorem dL_law_272 : decode cL_law 272 = .ok (.iload 7, 2) := by decide +kernel
theorem dL_law_274 : decode cL_law 274 = .ok (.bipush 33, 2) := by decide +kernel
theorem dL_law_276 : decode cL_law 276 = .ok (.idiv, 1) := by decide +kernel
theorem dL_law_277 : decode cL_law 277 = .ok (.iload 10, 2) := by decide +kernel
theorem dL_law_279 : decode cL_law 279 = .ok (.irem, 1) := by decide +kernel
theorem dL_law_280 : decode cL_law 280 = .ok (.iload 11, 2) := by decide +kernel
theorem dL_law_282 : decode cL_law 282 = .ok (.iconst 0, 1) := by decide +kernel
theorem dL_law_283 : decode cL_law 283 = .ok (.invokestatic 162, 3) := by decide +kernel
theorem dL_law_286 : decode cL_law 286 = .ok (.aload_n 2, 1) := by decide +kernel
theorem dL_law_287 : decode cL_law 287 = .ok (.bipush 8, 2) := by decide +kernel
theorem dL_law_289 : decode cL_law 289 = .ok (.iload 7, 2) := by decide +kernel
theorem dL_law_291 : decode cL_law 291 = .ok (.bipush 33, 2) := by decide +kernel
theorem dL_law_293 : decode cL_law 293 = .ok (.idiv, 1) := by decide +kernel
theorem dL_law_294 : decode cL_law 294 = .ok (.iload 10, 2) := by decide +kernel
theorem dL_law_296 : decode cL_law 296 = .ok (.irem, 1) := by decide +kernel
theorem dL_law_297 : decode cL_law 297 = .ok (.iload 11, 2) := by decide +kernel
theorem dL_law_299 : decode cL_law 299 = .ok (.iconst 0, 1) := by decide +kernel
theorem dL_law_300 : decode cL_law 300 = .ok (.invokestatic 162, 3) := by decide +kernel
theorem dL_law_303 : decode cL_law 303 = .ok (.if_icmp .ne 7, 3) := by decide +kernel
theorem dL_law_306 : decode cL_law 306 = .ok (.iconst 1, 1) := by decide +kernel
theorem dL_law_307 : decode cL_law 307 = .ok (.goto 4, 3) := by decide +kernel
theorem dL_law_310 : decode cL_law 310 = .ok (.iconst 0, 1) := by decide +kernel
theorem dL_law_311 : decode cL_law 311 = .ok (.istore 4, 2) := by decide +kernel
theorem dL_law_313 : decode cL_law 313 = .ok (.iinc 11 1, 3) := by decide +kernel
theorem dL_law_316 : decode cL_law 316 = .ok (.goto (-59), 3) := by decide +kernel
theorem dL_law_319 : decode cL_law 319 = .ok (.aload_n 1, 1) := by decide +kernel
theorem dL_law_320 : decode cL_law 320 = .ok (.iconst 2, 1) := by decide +kernel
theorem dL_law_321 : decode cL_law 321 = .ok (.iconst 1, 1) := by decide +kernel
theorem dL_law_322 : decode cL_law 322 = .ok (.iconst 0, 1) := by decide +kernel
theorem dL_law_323 : decode cL_law 323 = .ok (.iconst 0, 1) := by decide +kernel
theorem dL_law_324 : decode cL_law 324 = .ok (.invokestatic 162, 3) := by decide +kernel
theorem dL_law_327 : decode cL_law 327 = .ok (.istore 11, 2) := by decide +kernel
theorem dL_law_329 : decode cL_law 329 = .ok (.aload_n 1, 1) := by decide +kernel
theorem dL_law_330 : decode cL_law 330 = .ok (.iconst 2, 1) := by decide +kernel
theorem dL_law_331 : decode cL_law 331 = .ok (.bipush 7, 2) := by decide +kernel
theorem dL_law_333 : decode cL_law 333 = .ok (.iconst 0, 1) := by decide +kernel
theorem dL_law_334 : decode cL_law 334 = .ok (.iconst 0, 1) := by decide +kernel
theorem dL_law_335 : decode cL_law 335 = .ok (.invokestatic 162, 3) := by decide +kernel
theorem dL_law_338 : decode cL_law 338 = .ok (.istore 12, 2) := by decide +kernel
theorem dL_law_340 : decode cL_law 340 = .ok (.iload 7, 2) := by decide +kernel
theorem dL_law_342 : decode cL_law 342 = .ok (.bipush 16, 2) := by decide +kernel
theorem dL_law_344 : decode cL_law 344 = .ok (.idiv, 1) := by decide +kernel
theorem dL_law_345 : decode cL_law 345 = .ok (.bipush 40, 2) := by decide +kernel
theorem dL_law_347 : decode cL_law 347 = .ok (.irem, 1) := by decide +kernel
theorem dL_law_348 : decode cL_law 348 = .ok (.istore 13, 2) := by decide +kernel
theorem dL_law_350 : decode cL_law 350 = .ok (.aload_n 1, 1) := by decide +kernel
theorem dL_law_351 : decode cL_law 351 = .ok (.bipush 13, 2) := by decide +kernel
theorem dL_law_353 : decode cL_law 353 = .ok (.iload 7, 2) := by decide +kernel
theorem dL_law_355 : decode cL_law 355 = .ok (.iload 10, 2) := by decide +kernel
theorem dL_law_357 : decode cL_law 357 = .ok (.irem, 1) := by decide +kernel
theorem dL_law_358 : decode cL_law 358 = .ok (.iload 13, 2) := by decide +kernel
theorem dL_law_360 : decode cL_law 360 = .ok (.iconst 0, 1) := by decide +kernel
theorem dL_law_361 : decode cL_law 361 = .ok (.invokestatic 162, 3) := by decide +kernel
theorem dL_law_364 : decode cL_law 364 = .ok (.istore 14, 2) := by decide +kernel
theorem dL_law_366 : decode cL_law 366 = .ok (.iload 4, 2) := by decide +kernel
theorem dL_law_368 : decode cL_law 368 = .ok (.ifCond .eq 145, 3) := by decide +kernel
theorem dL_law_371 : decode cL_law 371 = .ok (.aload_n 1, 1) := by decide +kernel
theorem dL_law_372 : decode cL_law 372 = .ok (.bipush 8, 2) := by decide +kernel
theorem dL_law_374 : decode cL_law 374 = .ok (.iload 7, 2) := by decide +kernel
theorem dL_law_376 : decode cL_law 376 = .ok (.iload 10, 2) := by decide +kernel
theorem dL_law_378 : decode cL_law 378 = .ok (.irem, 1) := by decide +kernel
theorem dL_law_379 : decode cL_law 379 = .ok (.iload 13, 2) := by decide +kernel
theorem dL_law_381 : decode cL_law 381 = .ok (.iconst 0, 1) := by decide +kernel
theorem dL_law_382 : decode cL_law 382 = .ok (.invokestatic 162, 3) := by decide +kernel
theorem dL_law_385 : decode cL_law 385 = .ok (.iload 14, 2) := by decide +kernel
theorem dL_law_387 : decode cL_law 387 = .ok (.if_icmp .ne 126, 3) := by decide +kernel
theorem dL_law_390 : decode cL_law 390 = .ok (.aload_n 2, 1) := by decide +kernel
theorem dL_law_391 : decode cL_law 391 = .ok (.bipush 8, 2) := by decide +kernel
theorem dL_law_393 : decode cL_law 393 = .ok (.iload 7, 2) := by decide +kernel
theorem dL_law_395 : decode cL_law 395 = .ok (.iload 10, 2) := by decide +kernel
theorem dL_law_397 : decode cL_law 397 = .ok (.irem, 1) := by decide +kernel
theorem dL_law_398 : decode cL_law 398 = .ok (.iload 13, 2) := by decide +kernel
theorem dL_law_400 : decode cL_law 400 = .ok (.iconst 0, 1) := by decide +kernel
theorem dL_law_401 : decode cL_law 401 = .ok (.invokestatic 162, 3) := by decide +kernel
theorem dL_law_404 : decode cL_law 404 = .ok (.iload 14, 2) := by decide +kernel
theorem dL_law_406 : decode cL_law 406 = .ok (.if_icmp .ne 107, 3) := by decide +kernel
theorem dL_law_409 : decode cL_law 409 = .ok (.aload_n 2, 1) := by decide +kernel
theorem dL_law_410 : decode cL_law 410 = .ok (.bipush 12, 2) := by decide +kernel
theorem dL_law_412 : decode cL_law 412 = .ok (.iconst 0, 1) := by decide +kernel
theorem dL_law_413 : decode cL_law 413 = .ok (.iconst 0, 1) := by decide +kernel
theorem dL_law_414 : decode cL_law 414 = .ok (.iconst 0, 1) := by decide +kernel
theorem dL_law_415 : decode cL_law 415 = .ok (.invokestatic 162, 3) := by decide +kernel
theorem dL_law_418 : decode cL_law 418 = .ok (.invokestatic 202, 3) := by decide +kernel
theorem dL_law_421 : decode cL_law 421 = .ok (.ifCond .ne 92, 3) := by decide +kernel
theorem dL_law_424 : decode cL_law 424 = .ok (.aload_n 1, 1) := by decide +kernel
theorem dL_law_425 : decode cL_law 425 = .ok (.iconst 2, 1) := by decide +kernel
theorem dL_law_426 : decode cL_law 426 = .ok (.iconst 1, 1) := by decide +kernel
theorem dL_law_427 : decode cL_law 427 = .ok (.iconst 0, 1) := by decide +kernel
theorem dL_law_428 : decode cL_law 428 = .ok (.iconst 0, 1) := by decide +kernel
theorem dL_law_429 : decode cL_law 429 = .ok (.invokestatic 162, 3) := by decide +kernel
theorem dL_law_432 : decode cL_law 432 = .ok (.iload 11, 2) := by decide +kernel
theorem dL_law_434 : decode cL_law 434 = .ok (.iload 14, 2) := by decide +kernel
theorem dL_law_436 : decode cL_law 436 = .ok (.ifCond .eq 9, 3) := by decide +kernel
theorem dL_law_439 : decode cL_law 439 = .ok (.iload 14, 2) := by decide +kernel
theorem dL_law_441 : decode cL_law 441 = .ok (.iconst 5, 1) := by decide +kernel
theorem dL_law_442 : decode cL_law 442 = .ok (.if_icmp .ne 7, 3) := by decide +kernel
theorem dL_law_445 : decode cL_law 445 = .ok (.iconst 0, 1) := by decide +kernel
theorem dL_law_446 : decode cL_law 446 = .ok (.goto 17, 3) := by decide +kernel
theorem dL_law_449 : decode cL_law 449 = .ok (.iconst 1, 1) := by decide +kernel
theorem dL_law_450 : decode cL_law 450 = .ok (.aload_n 1, 1) := by decide +kernel
theorem dL_law_451 : decode cL_law 451 = .ok (.iconst 2, 1) := by decide +kernel
theorem dL_law_452 : decode cL_law 452 = .ok (.bipush 7, 2) := by decide +kernel
theorem dL_law_454 : decode cL_law 454 = .ok (.iconst 0, 1) := by decide +kernel
theorem dL_law_455 : decode cL_law 455 = .ok (.iconst 0, 1) := by decide +kernel
theorem dL_law_456 : decode cL_law 456 = .ok (.invokestatic 162, 3) := by decide +kernel
theorem dL_law_459 : decode cL_law 459 = .ok (.isub, 1) := by decide +kernel
theorem dL_law_460 : decode cL_law 460 = .ok (.iload 12, 2) := by decide +kernel
theorem dL_law_462 : decode cL_law 462 = .ok (.iadd, 1) := by decide +kernel
theorem dL_law_463 : decode cL_law 463 = .ok (.iadd, 1) := by decide +kernel
theorem dL_law_464 : decode cL_law 464 = .ok (.if_icmp .ne 49, 3) := by decide +kernel
theorem dL_law_467 : decode cL_law 467 = .ok (.aload_n 1, 1) := by decide +kernel
theorem dL_law_468 : decode cL_law 468 = .ok (.bipush 12, 2) := by decide +kernel
theorem dL_law_470 : decode cL_law 470 = .ok (.iconst 0, 1) := by decide +kernel
theorem dL_law_471 : decode cL_law 471 = .ok (.iconst 0, 1) := by decide +kernel
theorem dL_law_472 : decode cL_law 472 = .ok (.iconst 0, 1) := by decide +kernel
theorem dL_law_473 : decode cL_law 473 = .ok (.invokestatic 162, 3) := by decide +kernel
theorem dL_law_476 : decode cL_law 476 = .ok (.invokestatic 202, 3) := by decide +kernel
theorem dL_law_479 : decode cL_law 479 = .ok (.ifCond .ne 34, 3) := by decide +kernel
theorem dL_law_482 : decode cL_law 482 = .ok (.aload_n 1, 1) := by decide +kernel
theorem dL_law_483 : decode cL_law 483 = .ok (.iconst 2, 1) := by decide +kernel
theorem dL_law_484 : decode cL_law 484 = .ok (.iconst 1, 1) := by decide +kernel
theorem dL_law_485 : decode cL_law 485 = .ok (.iconst 0, 1) := by decide +kernel
theorem dL_law_486 : decode cL_law 486 = .ok (.iconst 0, 1) := by decide +kernel
theorem dL_law_487 : decode cL_law 487 = .ok (.invokestatic 162, 3) := by decide +kernel
theorem dL_law_490 : decode cL_law 490 = .ok (.iload 11, 2) := by decide +kernel
theorem dL_law_492 : decode cL_law 492 = .ok (.if_icmp .ne 21, 3) := by decide +kernel
theorem dL_law_495 : decode cL_law 495 = .ok (.aload_n 1, 1) := by decide +kernel
theorem dL_law_496 : decode cL_law 496 = .ok (.iconst 2, 1) := by decide +kernel
theorem dL_law_497 : decode cL_law 497 = .ok (.bipush 7, 2) := by decide +kernel
theorem dL_law_499 : decode cL_law 499 = .ok (.iconst 0, 1) := by decide +kernel
theorem dL_law_500 : decode cL_law 500 = .ok (.iconst 0, 1) := by decide +kernel
theorem dL_law_501 : decode cL_law 501 = .ok (.invokestatic 162, 3) := by decide +kernel
theorem dL_law_504 : decode cL_law 504 = .ok (.iload 12, 2) := by decide +kernel
theorem dL_law_506 : decode cL_law 506 = .ok (.if_icmp .ne 7, 3) := by decide +kernel
theorem dL_law_509 : decode cL_law 509 = .ok (.iconst 1, 1) := by decide +kernel
theorem dL_law_510 : decode cL_law 510 = .ok (.goto 4, 3) := by decide +kernel
theorem dL_law_513 : decode cL_law 513 = .ok (.iconst 0, 1) := by decide +kernel
theorem dL_law_514 : decode cL_law 514 = .ok (.istore 4, 2) := by decide +kernel
theorem dL_law_516 : decode cL_law 516 = .ok (.iinc 6 1, 3) := by decide +kernel
theorem dL_law_519 : decode cL_law 519 = .ok (.goto (-402), 3) := by decide +kernel
theorem dL_law_522 : decode cL_law 522 = .ok (.iload 4, 2) := by decide +kernel
theorem dL_law_524 : decode cL_law 524 = .ok (.ireturn, 1) := by decide +kernel

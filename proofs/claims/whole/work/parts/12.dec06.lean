theorem dX12_keeps_52 : decode cX12_keeps 52 = .ok (.bipush 80, 2) := by decide +kernel
theorem dX12_keeps_54 : decode cX12_keeps 54 = .ok (.if_icmp .ge 29, 3) := by decide +kernel
theorem dX12_keeps_57 : decode cX12_keeps 57 = .ok (.aload_n 0, 1) := by decide +kernel
theorem dX12_keeps_58 : decode cX12_keeps 58 = .ok (.getfield 152, 3) := by decide +kernel
theorem dX12_keeps_61 : decode cX12_keeps 61 = .ok (.bipush 80, 2) := by decide +kernel
theorem dX12_keeps_63 : decode cX12_keeps 63 = .ok (.aload_n 0, 1) := by decide +kernel
theorem dX12_keeps_64 : decode cX12_keeps 64 = .ok (.getfield 269, 3) := by decide +kernel
theorem dX12_keeps_67 : decode cX12_keeps 67 = .ok (.imul, 1) := by decide +kernel
theorem dX12_keeps_68 : decode cX12_keeps 68 = .ok (.iload_n 1, 1) := by decide +kernel
theorem dX12_keeps_69 : decode cX12_keeps 69 = .ok (.iadd, 1) := by decide +kernel
theorem dX12_keeps_70 : decode cX12_keeps 70 = .ok (.aload_n 0, 1) := by decide +kernel
theorem dX12_keeps_71 : decode cX12_keeps 71 = .ok (.getfield 140, 3) := by decide +kernel
theorem dX12_keeps_74 : decode cX12_keeps 74 = .ok (.iload_n 1, 1) := by decide +kernel
theorem dX12_keeps_75 : decode cX12_keeps 75 = .ok (.iaload, 1) := by decide +kernel
theorem dX12_keeps_76 : decode cX12_keeps 76 = .ok (.iastore, 1) := by decide +kernel
theorem dX12_keeps_77 : decode cX12_keeps 77 = .ok (.iinc 1 1, 3) := by decide +kernel
theorem dX12_keeps_80 : decode cX12_keeps 80 = .ok (.goto (-29), 3) := by decide +kernel
theorem dX12_keeps_83 : decode cX12_keeps 83 = .ok (.aload_n 0, 1) := by decide +kernel
theorem dX12_keeps_84 : decode cX12_keeps 84 = .ok (.dup, 1) := by decide +kernel
theorem dX12_keeps_85 : decode cX12_keeps 85 = .ok (.getfield 269, 3) := by decide +kernel
theorem dX12_keeps_88 : decode cX12_keeps 88 = .ok (.iconst 1, 1) := by decide +kernel
theorem dX12_keeps_89 : decode cX12_keeps 89 = .ok (.iadd, 1) := by decide +kernel
theorem dX12_keeps_90 : decode cX12_keeps 90 = .ok (.putfield 269, 3) := by decide +kernel
theorem dX12_keeps_93 : decode cX12_keeps 93 = .ok (.iconst 0, 1) := by decide +kernel
theorem dX12_keeps_94 : decode cX12_keeps 94 = .ok (.istore_n 1, 1) := by decide +kernel
theorem dX12_keeps_95 : decode cX12_keeps 95 = .ok (.iload_n 1, 1) := by decide +kernel
theorem dX12_keeps_96 : decode cX12_keeps 96 = .ok (.bipush 80, 2) := by decide +kernel
theorem dX12_keeps_98 : decode cX12_keeps 98 = .ok (.if_icmp .ge 21, 3) := by decide +kernel
theorem dX12_keeps_101 : decode cX12_keeps 101 = .ok (.aload_n 0, 1) := by decide +kernel
theorem dX12_keeps_102 : decode cX12_keeps 102 = .ok (.getfield 140, 3) := by decide +kernel
theorem dX12_keeps_105 : decode cX12_keeps 105 = .ok (.iload_n 1, 1) := by decide +kernel
theorem dX12_keeps_106 : decode cX12_keeps 106 = .ok (.aload_n 0, 1) := by decide +kernel
theorem dX12_keeps_107 : decode cX12_keeps 107 = .ok (.getfield 143, 3) := by decide +kernel
theorem dX12_keeps_110 : decode cX12_keeps 110 = .ok (.iload_n 1, 1) := by decide +kernel
theorem dX12_keeps_111 : decode cX12_keeps 111 = .ok (.iaload, 1) := by decide +kernel
theorem dX12_keeps_112 : decode cX12_keeps 112 = .ok (.iastore, 1) := by decide +kernel
theorem dX12_keeps_113 : decode cX12_keeps 113 = .ok (.iinc 1 1, 3) := by decide +kernel
theorem dX12_keeps_116 : decode cX12_keeps 116 = .ok (.goto (-21), 3) := by decide +kernel
theorem dX12_keeps_119 : decode cX12_keeps 119 = .ok (.return_, 1) := by decide +kernel
theorem dX12_run_0 : decode cX12_run 0 = .ok (.iload_n 1, 1) := by decide +kernel
theorem dX12_run_1 : decode cX12_run 1 = .ok (.iconst 0, 1) := by decide +kernel
theorem dX12_run_2 : decode cX12_run 2 = .ok (.sipush 200, 3) := by decide +kernel
theorem dX12_run_5 : decode cX12_run 5 = .ok (.invokestatic 338, 3) := by decide +kernel
theorem dX12_run_8 : decode cX12_run 8 = .ok (.ifCond .ne 5, 3) := by decide +kernel
theorem dX12_run_11 : decode cX12_run 11 = .ok (.iconst (-1), 1) := by decide +kernel
theorem dX12_run_12 : decode cX12_run 12 = .ok (.ireturn, 1) := by decide +kernel
theorem dX12_run_13 : decode cX12_run 13 = .ok (.iload_n 1, 1) := by decide +kernel
theorem dX12_run_14 : decode cX12_run 14 = .ok (.ifCond .ne 11, 3) := by decide +kernel
theorem dX12_run_17 : decode cX12_run 17 = .ok (.aload_n 0, 1) := by decide +kernel
theorem dX12_run_18 : decode cX12_run 18 = .ok (.getfield 140, 3) := by decide +kernel
theorem dX12_run_21 : decode cX12_run 21 = .ok (.bipush 64, 2) := by decide +kernel
theorem dX12_run_23 : decode cX12_run 23 = .ok (.iaload, 1) := by decide +kernel
theorem dX12_run_24 : decode cX12_run 24 = .ok (.ireturn, 1) := by decide +kernel
theorem dX12_run_25 : decode cX12_run 25 = .ok (.aload_n 0, 1) := by decide +kernel
theorem dX12_run_26 : decode cX12_run 26 = .ok (.invokevirtual 383, 3) := by decide +kernel
theorem dX12_run_29 : decode cX12_run 29 = .ok (.iconst 0, 1) := by decide +kernel
theorem dX12_run_30 : decode cX12_run 30 = .ok (.istore_n 2, 1) := by decide +kernel
theorem dX12_run_31 : decode cX12_run 31 = .ok (.iload_n 2, 1) := by decide +kernel
theorem dX12_run_32 : decode cX12_run 32 = .ok (.iload_n 1, 1) := by decide +kernel
theorem dX12_run_33 : decode cX12_run 33 = .ok (.if_icmp .ge 13, 3) := by decide +kernel
theorem dX12_run_36 : decode cX12_run 36 = .ok (.aload_n 0, 1) := by decide +kernel
theorem dX12_run_37 : decode cX12_run 37 = .ok (.invokevirtual 396, 3) := by decide +kernel
theorem dX12_run_40 : decode cX12_run 40 = .ok (.iinc 2 1, 3) := by decide +kernel
theorem dX12_run_43 : decode cX12_run 43 = .ok (.goto (-12), 3) := by decide +kernel
theorem dX12_run_46 : decode cX12_run 46 = .ok (.aload_n 0, 1) := by decide +kernel
theorem dX12_run_47 : decode cX12_run 47 = .ok (.invokevirtual 399, 3) := by decide +kernel
theorem dX12_run_50 : decode cX12_run 50 = .ok (.aload_n 0, 1) := by decide +kernel
theorem dX12_run_51 : decode cX12_run 51 = .ok (.getfield 140, 3) := by decide +kernel
theorem dX12_run_54 : decode cX12_run 54 = .ok (.bipush 64, 2) := by decide +kernel
theorem dX12_run_56 : decode cX12_run 56 = .ok (.iaload, 1) := by decide +kernel
theorem dX12_run_57 : decode cX12_run 57 = .ok (.ireturn, 1) := by decide +kernel
theorem dX12_tells_0 : decode cX12_tells 0 = .ok (.iload_n 1, 1) := by decide +kernel
theorem dX12_tells_1 : decode cX12_tells 1 = .ok (.iconst 0, 1) := by decide +kernel
theorem dX12_tells_2 : decode cX12_tells 2 = .ok (.aload_n 0, 1) := by decide +kernel
theorem dX12_tells_3 : decode cX12_tells 3 = .ok (.getfield 73, 3) := by decide +kernel
theorem dX12_tells_6 : decode cX12_tells 6 = .ok (.aload_n 0, 1) := by decide +kernel
theorem dX12_tells_7 : decode cX12_tells 7 = .ok (.getfield 248, 3) := by decide +kernel
theorem dX12_tells_10 : decode cX12_tells 10 = .ok (.iaload, 1) := by decide +kernel
theorem dX12_tells_11 : decode cX12_tells 11 = .ok (.iconst 1, 1) := by decide +kernel
theorem dX12_tells_12 : decode cX12_tells 12 = .ok (.isub, 1) := by decide +kernel
theorem dX12_tells_13 : decode cX12_tells 13 = .ok (.invokestatic 338, 3) := by decide +kernel
theorem dX12_tells_16 : decode cX12_tells 16 = .ok (.ifCond .ne 5, 3) := by decide +kernel
theorem dX12_tells_19 : decode cX12_tells 19 = .ok (.iconst (-1), 1) := by decide +kernel
theorem dX12_tells_20 : decode cX12_tells 20 = .ok (.ireturn, 1) := by decide +kernel
theorem dX12_tells_21 : decode cX12_tells 21 = .ok (.aload_n 0, 1) := by decide +kernel
theorem dX12_tells_22 : decode cX12_tells 22 = .ok (.invokevirtual 383, 3) := by decide +kernel
theorem dX12_tells_25 : decode cX12_tells 25 = .ok (.aload_n 0, 1) := by decide +kernel
theorem dX12_tells_26 : decode cX12_tells 26 = .ok (.iload_n 1, 1) := by decide +kernel
theorem dX12_tells_27 : decode cX12_tells 27 = .ok (.invokevirtual 367, 3) := by decide +kernel
theorem dX12_tells_30 : decode cX12_tells 30 = .ok (.ireturn, 1) := by decide +kernel
theorem dX12_merge_0 : decode cX12_merge 0 = .ok (.aload_n 0, 1) := by decide +kernel
theorem dX12_merge_1 : decode cX12_merge 1 = .ok (.iload_n 1, 1) := by decide +kernel
theorem dX12_merge_2 : decode cX12_merge 2 = .ok (.invokevirtual 380, 3) := by decide +kernel
theorem dX12_merge_5 : decode cX12_merge 5 = .ok (.ifCond .eq 16, 3) := by decide +kernel
theorem dX12_merge_8 : decode cX12_merge 8 = .ok (.aload_n 0, 1) := by decide +kernel
theorem dX12_merge_9 : decode cX12_merge 9 = .ok (.iload_n 2, 1) := by decide +kernel
theorem dX12_merge_10 : decode cX12_merge 10 = .ok (.invokevirtual 380, 3) := by decide +kernel
theorem dX12_merge_13 : decode cX12_merge 13 = .ok (.ifCond .eq 8, 3) := by decide +kernel
theorem dX12_merge_16 : decode cX12_merge 16 = .ok (.iload_n 1, 1) := by decide +kernel
theorem dX12_merge_17 : decode cX12_merge 17 = .ok (.iload_n 2, 1) := by decide +kernel
theorem dX12_merge_18 : decode cX12_merge 18 = .ok (.if_icmp .ne 5, 3) := by decide +kernel
theorem dX12_merge_21 : decode cX12_merge 21 = .ok (.iconst (-1), 1) := by decide +kernel
theorem dX12_merge_22 : decode cX12_merge 22 = .ok (.ireturn, 1) := by decide +kernel
theorem dX12_merge_23 : decode cX12_merge 23 = .ok (.aload_n 0, 1) := by decide +kernel
theorem dX12_merge_24 : decode cX12_merge 24 = .ok (.invokevirtual 383, 3) := by decide +kernel
theorem dX12_merge_27 : decode cX12_merge 27 = .ok (.aload_n 0, 1) := by decide +kernel
theorem dX12_merge_28 : decode cX12_merge 28 = .ok (.iload_n 1, 1) := by decide +kernel
theorem dX12_merge_29 : decode cX12_merge 29 = .ok (.invokevirtual 377, 3) := by decide +kernel
theorem dX12_merge_32 : decode cX12_merge 32 = .ok (.istore_n 3, 1) := by decide +kernel
theorem dX12_merge_33 : decode cX12_merge 33 = .ok (.iconst 0, 1) := by decide +kernel
theorem dX12_merge_34 : decode cX12_merge 34 = .ok (.istore 4, 2) := by decide +kernel
theorem dX12_merge_36 : decode cX12_merge 36 = .ok (.iload 4, 2) := by decide +kernel
theorem dX12_merge_38 : decode cX12_merge 38 = .ok (.iconst 5, 1) := by decide +kernel
theorem dX12_merge_39 : decode cX12_merge 39 = .ok (.if_icmp .ge 46, 3) := by decide +kernel
theorem dX12_merge_42 : decode cX12_merge 42 = .ok (.aload_n 0, 1) := by decide +kernel
theorem dX12_merge_43 : decode cX12_merge 43 = .ok (.getfield 143, 3) := by decide +kernel
theorem dX12_merge_46 : decode cX12_merge 46 = .ok (.iconst 5, 1) := by decide +kernel
theorem dX12_merge_47 : decode cX12_merge 47 = .ok (.iload_n 2, 1) := by decide +kernel
theorem dX12_merge_48 : decode cX12_merge 48 = .ok (.imul, 1) := by decide +kernel
theorem dX12_merge_49 : decode cX12_merge 49 = .ok (.iload 4, 2) := by decide +kernel
theorem dX12_merge_51 : decode cX12_merge 51 = .ok (.iadd, 1) := by decide +kernel
theorem dX12_merge_52 : decode cX12_merge 52 = .ok (.dup2, 1) := by decide +kernel
theorem dX12_merge_53 : decode cX12_merge 53 = .ok (.iaload, 1) := by decide +kernel
theorem dX12_merge_54 : decode cX12_merge 54 = .ok (.aload_n 0, 1) := by decide +kernel
theorem dX12_merge_55 : decode cX12_merge 55 = .ok (.getfield 143, 3) := by decide +kernel
theorem dX12_merge_58 : decode cX12_merge 58 = .ok (.iconst 5, 1) := by decide +kernel
theorem dX12_merge_59 : decode cX12_merge 59 = .ok (.iload_n 1, 1) := by decide +kernel
theorem dX12_merge_60 : decode cX12_merge 60 = .ok (.imul, 1) := by decide +kernel
theorem dX12_merge_61 : decode cX12_merge 61 = .ok (.iload 4, 2) := by decide +kernel
theorem dX12_merge_63 : decode cX12_merge 63 = .ok (.iadd, 1) := by decide +kernel
theorem dX12_merge_64 : decode cX12_merge 64 = .ok (.iaload, 1) := by decide +kernel
theorem dX12_merge_65 : decode cX12_merge 65 = .ok (.iadd, 1) := by decide +kernel
theorem dX12_merge_66 : decode cX12_merge 66 = .ok (.iastore, 1) := by decide +kernel
theorem dX12_merge_67 : decode cX12_merge 67 = .ok (.aload_n 0, 1) := by decide +kernel
theorem dX12_merge_68 : decode cX12_merge 68 = .ok (.getfield 143, 3) := by decide +kernel
theorem dX12_merge_71 : decode cX12_merge 71 = .ok (.iconst 5, 1) := by decide +kernel
theorem dX12_merge_72 : decode cX12_merge 72 = .ok (.iload_n 1, 1) := by decide +kernel
theorem dX12_merge_73 : decode cX12_merge 73 = .ok (.imul, 1) := by decide +kernel
theorem dX12_merge_74 : decode cX12_merge 74 = .ok (.iload 4, 2) := by decide +kernel
theorem dX12_merge_76 : decode cX12_merge 76 = .ok (.iadd, 1) := by decide +kernel
theorem dX12_merge_77 : decode cX12_merge 77 = .ok (.iconst 0, 1) := by decide +kernel
theorem dX12_merge_78 : decode cX12_merge 78 = .ok (.iastore, 1) := by decide +kernel
theorem dX12_merge_79 : decode cX12_merge 79 = .ok (.iinc 4 1, 3) := by decide +kernel
theorem dX12_merge_82 : decode cX12_merge 82 = .ok (.goto (-46), 3) := by decide +kernel
theorem dX12_merge_85 : decode cX12_merge 85 = .ok (.aload_n 0, 1) := by decide +kernel
theorem dX12_merge_86 : decode cX12_merge 86 = .ok (.getfield 143, 3) := by decide +kernel
theorem dX12_merge_89 : decode cX12_merge 89 = .ok (.bipush 40, 2) := by decide +kernel
theorem dX12_merge_91 : decode cX12_merge 91 = .ok (.iload_n 2, 1) := by decide +kernel
theorem dX12_merge_92 : decode cX12_merge 92 = .ok (.iadd, 1) := by decide +kernel
theorem dX12_merge_93 : decode cX12_merge 93 = .ok (.dup2, 1) := by decide +kernel
theorem dX12_merge_94 : decode cX12_merge 94 = .ok (.iaload, 1) := by decide +kernel
theorem dX12_merge_95 : decode cX12_merge 95 = .ok (.aload_n 0, 1) := by decide +kernel
theorem dX12_merge_96 : decode cX12_merge 96 = .ok (.getfield 143, 3) := by decide +kernel
theorem dX12_merge_99 : decode cX12_merge 99 = .ok (.bipush 40, 2) := by decide +kernel
theorem dX12_merge_101 : decode cX12_merge 101 = .ok (.iload_n 1, 1) := by decide +kernel
theorem dX12_merge_102 : decode cX12_merge 102 = .ok (.iadd, 1) := by decide +kernel
theorem dX12_merge_103 : decode cX12_merge 103 = .ok (.iaload, 1) := by decide +kernel
theorem dX12_merge_104 : decode cX12_merge 104 = .ok (.iadd, 1) := by decide +kernel
theorem dX12_merge_105 : decode cX12_merge 105 = .ok (.iastore, 1) := by decide +kernel
theorem dX12_merge_106 : decode cX12_merge 106 = .ok (.aload_n 0, 1) := by decide +kernel
theorem dX12_merge_107 : decode cX12_merge 107 = .ok (.getfield 143, 3) := by decide +kernel
theorem dX12_merge_110 : decode cX12_merge 110 = .ok (.bipush 40, 2) := by decide +kernel
theorem dX12_merge_112 : decode cX12_merge 112 = .ok (.iload_n 1, 1) := by decide +kernel
theorem dX12_merge_113 : decode cX12_merge 113 = .ok (.iadd, 1) := by decide +kernel
theorem dX12_merge_114 : decode cX12_merge 114 = .ok (.iconst 0, 1) := by decide +kernel
theorem dX12_merge_115 : decode cX12_merge 115 = .ok (.iastore, 1) := by decide +kernel
theorem dX12_merge_116 : decode cX12_merge 116 = .ok (.aload_n 0, 1) := by decide +kernel
theorem dX12_merge_117 : decode cX12_merge 117 = .ok (.getfield 143, 3) := by decide +kernel
theorem dX12_merge_120 : decode cX12_merge 120 = .ok (.bipush 48, 2) := by decide +kernel
theorem dX12_merge_122 : decode cX12_merge 122 = .ok (.iload_n 2, 1) := by decide +kernel
theorem dX12_merge_123 : decode cX12_merge 123 = .ok (.iadd, 1) := by decide +kernel
theorem dX12_merge_124 : decode cX12_merge 124 = .ok (.dup2, 1) := by decide +kernel
theorem dX12_merge_125 : decode cX12_merge 125 = .ok (.iaload, 1) := by decide +kernel
theorem dX12_merge_126 : decode cX12_merge 126 = .ok (.aload_n 0, 1) := by decide +kernel
theorem dX12_merge_127 : decode cX12_merge 127 = .ok (.getfield 143, 3) := by decide +kernel
theorem dX12_merge_130 : decode cX12_merge 130 = .ok (.bipush 48, 2) := by decide +kernel
theorem dX12_merge_132 : decode cX12_merge 132 = .ok (.iload_n 1, 1) := by decide +kernel
theorem dX12_merge_133 : decode cX12_merge 133 = .ok (.iadd, 1) := by decide +kernel
theorem dX12_merge_134 : decode cX12_merge 134 = .ok (.iaload, 1) := by decide +kernel
theorem dX12_merge_135 : decode cX12_merge 135 = .ok (.iadd, 1) := by decide +kernel
theorem dX12_merge_136 : decode cX12_merge 136 = .ok (.iastore, 1) := by decide +kernel
theorem dX12_merge_137 : decode cX12_merge 137 = .ok (.aload_n 0, 1) := by decide +kernel
theorem dX12_merge_138 : decode cX12_merge 138 = .ok (.getfield 143, 3) := by decide +kernel
theorem dX12_merge_141 : decode cX12_merge 141 = .ok (.bipush 48, 2) := by decide +kernel
theorem dX12_merge_143 : decode cX12_merge 143 = .ok (.iload_n 1, 1) := by decide +kernel
theorem dX12_merge_144 : decode cX12_merge 144 = .ok (.iadd, 1) := by decide +kernel
theorem dX12_merge_145 : decode cX12_merge 145 = .ok (.iconst 0, 1) := by decide +kernel
theorem dX12_merge_146 : decode cX12_merge 146 = .ok (.iastore, 1) := by decide +kernel
theorem dX12_merge_147 : decode cX12_merge 147 = .ok (.aload_n 0, 1) := by decide +kernel
theorem dX12_merge_148 : decode cX12_merge 148 = .ok (.invokevirtual 399, 3) := by decide +kernel
theorem dX12_merge_151 : decode cX12_merge 151 = .ok (.iload_n 3, 1) := by decide +kernel
theorem dX12_merge_152 : decode cX12_merge 152 = .ok (.ireturn, 1) := by decide +kernel
theorem dX12_split_0 : decode cX12_split 0 = .ok (.aload_n 0, 1) := by decide +kernel
theorem dX12_split_1 : decode cX12_split 1 = .ok (.iload_n 1, 1) := by decide +kernel
theorem dX12_split_2 : decode cX12_split 2 = .ok (.invokevirtual 380, 3) := by decide +kernel
theorem dX12_split_5 : decode cX12_split 5 = .ok (.ifCond .eq 37, 3) := by decide +kernel
theorem dX12_split_8 : decode cX12_split 8 = .ok (.aload_n 0, 1) := by decide +kernel
theorem dX12_split_9 : decode cX12_split 9 = .ok (.iload_n 2, 1) := by decide +kernel
theorem dX12_split_10 : decode cX12_split 10 = .ok (.invokevirtual 380, 3) := by decide +kernel
theorem dX12_split_13 : decode cX12_split 13 = .ok (.ifCond .eq 29, 3) := by decide +kernel
theorem dX12_split_16 : decode cX12_split 16 = .ok (.iload_n 1, 1) := by decide +kernel
theorem dX12_split_17 : decode cX12_split 17 = .ok (.iload_n 2, 1) := by decide +kernel
theorem dX12_split_18 : decode cX12_split 18 = .ok (.if_icmp .eq 24, 3) := by decide +kernel
theorem dX12_split_21 : decode cX12_split 21 = .ok (.iload 4, 2) := by decide +kernel
theorem dX12_split_23 : decode cX12_split 23 = .ok (.iconst 1, 1) := by decide +kernel
theorem dX12_split_24 : decode cX12_split 24 = .ok (.bipush 99, 2) := by decide +kernel
theorem dX12_split_26 : decode cX12_split 26 = .ok (.invokestatic 338, 3) := by decide +kernel
theorem dX12_split_29 : decode cX12_split 29 = .ok (.ifCond .eq 13, 3) := by decide +kernel
theorem dX12_split_32 : decode cX12_split 32 = .ok (.iload_n 3, 1) := by decide +kernel
theorem dX12_split_33 : decode cX12_split 33 = .ok (.iconst 0, 1) := by decide +kernel
theorem dX12_split_34 : decode cX12_split 34 = .ok (.iload 4, 2) := by decide +kernel
theorem dX12_split_36 : decode cX12_split 36 = .ok (.invokestatic 338, 3) := by decide +kernel
theorem dX12_split_39 : decode cX12_split 39 = .ok (.ifCond .ne 5, 3) := by decide +kernel
theorem dX12_split_42 : decode cX12_split 42 = .ok (.iconst (-1), 1) := by decide +kernel
theorem dX12_split_43 : decode cX12_split 43 = .ok (.ireturn, 1) := by decide +kernel
theorem dX12_split_44 : decode cX12_split 44 = .ok (.aload_n 0, 1) := by decide +kernel
theorem dX12_split_45 : decode cX12_split 45 = .ok (.invokevirtual 383, 3) := by decide +kernel
theorem dX12_split_48 : decode cX12_split 48 = .ok (.iconst 0, 1) := by decide +kernel
theorem dX12_split_49 : decode cX12_split 49 = .ok (.istore 5, 2) := by decide +kernel
theorem dX12_split_51 : decode cX12_split 51 = .ok (.iconst 0, 1) := by decide +kernel
theorem dX12_split_52 : decode cX12_split 52 = .ok (.istore 6, 2) := by decide +kernel
theorem dX12_split_54 : decode cX12_split 54 = .ok (.iload 6, 2) := by decide +kernel
theorem dX12_split_56 : decode cX12_split 56 = .ok (.iconst 5, 1) := by decide +kernel
theorem dX12_split_57 : decode cX12_split 57 = .ok (.if_icmp .ge 66, 3) := by decide +kernel
theorem dX12_split_60 : decode cX12_split 60 = .ok (.aload_n 0, 1) := by decide +kernel
theorem dX12_split_61 : decode cX12_split 61 = .ok (.getfield 143, 3) := by decide +kernel
theorem dX12_split_64 : decode cX12_split 64 = .ok (.iconst 5, 1) := by decide +kernel
theorem dX12_split_65 : decode cX12_split 65 = .ok (.iload_n 1, 1) := by decide +kernel
theorem dX12_split_66 : decode cX12_split 66 = .ok (.imul, 1) := by decide +kernel
theorem dX12_split_67 : decode cX12_split 67 = .ok (.iload 6, 2) := by decide +kernel
theorem dX12_split_69 : decode cX12_split 69 = .ok (.iadd, 1) := by decide +kernel
theorem dX12_split_70 : decode cX12_split 70 = .ok (.iaload, 1) := by decide +kernel
theorem dX12_split_71 : decode cX12_split 71 = .ok (.iload_n 3, 1) := by decide +kernel
theorem dX12_split_72 : decode cX12_split 72 = .ok (.imul, 1) := by decide +kernel
theorem dX12_split_73 : decode cX12_split 73 = .ok (.iload 4, 2) := by decide +kernel
theorem dX12_split_75 : decode cX12_split 75 = .ok (.idiv, 1) := by decide +kernel
theorem dX12_split_76 : decode cX12_split 76 = .ok (.istore 7, 2) := by decide +kernel
theorem dX12_split_78 : decode cX12_split 78 = .ok (.aload_n 0, 1) := by decide +kernel
theorem dX12_split_79 : decode cX12_split 79 = .ok (.getfield 143, 3) := by decide +kernel
theorem dX12_split_82 : decode cX12_split 82 = .ok (.iconst 5, 1) := by decide +kernel
theorem dX12_split_83 : decode cX12_split 83 = .ok (.iload_n 1, 1) := by decide +kernel
theorem dX12_split_84 : decode cX12_split 84 = .ok (.imul, 1) := by decide +kernel
theorem dX12_split_85 : decode cX12_split 85 = .ok (.iload 6, 2) := by decide +kernel
theorem dX12_split_87 : decode cX12_split 87 = .ok (.iadd, 1) := by decide +kernel
theorem dX12_split_88 : decode cX12_split 88 = .ok (.dup2, 1) := by decide +kernel
theorem dX12_split_89 : decode cX12_split 89 = .ok (.iaload, 1) := by decide +kernel
theorem dX12_split_90 : decode cX12_split 90 = .ok (.iload 7, 2) := by decide +kernel
theorem dX12_split_92 : decode cX12_split 92 = .ok (.isub, 1) := by decide +kernel
theorem dX12_split_93 : decode cX12_split 93 = .ok (.iastore, 1) := by decide +kernel
theorem dX12_split_94 : decode cX12_split 94 = .ok (.aload_n 0, 1) := by decide +kernel
theorem dX12_split_95 : decode cX12_split 95 = .ok (.getfield 143, 3) := by decide +kernel
theorem dX12_split_98 : decode cX12_split 98 = .ok (.iconst 5, 1) := by decide +kernel
theorem dX12_split_99 : decode cX12_split 99 = .ok (.iload_n 2, 1) := by decide +kernel
theorem dX12_split_100 : decode cX12_split 100 = .ok (.imul, 1) := by decide +kernel
theorem dX12_split_101 : decode cX12_split 101 = .ok (.iload 6, 2) := by decide +kernel
theorem dX12_split_103 : decode cX12_split 103 = .ok (.iadd, 1) := by decide +kernel
theorem dX12_split_104 : decode cX12_split 104 = .ok (.dup2, 1) := by decide +kernel
theorem dX12_split_105 : decode cX12_split 105 = .ok (.iaload, 1) := by decide +kernel
theorem dX12_split_106 : decode cX12_split 106 = .ok (.iload 7, 2) := by decide +kernel
theorem dX12_split_108 : decode cX12_split 108 = .ok (.iadd, 1) := by decide +kernel
theorem dX12_split_109 : decode cX12_split 109 = .ok (.iastore, 1) := by decide +kernel
theorem dX12_split_110 : decode cX12_split 110 = .ok (.iload 5, 2) := by decide +kernel
theorem dX12_split_112 : decode cX12_split 112 = .ok (.iload 7, 2) := by decide +kernel
theorem dX12_split_114 : decode cX12_split 114 = .ok (.iadd, 1) := by decide +kernel
theorem dX12_split_115 : decode cX12_split 115 = .ok (.istore 5, 2) := by decide +kernel
theorem dX12_split_117 : decode cX12_split 117 = .ok (.iinc 6 1, 3) := by decide +kernel
theorem dX12_split_120 : decode cX12_split 120 = .ok (.goto (-66), 3) := by decide +kernel
theorem dX12_split_123 : decode cX12_split 123 = .ok (.aload_n 0, 1) := by decide +kernel
theorem dX12_split_124 : decode cX12_split 124 = .ok (.invokevirtual 399, 3) := by decide +kernel
theorem dX12_split_127 : decode cX12_split 127 = .ok (.iload 5, 2) := by decide +kernel
theorem dX12_split_129 : decode cX12_split 129 = .ok (.ireturn, 1) := by decide +kernel
theorem dX12_spoon_0 : decode cX12_spoon 0 = .ok (.aload_n 0, 1) := by decide +kernel
theorem dX12_spoon_1 : decode cX12_spoon 1 = .ok (.invokevirtual 383, 3) := by decide +kernel
theorem dX12_spoon_4 : decode cX12_spoon 4 = .ok (.aload_n 0, 1) := by decide +kernel
theorem dX12_spoon_5 : decode cX12_spoon 5 = .ok (.invokevirtual 352, 3) := by decide +kernel
theorem dX12_spoon_8 : decode cX12_spoon 8 = .ok (.istore_n 2, 1) := by decide +kernel
theorem dX12_spoon_9 : decode cX12_spoon 9 = .ok (.iload_n 1, 1) := by decide +kernel
theorem dX12_spoon_10 : decode cX12_spoon 10 = .ok (.iconst 1, 1) := by decide +kernel
theorem dX12_spoon_11 : decode cX12_spoon 11 = .ok (.iload_n 2, 1) := by decide +kernel
theorem dX12_spoon_12 : decode cX12_spoon 12 = .ok (.invokestatic 338, 3) := by decide +kernel
theorem dX12_spoon_15 : decode cX12_spoon 15 = .ok (.ifCond .ne 5, 3) := by decide +kernel
theorem dX12_spoon_18 : decode cX12_spoon 18 = .ok (.iconst (-1), 1) := by decide +kernel
theorem dX12_spoon_19 : decode cX12_spoon 19 = .ok (.ireturn, 1) := by decide +kernel
theorem dX12_spoon_20 : decode cX12_spoon 20 = .ok (.aload_n 0, 1) := by decide +kernel
theorem dX12_spoon_21 : decode cX12_spoon 21 = .ok (.getfield 143, 3) := by decide +kernel
theorem dX12_spoon_24 : decode cX12_spoon 24 = .ok (.bipush 65, 2) := by decide +kernel
theorem dX12_spoon_26 : decode cX12_spoon 26 = .ok (.iaload, 1) := by decide +kernel
theorem dX12_spoon_27 : decode cX12_spoon 27 = .ok (.i2l, 1) := by decide +kernel
theorem dX12_spoon_28 : decode cX12_spoon 28 = .ok (.iload_n 1, 1) := by decide +kernel
theorem dX12_spoon_29 : decode cX12_spoon 29 = .ok (.i2l, 1) := by decide +kernel
theorem dX12_spoon_30 : decode cX12_spoon 30 = .ok (.lmul, 1) := by decide +kernel
theorem dX12_spoon_31 : decode cX12_spoon 31 = .ok (.iload_n 2, 1) := by decide +kernel
theorem dX12_spoon_32 : decode cX12_spoon 32 = .ok (.i2l, 1) := by decide +kernel
theorem dX12_spoon_33 : decode cX12_spoon 33 = .ok (.ldiv, 1) := by decide +kernel
theorem dX12_spoon_34 : decode cX12_spoon 34 = .ok (.l2i, 1) := by decide +kernel
theorem dX12_spoon_35 : decode cX12_spoon 35 = .ok (.istore_n 3, 1) := by decide +kernel
theorem dX12_spoon_36 : decode cX12_spoon 36 = .ok (.aload_n 0, 1) := by decide +kernel
theorem dX12_spoon_37 : decode cX12_spoon 37 = .ok (.iload_n 1, 1) := by decide +kernel
theorem dX12_spoon_38 : decode cX12_spoon 38 = .ok (.invokevirtual 374, 3) := by decide +kernel
theorem dX12_spoon_41 : decode cX12_spoon 41 = .ok (.aload_n 0, 1) := by decide +kernel
theorem dX12_spoon_42 : decode cX12_spoon 42 = .ok (.getfield 143, 3) := by decide +kernel
theorem dX12_spoon_45 : decode cX12_spoon 45 = .ok (.bipush 65, 2) := by decide +kernel
theorem dX12_spoon_47 : decode cX12_spoon 47 = .ok (.dup2, 1) := by decide +kernel
theorem dX12_spoon_48 : decode cX12_spoon 48 = .ok (.iaload, 1) := by decide +kernel
theorem dX12_spoon_49 : decode cX12_spoon 49 = .ok (.iload_n 3, 1) := by decide +kernel
theorem dX12_spoon_50 : decode cX12_spoon 50 = .ok (.isub, 1) := by decide +kernel
theorem dX12_spoon_51 : decode cX12_spoon 51 = .ok (.iastore, 1) := by decide +kernel
theorem dX12_spoon_52 : decode cX12_spoon 52 = .ok (.aload_n 0, 1) := by decide +kernel
theorem dX12_spoon_53 : decode cX12_spoon 53 = .ok (.invokevirtual 399, 3) := by decide +kernel
theorem dX12_spoon_56 : decode cX12_spoon 56 = .ok (.iload_n 3, 1) := by decide +kernel
theorem dX12_spoon_57 : decode cX12_spoon 57 = .ok (.ireturn, 1) := by decide +kernel
theorem dX12_undo_0 : decode cX12_undo 0 = .ok (.aload_n 0, 1) := by decide +kernel
theorem dX12_undo_1 : decode cX12_undo 1 = .ok (.getfield 269, 3) := by decide +kernel
theorem dX12_undo_4 : decode cX12_undo 4 = .ok (.ifCond .ne 5, 3) := by decide +kernel
theorem dX12_undo_7 : decode cX12_undo 7 = .ok (.iconst 0, 1) := by decide +kernel
theorem dX12_undo_8 : decode cX12_undo 8 = .ok (.ireturn, 1) := by decide +kernel
theorem dX12_undo_9 : decode cX12_undo 9 = .ok (.aload_n 0, 1) := by decide +kernel
theorem dX12_undo_10 : decode cX12_undo 10 = .ok (.dup, 1) := by decide +kernel
theorem dX12_undo_11 : decode cX12_undo 11 = .ok (.getfield 269, 3) := by decide +kernel
theorem dX12_undo_14 : decode cX12_undo 14 = .ok (.iconst 1, 1) := by decide +kernel
theorem dX12_undo_15 : decode cX12_undo 15 = .ok (.isub, 1) := by decide +kernel
theorem dX12_undo_16 : decode cX12_undo 16 = .ok (.putfield 269, 3) := by decide +kernel
theorem dX12_undo_19 : decode cX12_undo 19 = .ok (.iconst 0, 1) := by decide +kernel
theorem dX12_undo_20 : decode cX12_undo 20 = .ok (.istore_n 1, 1) := by decide +kernel
theorem dX12_undo_21 : decode cX12_undo 21 = .ok (.iload_n 1, 1) := by decide +kernel
theorem dX12_undo_22 : decode cX12_undo 22 = .ok (.bipush 80, 2) := by decide +kernel
theorem dX12_undo_24 : decode cX12_undo 24 = .ok (.if_icmp .ge 29, 3) := by decide +kernel
theorem dX12_undo_27 : decode cX12_undo 27 = .ok (.aload_n 0, 1) := by decide +kernel
theorem dX12_undo_28 : decode cX12_undo 28 = .ok (.getfield 140, 3) := by decide +kernel
theorem dX12_undo_31 : decode cX12_undo 31 = .ok (.iload_n 1, 1) := by decide +kernel
theorem dX12_undo_32 : decode cX12_undo 32 = .ok (.aload_n 0, 1) := by decide +kernel
theorem dX12_undo_33 : decode cX12_undo 33 = .ok (.getfield 152, 3) := by decide +kernel
theorem dX12_undo_36 : decode cX12_undo 36 = .ok (.bipush 80, 2) := by decide +kernel
theorem dX12_undo_38 : decode cX12_undo 38 = .ok (.aload_n 0, 1) := by decide +kernel
theorem dX12_undo_39 : decode cX12_undo 39 = .ok (.getfield 269, 3) := by decide +kernel
theorem dX12_undo_42 : decode cX12_undo 42 = .ok (.imul, 1) := by decide +kernel
theorem dX12_undo_43 : decode cX12_undo 43 = .ok (.iload_n 1, 1) := by decide +kernel
theorem dX12_undo_44 : decode cX12_undo 44 = .ok (.iadd, 1) := by decide +kernel
theorem dX12_undo_45 : decode cX12_undo 45 = .ok (.iaload, 1) := by decide +kernel
theorem dX12_undo_46 : decode cX12_undo 46 = .ok (.iastore, 1) := by decide +kernel
theorem dX12_undo_47 : decode cX12_undo 47 = .ok (.iinc 1 1, 3) := by decide +kernel
theorem dX12_undo_50 : decode cX12_undo 50 = .ok (.goto (-29), 3) := by decide +kernel
theorem dX12_undo_53 : decode cX12_undo 53 = .ok (.iconst 1, 1) := by decide +kernel
theorem dX12_undo_54 : decode cX12_undo 54 = .ok (.ireturn, 1) := by decide +kernel
theorem dX12_enough_0 : decode cX12_enough 0 = .ok (.iload_n 1, 1) := by decide +kernel
theorem dX12_enough_1 : decode cX12_enough 1 = .ok (.ifCond .ge 5, 3) := by decide +kernel
theorem dX12_enough_4 : decode cX12_enough 4 = .ok (.iconst (-1), 1) := by decide +kernel
theorem dX12_enough_5 : decode cX12_enough 5 = .ok (.ireturn, 1) := by decide +kernel
theorem dX12_enough_6 : decode cX12_enough 6 = .ok (.aload_n 0, 1) := by decide +kernel
theorem dX12_enough_7 : decode cX12_enough 7 = .ok (.invokevirtual 383, 3) := by decide +kernel
theorem dX12_enough_10 : decode cX12_enough 10 = .ok (.iconst 0, 1) := by decide +kernel
theorem dX12_enough_11 : decode cX12_enough 11 = .ok (.istore_n 2, 1) := by decide +kernel
theorem dX12_enough_12 : decode cX12_enough 12 = .ok (.iload_n 2, 1) := by decide +kernel
theorem dX12_enough_13 : decode cX12_enough 13 = .ok (.sipush 200, 3) := by decide +kernel
theorem dX12_enough_16 : decode cX12_enough 16 = .ok (.if_icmp .gt 23, 3) := by decide +kernel
theorem dX12_enough_19 : decode cX12_enough 19 = .ok (.aload_n 0, 1) := by decide +kernel
theorem dX12_enough_20 : decode cX12_enough 20 = .ok (.invokevirtual 352, 3) := by decide +kernel
theorem dX12_enough_23 : decode cX12_enough 23 = .ok (.iload_n 1, 1) := by decide +kernel
theorem dX12_enough_24 : decode cX12_enough 24 = .ok (.if_icmp .lt 5, 3) := by decide +kernel
theorem dX12_enough_27 : decode cX12_enough 27 = .ok (.iload_n 2, 1) := by decide +kernel
theorem dX12_enough_28 : decode cX12_enough 28 = .ok (.ireturn, 1) := by decide +kernel
theorem dX12_enough_29 : decode cX12_enough 29 = .ok (.aload_n 0, 1) := by decide +kernel
theorem dX12_enough_30 : decode cX12_enough 30 = .ok (.invokevirtual 396, 3) := by decide +kernel
theorem dX12_enough_33 : decode cX12_enough 33 = .ok (.iinc 2 1, 3) := by decide +kernel
theorem dX12_enough_36 : decode cX12_enough 36 = .ok (.goto (-24), 3) := by decide +kernel
theorem dX12_enough_39 : decode cX12_enough 39 = .ok (.bipush (-2), 2) := by decide +kernel
theorem dX12_enough_41 : decode cX12_enough 41 = .ok (.ireturn, 1) := by decide +kernel
theorem dX12_saltNow_0 : decode cX12_saltNow 0 = .ok (.aload_n 0, 1) := by decide +kernel
theorem dX12_saltNow_1 : decode cX12_saltNow 1 = .ok (.invokevirtual 352, 3) := by decide +kernel
theorem dX12_saltNow_4 : decode cX12_saltNow 4 = .ok (.istore_n 1, 1) := by decide +kernel
theorem dX12_saltNow_5 : decode cX12_saltNow 5 = .ok (.iload_n 1, 1) := by decide +kernel
theorem dX12_saltNow_6 : decode cX12_saltNow 6 = .ok (.ifCond .ne 7, 3) := by decide +kernel
theorem dX12_saltNow_9 : decode cX12_saltNow 9 = .ok (.lconst 0, 1) := by decide +kernel
theorem dX12_saltNow_10 : decode cX12_saltNow 10 = .ok (.goto 18, 3) := by decide +kernel
theorem dX12_saltNow_13 : decode cX12_saltNow 13 = .ok (.aload_n 0, 1) := by decide +kernel
theorem dX12_saltNow_14 : decode cX12_saltNow 14 = .ok (.getfield 143, 3) := by decide +kernel
theorem dX12_saltNow_17 : decode cX12_saltNow 17 = .ok (.bipush 65, 2) := by decide +kernel
theorem dX12_saltNow_19 : decode cX12_saltNow 19 = .ok (.iaload, 1) := by decide +kernel
theorem dX12_saltNow_20 : decode cX12_saltNow 20 = .ok (.i2l, 1) := by decide +kernel
theorem dX12_saltNow_21 : decode cX12_saltNow 21 = .ok (.ldc2_w 402, 3) := by decide +kernel
theorem dX12_saltNow_24 : decode cX12_saltNow 24 = .ok (.lmul, 1) := by decide +kernel
theorem dX12_saltNow_25 : decode cX12_saltNow 25 = .ok (.iload_n 1, 1) := by decide +kernel
theorem dX12_saltNow_26 : decode cX12_saltNow 26 = .ok (.i2l, 1) := by decide +kernel
theorem dX12_saltNow_27 : decode cX12_saltNow 27 = .ok (.ldiv, 1) := by decide +kernel
theorem dX12_saltNow_28 : decode cX12_saltNow 28 = .ok (.lreturn, 1) := by decide +kernel
theorem dX12_salty_0 : decode cX12_salty 0 = .ok (.iload_n 1, 1) := by decide +kernel
theorem dX12_salty_1 : decode cX12_salty 1 = .ok (.ifCond .ge 5, 3) := by decide +kernel
theorem dX12_salty_4 : decode cX12_salty 4 = .ok (.iconst (-1), 1) := by decide +kernel
theorem dX12_salty_5 : decode cX12_salty 5 = .ok (.ireturn, 1) := by decide +kernel
theorem dX12_salty_6 : decode cX12_salty 6 = .ok (.aload_n 0, 1) := by decide +kernel
theorem dX12_salty_7 : decode cX12_salty 7 = .ok (.invokevirtual 383, 3) := by decide +kernel
theorem dX12_salty_10 : decode cX12_salty 10 = .ok (.iconst 0, 1) := by decide +kernel
theorem dX12_salty_11 : decode cX12_salty 11 = .ok (.istore_n 2, 1) := by decide +kernel
theorem dX12_salty_12 : decode cX12_salty 12 = .ok (.iload_n 2, 1) := by decide +kernel
theorem dX12_salty_13 : decode cX12_salty 13 = .ok (.sipush 200, 3) := by decide +kernel
theorem dX12_salty_16 : decode cX12_salty 16 = .ok (.if_icmp .gt 25, 3) := by decide +kernel
theorem dX12_salty_19 : decode cX12_salty 19 = .ok (.aload_n 0, 1) := by decide +kernel
theorem dX12_salty_20 : decode cX12_salty 20 = .ok (.invokevirtual 404, 3) := by decide +kernel
theorem dX12_salty_23 : decode cX12_salty 23 = .ok (.iload_n 1, 1) := by decide +kernel
theorem dX12_salty_24 : decode cX12_salty 24 = .ok (.i2l, 1) := by decide +kernel
theorem dX12_salty_25 : decode cX12_salty 25 = .ok (.lcmp, 1) := by decide +kernel
theorem dX12_salty_26 : decode cX12_salty 26 = .ok (.ifCond .lt 5, 3) := by decide +kernel
theorem dX12_salty_29 : decode cX12_salty 29 = .ok (.iload_n 2, 1) := by decide +kernel
theorem dX12_salty_30 : decode cX12_salty 30 = .ok (.ireturn, 1) := by decide +kernel
theorem dX12_salty_31 : decode cX12_salty 31 = .ok (.aload_n 0, 1) := by decide +kernel
theorem dX12_salty_32 : decode cX12_salty 32 = .ok (.invokevirtual 396, 3) := by decide +kernel
theorem dX12_salty_35 : decode cX12_salty 35 = .ok (.iinc 2 1, 3) := by decide +kernel
theorem dX12_salty_38 : decode cX12_salty 38 = .ok (.goto (-26), 3) := by decide +kernel
theorem dX12_salty_41 : decode cX12_salty 41 = .ok (.bipush (-2), 2) := by decide +kernel
theorem dX12_salty_43 : decode cX12_salty 43 = .ok (.ireturn, 1) := by decide +kernel
theorem dX12_crossed_0 : decode cX12_crossed 0 = .ok (.iload_n 2, 1) := by decide +kernel
theorem dX12_crossed_1 : decode cX12_crossed 1 = .ok (.iconst 1, 1) := by decide +kernel
theorem dX12_crossed_2 : decode cX12_crossed 2 = .ok (.bipush 99, 2) := by decide +kernel
theorem dX12_crossed_4 : decode cX12_crossed 4 = .ok (.invokestatic 338, 3) := by decide +kernel
theorem dX12_crossed_7 : decode cX12_crossed 7 = .ok (.ifCond .eq 21, 3) := by decide +kernel
theorem dX12_crossed_10 : decode cX12_crossed 10 = .ok (.iload_n 1, 1) := by decide +kernel
theorem dX12_crossed_11 : decode cX12_crossed 11 = .ok (.iconst 1, 1) := by decide +kernel
theorem dX12_crossed_12 : decode cX12_crossed 12 = .ok (.iload_n 2, 1) := by decide +kernel
theorem dX12_crossed_13 : decode cX12_crossed 13 = .ok (.invokestatic 338, 3) := by decide +kernel
theorem dX12_crossed_16 : decode cX12_crossed 16 = .ok (.ifCond .eq 12, 3) := by decide +kernel
theorem dX12_crossed_19 : decode cX12_crossed 19 = .ok (.iload_n 3, 1) := by decide +kernel
theorem dX12_crossed_20 : decode cX12_crossed 20 = .ok (.iconst 0, 1) := by decide +kernel
theorem dX12_crossed_21 : decode cX12_crossed 21 = .ok (.iconst 1, 1) := by decide +kernel
theorem dX12_crossed_22 : decode cX12_crossed 22 = .ok (.invokestatic 338, 3) := by decide +kernel
theorem dX12_crossed_25 : decode cX12_crossed 25 = .ok (.ifCond .ne 5, 3) := by decide +kernel
theorem dX12_crossed_28 : decode cX12_crossed 28 = .ok (.iconst (-1), 1) := by decide +kernel
theorem dX12_crossed_29 : decode cX12_crossed 29 = .ok (.ireturn, 1) := by decide +kernel
theorem dX12_crossed_30 : decode cX12_crossed 30 = .ok (.aload_n 0, 1) := by decide +kernel
theorem dX12_crossed_31 : decode cX12_crossed 31 = .ok (.invokevirtual 383, 3) := by decide +kernel
theorem dX12_crossed_34 : decode cX12_crossed 34 = .ok (.iconst 0, 1) := by decide +kernel
theorem dX12_crossed_35 : decode cX12_crossed 35 = .ok (.istore 4, 2) := by decide +kernel
theorem dX12_crossed_37 : decode cX12_crossed 37 = .ok (.iload 4, 2) := by decide +kernel
theorem dX12_crossed_39 : decode cX12_crossed 39 = .ok (.sipush 200, 3) := by decide +kernel
theorem dX12_crossed_42 : decode cX12_crossed 42 = .ok (.if_icmp .gt 106, 3) := by decide +kernel
theorem dX12_crossed_45 : decode cX12_crossed 45 = .ok (.aload_n 0, 1) := by decide +kernel
theorem dX12_crossed_46 : decode cX12_crossed 46 = .ok (.invokevirtual 352, 3) := by decide +kernel
theorem dX12_crossed_49 : decode cX12_crossed 49 = .ok (.istore 5, 2) := by decide +kernel
theorem dX12_crossed_51 : decode cX12_crossed 51 = .ok (.iconst (-1), 1) := by decide +kernel
theorem dX12_crossed_52 : decode cX12_crossed 52 = .ok (.istore 6, 2) := by decide +kernel
theorem dX12_crossed_54 : decode cX12_crossed 54 = .ok (.iconst 0, 1) := by decide +kernel
theorem dX12_crossed_55 : decode cX12_crossed 55 = .ok (.istore 7, 2) := by decide +kernel
theorem dX12_crossed_57 : decode cX12_crossed 57 = .ok (.iload 7, 2) := by decide +kernel
theorem dX12_crossed_59 : decode cX12_crossed 59 = .ok (.aload_n 0, 1) := by decide +kernel
theorem dX12_crossed_60 : decode cX12_crossed 60 = .ok (.getfield 58, 3) := by decide +kernel
theorem dX12_crossed_63 : decode cX12_crossed 63 = .ok (.aload_n 0, 1) := by decide +kernel
theorem dX12_crossed_64 : decode cX12_crossed 64 = .ok (.getfield 248, 3) := by decide +kernel
theorem dX12_crossed_67 : decode cX12_crossed 67 = .ok (.iaload, 1) := by decide +kernel
theorem dX12_crossed_68 : decode cX12_crossed 68 = .ok (.if_icmp .ge 53, 3) := by decide +kernel
theorem dX12_crossed_71 : decode cX12_crossed 71 = .ok (.iload 5, 2) := by decide +kernel
theorem dX12_crossed_73 : decode cX12_crossed 73 = .ok (.ifCond .le 48, 3) := by decide +kernel
theorem dX12_crossed_76 : decode cX12_crossed 76 = .ok (.aload_n 0, 1) := by decide +kernel
theorem dX12_crossed_77 : decode cX12_crossed 77 = .ok (.iload 7, 2) := by decide +kernel
theorem dX12_crossed_79 : decode cX12_crossed 79 = .ok (.invokevirtual 377, 3) := by decide +kernel
theorem dX12_crossed_82 : decode cX12_crossed 82 = .ok (.iload_n 2, 1) := by decide +kernel
theorem dX12_crossed_83 : decode cX12_crossed 83 = .ok (.imul, 1) := by decide +kernel
theorem dX12_crossed_84 : decode cX12_crossed 84 = .ok (.iload_n 1, 1) := by decide +kernel
theorem dX12_crossed_85 : decode cX12_crossed 85 = .ok (.iload 5, 2) := by decide +kernel
theorem dX12_crossed_87 : decode cX12_crossed 87 = .ok (.imul, 1) := by decide +kernel
theorem dX12_crossed_88 : decode cX12_crossed 88 = .ok (.if_icmp .lt 27, 3) := by decide +kernel
theorem dX12_crossed_91 : decode cX12_crossed 91 = .ok (.iload 6, 2) := by decide +kernel
theorem dX12_crossed_93 : decode cX12_crossed 93 = .ok (.ifCond .lt 18, 3) := by decide +kernel
theorem dX12_crossed_96 : decode cX12_crossed 96 = .ok (.aload_n 0, 1) := by decide +kernel
theorem dX12_crossed_97 : decode cX12_crossed 97 = .ok (.iload 7, 2) := by decide +kernel
theorem dX12_crossed_99 : decode cX12_crossed 99 = .ok (.invokevirtual 386, 3) := by decide +kernel
theorem dX12_crossed_102 : decode cX12_crossed 102 = .ok (.aload_n 0, 1) := by decide +kernel
theorem dX12_crossed_103 : decode cX12_crossed 103 = .ok (.iload 6, 2) := by decide +kernel
theorem dX12_crossed_105 : decode cX12_crossed 105 = .ok (.invokevirtual 386, 3) := by decide +kernel
theorem dX12_crossed_108 : decode cX12_crossed 108 = .ok (.if_icmp .ge 7, 3) := by decide +kernel
theorem dX12_crossed_111 : decode cX12_crossed 111 = .ok (.iload 7, 2) := by decide +kernel
theorem dX12_crossed_113 : decode cX12_crossed 113 = .ok (.istore 6, 2) := by decide +kernel
theorem dX12_crossed_115 : decode cX12_crossed 115 = .ok (.iinc 7 1, 3) := by decide +kernel
theorem dX12_crossed_118 : decode cX12_crossed 118 = .ok (.goto (-61), 3) := by decide +kernel
theorem dX12_crossed_121 : decode cX12_crossed 121 = .ok (.iload 6, 2) := by decide +kernel
theorem dX12_crossed_123 : decode cX12_crossed 123 = .ok (.ifCond .lt 15, 3) := by decide +kernel
theorem dX12_crossed_126 : decode cX12_crossed 126 = .ok (.iload_n 3, 1) := by decide +kernel
theorem dX12_crossed_127 : decode cX12_crossed 127 = .ok (.ifCond .ne 8, 3) := by decide +kernel
theorem dX12_crossed_130 : decode cX12_crossed 130 = .ok (.iload 4, 2) := by decide +kernel
theorem dX12_crossed_132 : decode cX12_crossed 132 = .ok (.goto 5, 3) := by decide +kernel
theorem dX12_crossed_135 : decode cX12_crossed 135 = .ok (.iload 6, 2) := by decide +kernel
theorem dX12_crossed_137 : decode cX12_crossed 137 = .ok (.ireturn, 1) := by decide +kernel
theorem dX12_crossed_138 : decode cX12_crossed 138 = .ok (.aload_n 0, 1) := by decide +kernel
theorem dX12_crossed_139 : decode cX12_crossed 139 = .ok (.invokevirtual 396, 3) := by decide +kernel
theorem dX12_crossed_142 : decode cX12_crossed 142 = .ok (.iinc 4 1, 3) := by decide +kernel
theorem dX12_crossed_145 : decode cX12_crossed 145 = .ok (.goto (-108), 3) := by decide +kernel
theorem dX12_crossed_148 : decode cX12_crossed 148 = .ok (.bipush (-2), 2) := by decide +kernel
theorem dX12_crossed_150 : decode cX12_crossed 150 = .ok (.ireturn, 1) := by decide +kernel
theorem dX12_bits_0 : decode cX12_bits 0 = .ok (.iconst 0, 1) := by decide +kernel
theorem dX12_bits_1 : decode cX12_bits 1 = .ok (.istore_n 1, 1) := by decide +kernel
theorem dX12_bits_2 : decode cX12_bits 2 = .ok (.iconst 0, 1) := by decide +kernel
theorem dX12_bits_3 : decode cX12_bits 3 = .ok (.istore_n 2, 1) := by decide +kernel
theorem dX12_bits_4 : decode cX12_bits 4 = .ok (.iload_n 2, 1) := by decide +kernel
theorem dX12_bits_5 : decode cX12_bits 5 = .ok (.bipush 8, 2) := by decide +kernel
theorem dX12_bits_7 : decode cX12_bits 7 = .ok (.if_icmp .ge 17, 3) := by decide +kernel
theorem dX12_bits_10 : decode cX12_bits 10 = .ok (.iload_n 1, 1) := by decide +kernel
theorem dX12_bits_11 : decode cX12_bits 11 = .ok (.iload_n 0, 1) := by decide +kernel
theorem dX12_bits_12 : decode cX12_bits 12 = .ok (.iload_n 2, 1) := by decide +kernel
theorem dX12_bits_13 : decode cX12_bits 13 = .ok (.ishr, 1) := by decide +kernel
theorem dX12_bits_14 : decode cX12_bits 14 = .ok (.iconst 1, 1) := by decide +kernel
theorem dX12_bits_15 : decode cX12_bits 15 = .ok (.iand, 1) := by decide +kernel
theorem dX12_bits_16 : decode cX12_bits 16 = .ok (.iadd, 1) := by decide +kernel
theorem dX12_bits_17 : decode cX12_bits 17 = .ok (.istore_n 1, 1) := by decide +kernel
theorem dX12_bits_18 : decode cX12_bits 18 = .ok (.iinc 2 1, 3) := by decide +kernel
theorem dX12_bits_21 : decode cX12_bits 21 = .ok (.goto (-17), 3) := by decide +kernel
theorem dX12_bits_24 : decode cX12_bits 24 = .ok (.iload_n 1, 1) := by decide +kernel
theorem dX12_bits_25 : decode cX12_bits 25 = .ok (.ireturn, 1) := by decide +kernel
theorem dX12_wins_0 : decode cX12_wins 0 = .ok (.iconst 0, 1) := by decide +kernel
theorem dX12_wins_1 : decode cX12_wins 1 = .ok (.istore_n 2, 1) := by decide +kernel
theorem dX12_wins_2 : decode cX12_wins 2 = .ok (.iconst 0, 1) := by decide +kernel
theorem dX12_wins_3 : decode cX12_wins 3 = .ok (.istore_n 3, 1) := by decide +kernel
theorem dX12_wins_4 : decode cX12_wins 4 = .ok (.iload_n 3, 1) := by decide +kernel
theorem dX12_wins_5 : decode cX12_wins 5 = .ok (.bipush 8, 2) := by decide +kernel
theorem dX12_wins_7 : decode cX12_wins 7 = .ok (.if_icmp .ge 26, 3) := by decide +kernel
theorem dX12_wins_10 : decode cX12_wins 10 = .ok (.iload_n 1, 1) := by decide +kernel
theorem dX12_wins_11 : decode cX12_wins 11 = .ok (.iload_n 3, 1) := by decide +kernel
theorem dX12_wins_12 : decode cX12_wins 12 = .ok (.ishr, 1) := by decide +kernel
theorem dX12_wins_13 : decode cX12_wins 13 = .ok (.iconst 1, 1) := by decide +kernel
theorem dX12_wins_14 : decode cX12_wins 14 = .ok (.iand, 1) := by decide +kernel
theorem dX12_wins_15 : decode cX12_wins 15 = .ok (.iconst 1, 1) := by decide +kernel
theorem dX12_wins_16 : decode cX12_wins 16 = .ok (.if_icmp .ne 11, 3) := by decide +kernel
theorem dX12_wins_19 : decode cX12_wins 19 = .ok (.iload_n 2, 1) := by decide +kernel
theorem dX12_wins_20 : decode cX12_wins 20 = .ok (.aload_n 0, 1) := by decide +kernel
theorem dX12_wins_21 : decode cX12_wins 21 = .ok (.iload_n 3, 1) := by decide +kernel
theorem dX12_wins_22 : decode cX12_wins 22 = .ok (.invokevirtual 377, 3) := by decide +kernel
theorem dX12_wins_25 : decode cX12_wins 25 = .ok (.iadd, 1) := by decide +kernel
theorem dX12_wins_26 : decode cX12_wins 26 = .ok (.istore_n 2, 1) := by decide +kernel
theorem dX12_wins_27 : decode cX12_wins 27 = .ok (.iinc 3 1, 3) := by decide +kernel
theorem dX12_wins_30 : decode cX12_wins 30 = .ok (.goto (-26), 3) := by decide +kernel
theorem dX12_wins_33 : decode cX12_wins 33 = .ok (.iconst 2, 1) := by decide +kernel
theorem dX12_wins_34 : decode cX12_wins 34 = .ok (.iload_n 2, 1) := by decide +kernel
theorem dX12_wins_35 : decode cX12_wins 35 = .ok (.imul, 1) := by decide +kernel
theorem dX12_wins_36 : decode cX12_wins 36 = .ok (.aload_n 0, 1) := by decide +kernel
theorem dX12_wins_37 : decode cX12_wins 37 = .ok (.invokevirtual 352, 3) := by decide +kernel
theorem dX12_wins_40 : decode cX12_wins 40 = .ok (.if_icmp .le 7, 3) := by decide +kernel
theorem dX12_wins_43 : decode cX12_wins 43 = .ok (.iconst 1, 1) := by decide +kernel
theorem dX12_wins_44 : decode cX12_wins 44 = .ok (.goto 4, 3) := by decide +kernel
theorem dX12_wins_47 : decode cX12_wins 47 = .ok (.iconst 0, 1) := by decide +kernel
theorem dX12_wins_48 : decode cX12_wins 48 = .ok (.ireturn, 1) := by decide +kernel
theorem dX12_league_0 : decode cX12_league 0 = .ok (.aload_n 0, 1) := by decide +kernel
theorem dX12_league_1 : decode cX12_league 1 = .ok (.invokevirtual 383, 3) := by decide +kernel
theorem dX12_league_4 : decode cX12_league 4 = .ok (.bipush (-2), 2) := by decide +kernel
theorem dX12_league_6 : decode cX12_league 6 = .ok (.istore_n 1, 1) := by decide +kernel
theorem dX12_league_7 : decode cX12_league 7 = .ok (.iconst 0, 1) := by decide +kernel
theorem dX12_league_8 : decode cX12_league 8 = .ok (.istore_n 2, 1) := by decide +kernel
theorem dX12_league_9 : decode cX12_league 9 = .ok (.iload_n 2, 1) := by decide +kernel
theorem dX12_league_10 : decode cX12_league 10 = .ok (.iconst 1, 1) := by decide +kernel
theorem dX12_league_11 : decode cX12_league 11 = .ok (.aload_n 0, 1) := by decide +kernel
theorem dX12_league_12 : decode cX12_league 12 = .ok (.getfield 58, 3) := by decide +kernel
theorem dX12_league_15 : decode cX12_league 15 = .ok (.aload_n 0, 1) := by decide +kernel
theorem dX12_league_16 : decode cX12_league 16 = .ok (.getfield 248, 3) := by decide +kernel
theorem dX12_league_19 : decode cX12_league 19 = .ok (.iaload, 1) := by decide +kernel
theorem dX12_league_20 : decode cX12_league 20 = .ok (.ishl, 1) := by decide +kernel
theorem dX12_league_21 : decode cX12_league 21 = .ok (.if_icmp .ge 34, 3) := by decide +kernel
theorem dX12_league_24 : decode cX12_league 24 = .ok (.aload_n 0, 1) := by decide +kernel
theorem dX12_league_25 : decode cX12_league 25 = .ok (.iload_n 2, 1) := by decide +kernel
theorem dX12_league_26 : decode cX12_league 26 = .ok (.invokevirtual 408, 3) := by decide +kernel
theorem dX12_league_29 : decode cX12_league 29 = .ok (.ifCond .eq 20, 3) := by decide +kernel
theorem dX12_league_32 : decode cX12_league 32 = .ok (.iload_n 1, 1) := by decide +kernel
theorem dX12_league_33 : decode cX12_league 33 = .ok (.ifCond .lt 14, 3) := by decide +kernel
theorem dX12_league_36 : decode cX12_league 36 = .ok (.iload_n 2, 1) := by decide +kernel
theorem dX12_league_37 : decode cX12_league 37 = .ok (.invokestatic 411, 3) := by decide +kernel
theorem dX12_league_40 : decode cX12_league 40 = .ok (.iload_n 1, 1) := by decide +kernel
theorem dX12_league_41 : decode cX12_league 41 = .ok (.invokestatic 411, 3) := by decide +kernel
theorem dX12_league_44 : decode cX12_league 44 = .ok (.if_icmp .ge 5, 3) := by decide +kernel
theorem dX12_league_47 : decode cX12_league 47 = .ok (.iload_n 2, 1) := by decide +kernel
theorem dX12_league_48 : decode cX12_league 48 = .ok (.istore_n 1, 1) := by decide +kernel
theorem dX12_league_49 : decode cX12_league 49 = .ok (.iinc 2 1, 3) := by decide +kernel
theorem dX12_league_52 : decode cX12_league 52 = .ok (.goto (-43), 3) := by decide +kernel
theorem dX12_league_55 : decode cX12_league 55 = .ok (.iload_n 1, 1) := by decide +kernel
theorem dX12_league_56 : decode cX12_league 56 = .ok (.ireturn, 1) := by decide +kernel
theorem dX12_power_0 : decode cX12_power 0 = .ok (.aload_n 0, 1) := by decide +kernel
theorem dX12_power_1 : decode cX12_power 1 = .ok (.iload_n 1, 1) := by decide +kernel
theorem dX12_power_2 : decode cX12_power 2 = .ok (.invokevirtual 380, 3) := by decide +kernel
theorem dX12_power_5 : decode cX12_power 5 = .ok (.ifCond .ne 5, 3) := by decide +kernel
theorem dX12_power_8 : decode cX12_power 8 = .ok (.iconst (-1), 1) := by decide +kernel
theorem dX12_power_9 : decode cX12_power 9 = .ok (.ireturn, 1) := by decide +kernel
theorem dX12_power_10 : decode cX12_power 10 = .ok (.aload_n 0, 1) := by decide +kernel
theorem dX12_power_11 : decode cX12_power 11 = .ok (.invokevirtual 383, 3) := by decide +kernel
theorem dX12_power_14 : decode cX12_power 14 = .ok (.iconst 0, 1) := by decide +kernel
theorem dX12_power_15 : decode cX12_power 15 = .ok (.istore_n 2, 1) := by decide +kernel
theorem dX12_power_16 : decode cX12_power 16 = .ok (.iconst 0, 1) := by decide +kernel
theorem dX12_power_17 : decode cX12_power 17 = .ok (.istore_n 3, 1) := by decide +kernel
theorem dX12_power_18 : decode cX12_power 18 = .ok (.iload_n 3, 1) := by decide +kernel
theorem dX12_power_19 : decode cX12_power 19 = .ok (.iconst 1, 1) := by decide +kernel
theorem dX12_power_20 : decode cX12_power 20 = .ok (.aload_n 0, 1) := by decide +kernel
theorem dX12_power_21 : decode cX12_power 21 = .ok (.getfield 58, 3) := by decide +kernel
theorem dX12_power_24 : decode cX12_power 24 = .ok (.aload_n 0, 1) := by decide +kernel
theorem dX12_power_25 : decode cX12_power 25 = .ok (.getfield 248, 3) := by decide +kernel
theorem dX12_power_28 : decode cX12_power 28 = .ok (.iaload, 1) := by decide +kernel
theorem dX12_power_29 : decode cX12_power 29 = .ok (.ishl, 1) := by decide +kernel
theorem dX12_power_30 : decode cX12_power 30 = .ok (.if_icmp .ge 43, 3) := by decide +kernel
theorem dX12_power_33 : decode cX12_power 33 = .ok (.iload_n 3, 1) := by decide +kernel
theorem dX12_power_34 : decode cX12_power 34 = .ok (.iload_n 1, 1) := by decide +kernel
theorem dX12_power_35 : decode cX12_power 35 = .ok (.ishr, 1) := by decide +kernel
theorem dX12_power_36 : decode cX12_power 36 = .ok (.iconst 1, 1) := by decide +kernel
theorem dX12_power_37 : decode cX12_power 37 = .ok (.iand, 1) := by decide +kernel
theorem dX12_power_38 : decode cX12_power 38 = .ok (.iconst 1, 1) := by decide +kernel
theorem dX12_power_39 : decode cX12_power 39 = .ok (.if_icmp .ne 28, 3) := by decide +kernel
theorem dX12_power_42 : decode cX12_power 42 = .ok (.aload_n 0, 1) := by decide +kernel
theorem dX12_power_43 : decode cX12_power 43 = .ok (.iload_n 3, 1) := by decide +kernel
theorem dX12_power_44 : decode cX12_power 44 = .ok (.invokevirtual 408, 3) := by decide +kernel
theorem dX12_power_47 : decode cX12_power 47 = .ok (.ifCond .eq 20, 3) := by decide +kernel
theorem dX12_power_50 : decode cX12_power 50 = .ok (.aload_n 0, 1) := by decide +kernel
theorem dX12_power_51 : decode cX12_power 51 = .ok (.iload_n 3, 1) := by decide +kernel
theorem dX12_power_52 : decode cX12_power 52 = .ok (.iconst 1, 1) := by decide +kernel
theorem dX12_power_53 : decode cX12_power 53 = .ok (.iload_n 1, 1) := by decide +kernel
theorem dX12_power_54 : decode cX12_power 54 = .ok (.ishl, 1) := by decide +kernel
theorem dX12_power_55 : decode cX12_power 55 = .ok (.iconst (-1), 1) := by decide +kernel
theorem dX12_power_56 : decode cX12_power 56 = .ok (.ixor, 1) := by decide +kernel
theorem dX12_power_57 : decode cX12_power 57 = .ok (.iand, 1) := by decide +kernel
theorem dX12_power_58 : decode cX12_power 58 = .ok (.invokevirtual 408, 3) := by decide +kernel
theorem dX12_power_61 : decode cX12_power 61 = .ok (.ifCond .ne 6, 3) := by decide +kernel
theorem dX12_power_64 : decode cX12_power 64 = .ok (.iinc 2 1, 3) := by decide +kernel
theorem dX12_power_67 : decode cX12_power 67 = .ok (.iinc 3 1, 3) := by decide +kernel
theorem dX12_power_70 : decode cX12_power 70 = .ok (.goto (-52), 3) := by decide +kernel
theorem dX12_power_73 : decode cX12_power 73 = .ok (.iload_n 2, 1) := by decide +kernel
theorem dX12_power_74 : decode cX12_power 74 = .ok (.ireturn, 1) := by decide +kernel
theorem dX12_without_0 : decode cX12_without 0 = .ok (.aload_n 0, 1) := by decide +kernel
theorem dX12_without_1 : decode cX12_without 1 = .ok (.iload_n 1, 1) := by decide +kernel
theorem dX12_without_2 : decode cX12_without 2 = .ok (.invokevirtual 380, 3) := by decide +kernel
theorem dX12_without_5 : decode cX12_without 5 = .ok (.ifCond .eq 27, 3) := by decide +kernel
theorem dX12_without_8 : decode cX12_without 8 = .ok (.iload_n 2, 1) := by decide +kernel
theorem dX12_without_9 : decode cX12_without 9 = .ok (.iconst 1, 1) := by decide +kernel
theorem dX12_without_10 : decode cX12_without 10 = .ok (.sipush 200, 3) := by decide +kernel
theorem dX12_without_13 : decode cX12_without 13 = .ok (.invokestatic 338, 3) := by decide +kernel
theorem dX12_without_16 : decode cX12_without 16 = .ok (.ifCond .eq 16, 3) := by decide +kernel
theorem dX12_without_19 : decode cX12_without 19 = .ok (.iload_n 3, 1) := by decide +kernel
theorem dX12_without_20 : decode cX12_without 20 = .ok (.iconst (-1), 1) := by decide +kernel
theorem dX12_without_21 : decode cX12_without 21 = .ok (.if_icmp .eq 15, 3) := by decide +kernel
theorem dX12_without_24 : decode cX12_without 24 = .ok (.aload_n 0, 1) := by decide +kernel
theorem dX12_without_25 : decode cX12_without 25 = .ok (.iload_n 3, 1) := by decide +kernel
theorem dX12_without_26 : decode cX12_without 26 = .ok (.invokevirtual 380, 3) := by decide +kernel
theorem dX12_without_29 : decode cX12_without 29 = .ok (.ifCond .ne 7, 3) := by decide +kernel
theorem dX12_without_32 : decode cX12_without 32 = .ok (.ldc_w 414, 3) := by decide +kernel
theorem dX12_without_35 : decode cX12_without 35 = .ok (.ireturn, 1) := by decide +kernel
theorem dX12_without_36 : decode cX12_without 36 = .ok (.aload_n 0, 1) := by decide +kernel
theorem dX12_without_37 : decode cX12_without 37 = .ok (.invokevirtual 383, 3) := by decide +kernel
theorem dX12_without_40 : decode cX12_without 40 = .ok (.iconst 0, 1) := by decide +kernel
theorem dX12_without_41 : decode cX12_without 41 = .ok (.istore 4, 2) := by decide +kernel
theorem dX12_without_43 : decode cX12_without 43 = .ok (.iload 4, 2) := by decide +kernel
theorem dX12_without_45 : decode cX12_without 45 = .ok (.iload_n 2, 1) := by decide +kernel
theorem dX12_without_46 : decode cX12_without 46 = .ok (.if_icmp .ge 13, 3) := by decide +kernel
theorem dX12_without_49 : decode cX12_without 49 = .ok (.aload_n 0, 1) := by decide +kernel
theorem dX12_without_50 : decode cX12_without 50 = .ok (.invokevirtual 396, 3) := by decide +kernel
theorem dX12_without_53 : decode cX12_without 53 = .ok (.iinc 4 1, 3) := by decide +kernel
theorem dX12_without_56 : decode cX12_without 56 = .ok (.goto (-13), 3) := by decide +kernel
theorem dX12_without_59 : decode cX12_without 59 = .ok (.iload_n 3, 1) := by decide +kernel
theorem dX12_without_60 : decode cX12_without 60 = .ok (.iconst (-1), 1) := by decide +kernel
theorem dX12_without_61 : decode cX12_without 61 = .ok (.if_icmp .ne 10, 3) := by decide +kernel
theorem dX12_without_64 : decode cX12_without 64 = .ok (.aload_n 0, 1) := by decide +kernel
theorem dX12_without_65 : decode cX12_without 65 = .ok (.invokevirtual 352, 3) := by decide +kernel
theorem dX12_without_68 : decode cX12_without 68 = .ok (.goto 8, 3) := by decide +kernel
theorem dX12_without_71 : decode cX12_without 71 = .ok (.aload_n 0, 1) := by decide +kernel
theorem dX12_without_72 : decode cX12_without 72 = .ok (.iload_n 3, 1) := by decide +kernel
theorem dX12_without_73 : decode cX12_without 73 = .ok (.invokevirtual 377, 3) := by decide +kernel
theorem dX12_without_76 : decode cX12_without 76 = .ok (.istore 4, 2) := by decide +kernel
theorem dX12_without_78 : decode cX12_without 78 = .ok (.aload_n 0, 1) := by decide +kernel
theorem dX12_without_79 : decode cX12_without 79 = .ok (.invokevirtual 383, 3) := by decide +kernel
theorem dX12_without_82 : decode cX12_without 82 = .ok (.aload_n 0, 1) := by decide +kernel
theorem dX12_without_83 : decode cX12_without 83 = .ok (.iload_n 1, 1) := by decide +kernel
theorem dX12_without_84 : decode cX12_without 84 = .ok (.putfield 342, 3) := by decide +kernel
theorem dX12_without_87 : decode cX12_without 87 = .ok (.iconst 0, 1) := by decide +kernel
theorem dX12_without_88 : decode cX12_without 88 = .ok (.istore 5, 2) := by decide +kernel
theorem dX12_without_90 : decode cX12_without 90 = .ok (.iload 5, 2) := by decide +kernel
theorem dX12_without_92 : decode cX12_without 92 = .ok (.iload_n 2, 1) := by decide +kernel
theorem dX12_without_93 : decode cX12_without 93 = .ok (.if_icmp .ge 13, 3) := by decide +kernel
theorem dX12_without_96 : decode cX12_without 96 = .ok (.aload_n 0, 1) := by decide +kernel
theorem dX12_without_97 : decode cX12_without 97 = .ok (.invokevirtual 396, 3) := by decide +kernel
theorem dX12_without_100 : decode cX12_without 100 = .ok (.iinc 5 1, 3) := by decide +kernel
theorem dX12_without_103 : decode cX12_without 103 = .ok (.goto (-13), 3) := by decide +kernel
theorem dX12_without_106 : decode cX12_without 106 = .ok (.iload_n 3, 1) := by decide +kernel
theorem dX12_without_107 : decode cX12_without 107 = .ok (.iconst (-1), 1) := by decide +kernel
theorem dX12_without_108 : decode cX12_without 108 = .ok (.if_icmp .ne 13, 3) := by decide +kernel
theorem dX12_without_111 : decode cX12_without 111 = .ok (.iload 4, 2) := by decide +kernel
theorem dX12_without_113 : decode cX12_without 113 = .ok (.aload_n 0, 1) := by decide +kernel
theorem dX12_without_114 : decode cX12_without 114 = .ok (.invokevirtual 352, 3) := by decide +kernel
theorem dX12_without_117 : decode cX12_without 117 = .ok (.isub, 1) := by decide +kernel
theorem dX12_without_118 : decode cX12_without 118 = .ok (.goto 11, 3) := by decide +kernel
theorem dX12_without_121 : decode cX12_without 121 = .ok (.aload_n 0, 1) := by decide +kernel
theorem dX12_without_122 : decode cX12_without 122 = .ok (.iload_n 3, 1) := by decide +kernel
theorem dX12_without_123 : decode cX12_without 123 = .ok (.invokevirtual 377, 3) := by decide +kernel
theorem dX12_without_126 : decode cX12_without 126 = .ok (.iload 4, 2) := by decide +kernel
theorem dX12_without_128 : decode cX12_without 128 = .ok (.isub, 1) := by decide +kernel
theorem dX12_without_129 : decode cX12_without 129 = .ok (.ireturn, 1) := by decide +kernel
theorem dX12_sumBy_0 : decode cX12_sumBy 0 = .ok (.iload_n 2, 1) := by decide +kernel
theorem dX12_sumBy_1 : decode cX12_sumBy 1 = .ok (.istore_n 3, 1) := by decide +kernel
theorem dX12_sumBy_2 : decode cX12_sumBy 2 = .ok (.iconst 0, 1) := by decide +kernel
theorem dX12_sumBy_3 : decode cX12_sumBy 3 = .ok (.istore 4, 2) := by decide +kernel
theorem dX12_sumBy_5 : decode cX12_sumBy 5 = .ok (.iconst 0, 1) := by decide +kernel
theorem dX12_sumBy_6 : decode cX12_sumBy 6 = .ok (.istore 5, 2) := by decide +kernel
theorem dX12_sumBy_8 : decode cX12_sumBy 8 = .ok (.iload 5, 2) := by decide +kernel
theorem dX12_sumBy_10 : decode cX12_sumBy 10 = .ok (.bipush 8, 2) := by decide +kernel
theorem dX12_sumBy_12 : decode cX12_sumBy 12 = .ok (.if_icmp .ge 17, 3) := by decide +kernel
theorem dX12_sumBy_15 : decode cX12_sumBy 15 = .ok (.aload_n 0, 1) := by decide +kernel
theorem dX12_sumBy_16 : decode cX12_sumBy 16 = .ok (.getfield 155, 3) := by decide +kernel
theorem dX12_sumBy_19 : decode cX12_sumBy 19 = .ok (.iload 5, 2) := by decide +kernel
theorem dX12_sumBy_21 : decode cX12_sumBy 21 = .ok (.iconst 0, 1) := by decide +kernel
theorem dX12_sumBy_22 : decode cX12_sumBy 22 = .ok (.iastore, 1) := by decide +kernel
theorem dX12_sumBy_23 : decode cX12_sumBy 23 = .ok (.iinc 5 1, 3) := by decide +kernel
theorem dX12_sumBy_26 : decode cX12_sumBy 26 = .ok (.goto (-18), 3) := by decide +kernel
theorem dX12_sumBy_29 : decode cX12_sumBy 29 = .ok (.iconst 0, 1) := by decide +kernel
theorem dX12_sumBy_30 : decode cX12_sumBy 30 = .ok (.istore 5, 2) := by decide +kernel
theorem dX12_sumBy_32 : decode cX12_sumBy 32 = .ok (.iload 5, 2) := by decide +kernel
theorem dX12_sumBy_34 : decode cX12_sumBy 34 = .ok (.bipush 100, 2) := by decide +kernel
theorem dX12_sumBy_36 : decode cX12_sumBy 36 = .ok (.if_icmp .ge 142, 3) := by decide +kernel
theorem dX12_sumBy_39 : decode cX12_sumBy 39 = .ok (.iconst 0, 1) := by decide +kernel
theorem dX12_sumBy_40 : decode cX12_sumBy 40 = .ok (.istore 6, 2) := by decide +kernel
theorem dX12_sumBy_42 : decode cX12_sumBy 42 = .ok (.iload 6, 2) := by decide +kernel
theorem dX12_sumBy_44 : decode cX12_sumBy 44 = .ok (.aload_n 0, 1) := by decide +kernel
theorem dX12_sumBy_45 : decode cX12_sumBy 45 = .ok (.getfield 58, 3) := by decide +kernel
theorem dX12_sumBy_48 : decode cX12_sumBy 48 = .ok (.aload_n 0, 1) := by decide +kernel
theorem dX12_sumBy_49 : decode cX12_sumBy 49 = .ok (.getfield 248, 3) := by decide +kernel
theorem dX12_sumBy_52 : decode cX12_sumBy 52 = .ok (.iaload, 1) := by decide +kernel
theorem dX12_sumBy_53 : decode cX12_sumBy 53 = .ok (.if_icmp .ge 119, 3) := by decide +kernel
theorem dX12_sumBy_56 : decode cX12_sumBy 56 = .ok (.bipush 8, 2) := by decide +kernel
theorem dX12_sumBy_58 : decode cX12_sumBy 58 = .ok (.aload_n 0, 1) := by decide +kernel
theorem dX12_sumBy_59 : decode cX12_sumBy 59 = .ok (.getfield 248, 3) := by decide +kernel
theorem dX12_sumBy_62 : decode cX12_sumBy 62 = .ok (.imul, 1) := by decide +kernel
theorem dX12_sumBy_63 : decode cX12_sumBy 63 = .ok (.iload 6, 2) := by decide +kernel
theorem dX12_sumBy_65 : decode cX12_sumBy 65 = .ok (.iadd, 1) := by decide +kernel
theorem dX12_sumBy_66 : decode cX12_sumBy 66 = .ok (.istore 7, 2) := by decide +kernel
theorem dX12_sumBy_68 : decode cX12_sumBy 68 = .ok (.iload_n 1, 1) := by decide +kernel
theorem dX12_sumBy_69 : decode cX12_sumBy 69 = .ok (.iload 6, 2) := by decide +kernel
theorem dX12_sumBy_71 : decode cX12_sumBy 71 = .ok (.ishr, 1) := by decide +kernel
theorem dX12_sumBy_72 : decode cX12_sumBy 72 = .ok (.iconst 1, 1) := by decide +kernel
theorem dX12_sumBy_73 : decode cX12_sumBy 73 = .ok (.iand, 1) := by decide +kernel
theorem dX12_sumBy_74 : decode cX12_sumBy 74 = .ok (.ifCond .eq 92, 3) := by decide +kernel
theorem dX12_sumBy_77 : decode cX12_sumBy 77 = .ok (.aload_n 0, 1) := by decide +kernel
theorem dX12_sumBy_78 : decode cX12_sumBy 78 = .ok (.getfield 64, 3) := by decide +kernel
theorem dX12_sumBy_81 : decode cX12_sumBy 81 = .ok (.iload 7, 2) := by decide +kernel
theorem dX12_sumBy_83 : decode cX12_sumBy 83 = .ok (.iaload, 1) := by decide +kernel
theorem dX12_sumBy_84 : decode cX12_sumBy 84 = .ok (.iload 5, 2) := by decide +kernel
theorem dX12_sumBy_86 : decode cX12_sumBy 86 = .ok (.if_icmp .eq 6, 3) := by decide +kernel
theorem dX12_sumBy_89 : decode cX12_sumBy 89 = .ok (.goto 77, 3) := by decide +kernel
theorem dX12_sumBy_92 : decode cX12_sumBy 92 = .ok (.aload_n 0, 1) := by decide +kernel
theorem dX12_sumBy_93 : decode cX12_sumBy 93 = .ok (.getfield 155, 3) := by decide +kernel
theorem dX12_sumBy_96 : decode cX12_sumBy 96 = .ok (.iload 6, 2) := by decide +kernel
theorem dX12_sumBy_98 : decode cX12_sumBy 98 = .ok (.aload_n 0, 1) := by decide +kernel
theorem dX12_sumBy_99 : decode cX12_sumBy 99 = .ok (.getfield 70, 3) := by decide +kernel
theorem dX12_sumBy_102 : decode cX12_sumBy 102 = .ok (.iload 7, 2) := by decide +kernel
theorem dX12_sumBy_104 : decode cX12_sumBy 104 = .ok (.iaload, 1) := by decide +kernel
theorem dX12_sumBy_105 : decode cX12_sumBy 105 = .ok (.iload_n 3, 1) := by decide +kernel
theorem dX12_sumBy_106 : decode cX12_sumBy 106 = .ok (.if_icmp .ge 13, 3) := by decide +kernel
theorem dX12_sumBy_109 : decode cX12_sumBy 109 = .ok (.aload_n 0, 1) := by decide +kernel
theorem dX12_sumBy_110 : decode cX12_sumBy 110 = .ok (.getfield 70, 3) := by decide +kernel
theorem dX12_sumBy_113 : decode cX12_sumBy 113 = .ok (.iload 7, 2) := by decide +kernel
theorem dX12_sumBy_115 : decode cX12_sumBy 115 = .ok (.iaload, 1) := by decide +kernel
theorem dX12_sumBy_116 : decode cX12_sumBy 116 = .ok (.goto 4, 3) := by decide +kernel
theorem dX12_sumBy_119 : decode cX12_sumBy 119 = .ok (.iload_n 3, 1) := by decide +kernel
theorem dX12_sumBy_120 : decode cX12_sumBy 120 = .ok (.iastore, 1) := by decide +kernel
theorem dX12_sumBy_121 : decode cX12_sumBy 121 = .ok (.aload_n 0, 1) := by decide +kernel
theorem dX12_sumBy_122 : decode cX12_sumBy 122 = .ok (.getfield 155, 3) := by decide +kernel
theorem dX12_sumBy_125 : decode cX12_sumBy 125 = .ok (.iload 6, 2) := by decide +kernel
theorem dX12_sumBy_127 : decode cX12_sumBy 127 = .ok (.iaload, 1) := by decide +kernel
theorem dX12_sumBy_128 : decode cX12_sumBy 128 = .ok (.ifCond .ne 5, 3) := by decide +kernel
theorem dX12_sumBy_131 : decode cX12_sumBy 131 = .ok (.iconst (-1), 1) := by decide +kernel
theorem dX12_sumBy_132 : decode cX12_sumBy 132 = .ok (.ireturn, 1) := by decide +kernel
theorem dX12_sumBy_133 : decode cX12_sumBy 133 = .ok (.iload_n 3, 1) := by decide +kernel
theorem dX12_sumBy_134 : decode cX12_sumBy 134 = .ok (.aload_n 0, 1) := by decide +kernel
theorem dX12_sumBy_135 : decode cX12_sumBy 135 = .ok (.getfield 155, 3) := by decide +kernel
theorem dX12_sumBy_138 : decode cX12_sumBy 138 = .ok (.iload 6, 2) := by decide +kernel
theorem dX12_sumBy_140 : decode cX12_sumBy 140 = .ok (.iaload, 1) := by decide +kernel
theorem dX12_sumBy_141 : decode cX12_sumBy 141 = .ok (.isub, 1) := by decide +kernel
theorem dX12_sumBy_142 : decode cX12_sumBy 142 = .ok (.istore_n 3, 1) := by decide +kernel
theorem dX12_sumBy_143 : decode cX12_sumBy 143 = .ok (.iload 4, 2) := by decide +kernel
theorem dX12_sumBy_145 : decode cX12_sumBy 145 = .ok (.aload_n 0, 1) := by decide +kernel
theorem dX12_sumBy_146 : decode cX12_sumBy 146 = .ok (.getfield 155, 3) := by decide +kernel
theorem dX12_sumBy_149 : decode cX12_sumBy 149 = .ok (.iload 6, 2) := by decide +kernel
theorem dX12_sumBy_151 : decode cX12_sumBy 151 = .ok (.iaload, 1) := by decide +kernel
theorem dX12_sumBy_152 : decode cX12_sumBy 152 = .ok (.iload 5, 2) := by decide +kernel
theorem dX12_sumBy_154 : decode cX12_sumBy 154 = .ok (.imul, 1) := by decide +kernel
theorem dX12_sumBy_155 : decode cX12_sumBy 155 = .ok (.aload_n 0, 1) := by decide +kernel
theorem dX12_sumBy_156 : decode cX12_sumBy 156 = .ok (.getfield 67, 3) := by decide +kernel
theorem dX12_sumBy_159 : decode cX12_sumBy 159 = .ok (.iload 7, 2) := by decide +kernel
theorem dX12_sumBy_161 : decode cX12_sumBy 161 = .ok (.iaload, 1) := by decide +kernel
theorem dX12_sumBy_162 : decode cX12_sumBy 162 = .ok (.iadd, 1) := by decide +kernel
theorem dX12_sumBy_163 : decode cX12_sumBy 163 = .ok (.iadd, 1) := by decide +kernel
theorem dX12_sumBy_164 : decode cX12_sumBy 164 = .ok (.istore 4, 2) := by decide +kernel
theorem dX12_sumBy_166 : decode cX12_sumBy 166 = .ok (.iinc 6 1, 3) := by decide +kernel
theorem dX12_sumBy_169 : decode cX12_sumBy 169 = .ok (.goto (-127), 3) := by decide +kernel
theorem dX12_sumBy_172 : decode cX12_sumBy 172 = .ok (.iinc 5 1, 3) := by decide +kernel
theorem dX12_sumBy_175 : decode cX12_sumBy 175 = .ok (.goto (-143), 3) := by decide +kernel
theorem dX12_sumBy_178 : decode cX12_sumBy 178 = .ok (.iload_n 3, 1) := by decide +kernel
theorem dX12_sumBy_179 : decode cX12_sumBy 179 = .ok (.ifCond .ne 8, 3) := by decide +kernel
theorem dX12_sumBy_182 : decode cX12_sumBy 182 = .ok (.iload 4, 2) := by decide +kernel
theorem dX12_sumBy_184 : decode cX12_sumBy 184 = .ok (.goto 4, 3) := by decide +kernel
theorem dX12_sumBy_187 : decode cX12_sumBy 187 = .ok (.iconst (-1), 1) := by decide +kernel
theorem dX12_sumBy_188 : decode cX12_sumBy 188 = .ok (.ireturn, 1) := by decide +kernel
theorem dX12_asks_0 : decode cX12_asks 0 = .ok (.bipush (-2), 2) := by decide +kernel
theorem dX12_asks_2 : decode cX12_asks 2 = .ok (.istore_n 2, 1) := by decide +kernel
theorem dX12_asks_3 : decode cX12_asks 3 = .ok (.iconst 1, 1) := by decide +kernel
theorem dX12_asks_4 : decode cX12_asks 4 = .ok (.istore_n 3, 1) := by decide +kernel
theorem dX12_asks_5 : decode cX12_asks 5 = .ok (.iload_n 3, 1) := by decide +kernel
theorem dX12_asks_6 : decode cX12_asks 6 = .ok (.iconst 1, 1) := by decide +kernel
theorem dX12_asks_7 : decode cX12_asks 7 = .ok (.aload_n 0, 1) := by decide +kernel
theorem dX12_asks_8 : decode cX12_asks 8 = .ok (.getfield 58, 3) := by decide +kernel
theorem dX12_asks_11 : decode cX12_asks 11 = .ok (.aload_n 0, 1) := by decide +kernel
theorem dX12_asks_12 : decode cX12_asks 12 = .ok (.getfield 248, 3) := by decide +kernel
theorem dX12_asks_15 : decode cX12_asks 15 = .ok (.iaload, 1) := by decide +kernel
theorem dX12_asks_16 : decode cX12_asks 16 = .ok (.ishl, 1) := by decide +kernel
theorem dX12_asks_17 : decode cX12_asks 17 = .ok (.if_icmp .ge 46, 3) := by decide +kernel
theorem dX12_asks_20 : decode cX12_asks 20 = .ok (.aload_n 0, 1) := by decide +kernel
theorem dX12_asks_21 : decode cX12_asks 21 = .ok (.iload_n 3, 1) := by decide +kernel
theorem dX12_asks_22 : decode cX12_asks 22 = .ok (.iload_n 1, 1) := by decide +kernel
theorem dX12_asks_23 : decode cX12_asks 23 = .ok (.invokevirtual 415, 3) := by decide +kernel
theorem dX12_asks_26 : decode cX12_asks 26 = .ok (.istore 4, 2) := by decide +kernel
theorem dX12_asks_28 : decode cX12_asks 28 = .ok (.iload 4, 2) := by decide +kernel
theorem dX12_asks_30 : decode cX12_asks 30 = .ok (.ifCond .lt 27, 3) := by decide +kernel
theorem dX12_asks_33 : decode cX12_asks 33 = .ok (.iload_n 2, 1) := by decide +kernel
theorem dX12_asks_34 : decode cX12_asks 34 = .ok (.ifCond .lt 15, 3) := by decide +kernel
theorem dX12_asks_37 : decode cX12_asks 37 = .ok (.iload 4, 2) := by decide +kernel
theorem dX12_asks_39 : decode cX12_asks 39 = .ok (.aload_n 0, 1) := by decide +kernel
theorem dX12_asks_40 : decode cX12_asks 40 = .ok (.getfield 418, 3) := by decide +kernel
theorem dX12_asks_43 : decode cX12_asks 43 = .ok (.if_icmp .lt 6, 3) := by decide +kernel
theorem dX12_asks_46 : decode cX12_asks 46 = .ok (.goto 11, 3) := by decide +kernel
theorem dX12_asks_49 : decode cX12_asks 49 = .ok (.iload_n 3, 1) := by decide +kernel
theorem dX12_asks_50 : decode cX12_asks 50 = .ok (.istore_n 2, 1) := by decide +kernel
theorem dX12_asks_51 : decode cX12_asks 51 = .ok (.aload_n 0, 1) := by decide +kernel
theorem dX12_asks_52 : decode cX12_asks 52 = .ok (.iload 4, 2) := by decide +kernel
theorem dX12_asks_54 : decode cX12_asks 54 = .ok (.putfield 418, 3) := by decide +kernel
theorem dX12_asks_57 : decode cX12_asks 57 = .ok (.iinc 3 1, 3) := by decide +kernel
theorem dX12_asks_60 : decode cX12_asks 60 = .ok (.goto (-55), 3) := by decide +kernel
theorem dX12_asks_63 : decode cX12_asks 63 = .ok (.iload_n 2, 1) := by decide +kernel
theorem dX12_asks_64 : decode cX12_asks 64 = .ok (.ireturn, 1) := by decide +kernel
theorem dX12_asked_0 : decode cX12_asked 0 = .ok (.iload_n 1, 1) := by decide +kernel
theorem dX12_asked_1 : decode cX12_asked 1 = .ok (.iconst 1, 1) := by decide +kernel
theorem dX12_asked_2 : decode cX12_asked 2 = .ok (.sipush 999, 3) := by decide +kernel
theorem dX12_asked_5 : decode cX12_asked 5 = .ok (.invokestatic 338, 3) := by decide +kernel
theorem dX12_asked_8 : decode cX12_asked 8 = .ok (.ifCond .eq 12, 3) := by decide +kernel
theorem dX12_asked_11 : decode cX12_asked 11 = .ok (.iload_n 2, 1) := by decide +kernel
theorem dX12_asked_12 : decode cX12_asked 12 = .ok (.iconst 0, 1) := by decide +kernel
theorem dX12_asked_13 : decode cX12_asked 13 = .ok (.iconst 1, 1) := by decide +kernel
theorem dX12_asked_14 : decode cX12_asked 14 = .ok (.invokestatic 338, 3) := by decide +kernel
theorem dX12_asked_17 : decode cX12_asked 17 = .ok (.ifCond .ne 5, 3) := by decide +kernel
theorem dX12_asked_20 : decode cX12_asked 20 = .ok (.iconst (-1), 1) := by decide +kernel
theorem dX12_asked_21 : decode cX12_asked 21 = .ok (.ireturn, 1) := by decide +kernel
theorem dX12_asked_22 : decode cX12_asked 22 = .ok (.aload_n 0, 1) := by decide +kernel
theorem dX12_asked_23 : decode cX12_asked 23 = .ok (.iload_n 1, 1) := by decide +kernel
theorem dX12_asked_24 : decode cX12_asked 24 = .ok (.invokevirtual 421, 3) := by decide +kernel
theorem dX12_asked_27 : decode cX12_asked 27 = .ok (.istore_n 3, 1) := by decide +kernel
theorem dX12_asked_28 : decode cX12_asked 28 = .ok (.iload_n 3, 1) := by decide +kernel
theorem dX12_asked_29 : decode cX12_asked 29 = .ok (.ifCond .ge 8, 3) := by decide +kernel
theorem dX12_asked_32 : decode cX12_asked 32 = .ok (.bipush (-2), 2) := by decide +kernel
theorem dX12_asked_34 : decode cX12_asked 34 = .ok (.goto 15, 3) := by decide +kernel
theorem dX12_asked_37 : decode cX12_asked 37 = .ok (.iload_n 2, 1) := by decide +kernel
theorem dX12_asked_38 : decode cX12_asked 38 = .ok (.ifCond .ne 10, 3) := by decide +kernel
theorem dX12_asked_41 : decode cX12_asked 41 = .ok (.aload_n 0, 1) := by decide +kernel
theorem dX12_asked_42 : decode cX12_asked 42 = .ok (.getfield 418, 3) := by decide +kernel
theorem dX12_asked_45 : decode cX12_asked 45 = .ok (.goto 4, 3) := by decide +kernel
theorem dX12_asked_48 : decode cX12_asked 48 = .ok (.iload_n 3, 1) := by decide +kernel
theorem dX12_asked_49 : decode cX12_asked 49 = .ok (.ireturn, 1) := by decide +kernel
theorem dX12_gives_0 : decode cX12_gives 0 = .ok (.iload_n 1, 1) := by decide +kernel
theorem dX12_gives_1 : decode cX12_gives 1 = .ok (.iconst 1, 1) := by decide +kernel
theorem dX12_gives_2 : decode cX12_gives 2 = .ok (.sipush 999, 3) := by decide +kernel
theorem dX12_gives_5 : decode cX12_gives 5 = .ok (.invokestatic 338, 3) := by decide +kernel
theorem dX12_gives_8 : decode cX12_gives 8 = .ok (.ifCond .eq 11, 3) := by decide +kernel
theorem dX12_gives_11 : decode cX12_gives 11 = .ok (.aload_n 0, 1) := by decide +kernel
theorem dX12_gives_12 : decode cX12_gives 12 = .ok (.iload_n 2, 1) := by decide +kernel
theorem dX12_gives_13 : decode cX12_gives 13 = .ok (.invokevirtual 380, 3) := by decide +kernel
theorem dX12_gives_16 : decode cX12_gives 16 = .ok (.ifCond .ne 5, 3) := by decide +kernel
theorem dX12_gives_19 : decode cX12_gives 19 = .ok (.iconst (-1), 1) := by decide +kernel
theorem dX12_gives_20 : decode cX12_gives 20 = .ok (.ireturn, 1) := by decide +kernel
theorem dX12_gives_21 : decode cX12_gives 21 = .ok (.aload_n 0, 1) := by decide +kernel
theorem dX12_gives_22 : decode cX12_gives 22 = .ok (.iload_n 1, 1) := by decide +kernel
theorem dX12_gives_23 : decode cX12_gives 23 = .ok (.invokevirtual 421, 3) := by decide +kernel
theorem dX12_gives_26 : decode cX12_gives 26 = .ok (.istore_n 3, 1) := by decide +kernel
theorem dX12_gives_27 : decode cX12_gives 27 = .ok (.iload_n 3, 1) := by decide +kernel
theorem dX12_gives_28 : decode cX12_gives 28 = .ok (.ifCond .lt 12, 3) := by decide +kernel
theorem dX12_gives_31 : decode cX12_gives 31 = .ok (.aload_n 0, 1) := by decide +kernel
theorem dX12_gives_32 : decode cX12_gives 32 = .ok (.iload_n 3, 1) := by decide +kernel
theorem dX12_gives_33 : decode cX12_gives 33 = .ok (.iload_n 1, 1) := by decide +kernel
theorem dX12_gives_34 : decode cX12_gives 34 = .ok (.invokevirtual 415, 3) := by decide +kernel
theorem dX12_gives_37 : decode cX12_gives 37 = .ok (.ifCond .ge 8, 3) := by decide +kernel
theorem dX12_gives_40 : decode cX12_gives 40 = .ok (.bipush (-2), 2) := by decide +kernel
theorem dX12_gives_42 : decode cX12_gives 42 = .ok (.goto 9, 3) := by decide +kernel
theorem dX12_gives_45 : decode cX12_gives 45 = .ok (.aload_n 0, 1) := by decide +kernel
theorem dX12_gives_46 : decode cX12_gives 46 = .ok (.getfield 155, 3) := by decide +kernel
theorem dX12_gives_49 : decode cX12_gives 49 = .ok (.iload_n 2, 1) := by decide +kernel
theorem dX12_gives_50 : decode cX12_gives 50 = .ok (.iaload, 1) := by decide +kernel
theorem dX12_gives_51 : decode cX12_gives 51 = .ok (.ireturn, 1) := by decide +kernel
theorem dX12_notesRow_0 : decode cX12_notesRow 0 = .ok (.iconst 0, 1) := by decide +kernel
theorem dX12_notesRow_1 : decode cX12_notesRow 1 = .ok (.istore_n 1, 1) := by decide +kernel
theorem dX12_notesRow_2 : decode cX12_notesRow 2 = .ok (.iconst 0, 1) := by decide +kernel
theorem dX12_notesRow_3 : decode cX12_notesRow 3 = .ok (.istore_n 2, 1) := by decide +kernel
theorem dX12_notesRow_4 : decode cX12_notesRow 4 = .ok (.iload_n 2, 1) := by decide +kernel
theorem dX12_notesRow_5 : decode cX12_notesRow 5 = .ok (.aload_n 0, 1) := by decide +kernel
theorem dX12_notesRow_6 : decode cX12_notesRow 6 = .ok (.getfield 49, 3) := by decide +kernel
theorem dX12_notesRow_9 : decode cX12_notesRow 9 = .ok (.aload_n 0, 1) := by decide +kernel
theorem dX12_notesRow_10 : decode cX12_notesRow 10 = .ok (.getfield 248, 3) := by decide +kernel
theorem dX12_notesRow_13 : decode cX12_notesRow 13 = .ok (.iaload, 1) := by decide +kernel
theorem dX12_notesRow_14 : decode cX12_notesRow 14 = .ok (.if_icmp .ge 24, 3) := by decide +kernel
theorem dX12_notesRow_17 : decode cX12_notesRow 17 = .ok (.aload_n 0, 1) := by decide +kernel
theorem dX12_notesRow_18 : decode cX12_notesRow 18 = .ok (.getfield 158, 3) := by decide +kernel
theorem dX12_notesRow_21 : decode cX12_notesRow 21 = .ok (.iload_n 2, 1) := by decide +kernel
theorem dX12_notesRow_22 : decode cX12_notesRow 22 = .ok (.iaload, 1) := by decide +kernel
theorem dX12_notesRow_23 : decode cX12_notesRow 23 = .ok (.ifCond .le 9, 3) := by decide +kernel
theorem dX12_notesRow_26 : decode cX12_notesRow 26 = .ok (.iload_n 1, 1) := by decide +kernel
theorem dX12_notesRow_27 : decode cX12_notesRow 27 = .ok (.iconst 1, 1) := by decide +kernel
theorem dX12_notesRow_28 : decode cX12_notesRow 28 = .ok (.iload_n 2, 1) := by decide +kernel
theorem dX12_notesRow_29 : decode cX12_notesRow 29 = .ok (.ishl, 1) := by decide +kernel
theorem dX12_notesRow_30 : decode cX12_notesRow 30 = .ok (.ior, 1) := by decide +kernel
theorem dX12_notesRow_31 : decode cX12_notesRow 31 = .ok (.istore_n 1, 1) := by decide +kernel
theorem dX12_notesRow_32 : decode cX12_notesRow 32 = .ok (.iinc 2 1, 3) := by decide +kernel
theorem dX12_notesRow_35 : decode cX12_notesRow 35 = .ok (.goto (-31), 3) := by decide +kernel
theorem dX12_notesRow_38 : decode cX12_notesRow 38 = .ok (.aload_n 0, 1) := by decide +kernel
theorem dX12_notesRow_39 : decode cX12_notesRow 39 = .ok (.getfield 424, 3) := by decide +kernel
theorem dX12_notesRow_42 : decode cX12_notesRow 42 = .ok (.lconst 0, 1) := by decide +kernel
theorem dX12_notesRow_43 : decode cX12_notesRow 43 = .ok (.lcmp, 1) := by decide +kernel
theorem dX12_notesRow_44 : decode cX12_notesRow 44 = .ok (.ifCond .ne 28, 3) := by decide +kernel
theorem dX12_notesRow_47 : decode cX12_notesRow 47 = .ok (.iconst 0, 1) := by decide +kernel
theorem dX12_notesRow_48 : decode cX12_notesRow 48 = .ok (.istore_n 2, 1) := by decide +kernel
theorem dX12_notesRow_49 : decode cX12_notesRow 49 = .ok (.iload_n 2, 1) := by decide +kernel
theorem dX12_notesRow_50 : decode cX12_notesRow 50 = .ok (.iconst 5, 1) := by decide +kernel
theorem dX12_notesRow_51 : decode cX12_notesRow 51 = .ok (.if_icmp .ge 21, 3) := by decide +kernel
theorem dX12_notesRow_54 : decode cX12_notesRow 54 = .ok (.aload_n 0, 1) := by decide +kernel
theorem dX12_notesRow_55 : decode cX12_notesRow 55 = .ok (.getfield 161, 3) := by decide +kernel
theorem dX12_notesRow_58 : decode cX12_notesRow 58 = .ok (.iload_n 2, 1) := by decide +kernel
theorem dX12_notesRow_59 : decode cX12_notesRow 59 = .ok (.aload_n 0, 1) := by decide +kernel
theorem dX12_notesRow_60 : decode cX12_notesRow 60 = .ok (.getfield 158, 3) := by decide +kernel
theorem dX12_notesRow_63 : decode cX12_notesRow 63 = .ok (.iload_n 2, 1) := by decide +kernel
theorem dX12_notesRow_64 : decode cX12_notesRow 64 = .ok (.iaload, 1) := by decide +kernel
theorem dX12_notesRow_65 : decode cX12_notesRow 65 = .ok (.iastore, 1) := by decide +kernel
theorem dX12_notesRow_66 : decode cX12_notesRow 66 = .ok (.iinc 2 1, 3) := by decide +kernel
theorem dX12_notesRow_69 : decode cX12_notesRow 69 = .ok (.goto (-20), 3) := by decide +kernel
theorem dX12_notesRow_72 : decode cX12_notesRow 72 = .ok (.aload_n 0, 1) := by decide +kernel
theorem dX12_notesRow_73 : decode cX12_notesRow 73 = .ok (.aload_n 0, 1) := by decide +kernel
theorem dX12_notesRow_74 : decode cX12_notesRow 74 = .ok (.getfield 424, 3) := by decide +kernel
theorem dX12_notesRow_77 : decode cX12_notesRow 77 = .ok (.lconst 0, 1) := by decide +kernel
theorem dX12_notesRow_78 : decode cX12_notesRow 78 = .ok (.lcmp, 1) := by decide +kernel
theorem dX12_notesRow_79 : decode cX12_notesRow 79 = .ok (.ifCond .ne 7, 3) := by decide +kernel
theorem dX12_notesRow_82 : decode cX12_notesRow 82 = .ok (.iload_n 1, 1) := by decide +kernel
theorem dX12_notesRow_83 : decode cX12_notesRow 83 = .ok (.goto 9, 3) := by decide +kernel
theorem dX12_notesRow_86 : decode cX12_notesRow 86 = .ok (.aload_n 0, 1) := by decide +kernel
theorem dX12_notesRow_87 : decode cX12_notesRow 87 = .ok (.getfield 428, 3) := by decide +kernel
theorem dX12_notesRow_90 : decode cX12_notesRow 90 = .ok (.iload_n 1, 1) := by decide +kernel
theorem dX12_notesRow_91 : decode cX12_notesRow 91 = .ok (.iand, 1) := by decide +kernel
theorem dX12_notesRow_92 : decode cX12_notesRow 92 = .ok (.putfield 428, 3) := by decide +kernel
theorem dX12_notesRow_95 : decode cX12_notesRow 95 = .ok (.aload_n 0, 1) := by decide +kernel
theorem dX12_notesRow_96 : decode cX12_notesRow 96 = .ok (.dup, 1) := by decide +kernel
theorem dX12_notesRow_97 : decode cX12_notesRow 97 = .ok (.getfield 424, 3) := by decide +kernel
theorem dX12_notesRow_100 : decode cX12_notesRow 100 = .ok (.lconst 1, 1) := by decide +kernel
theorem dX12_notesRow_101 : decode cX12_notesRow 101 = .ok (.ladd, 1) := by decide +kernel
theorem dX12_notesRow_102 : decode cX12_notesRow 102 = .ok (.putfield 424, 3) := by decide +kernel
theorem dX12_notesRow_105 : decode cX12_notesRow 105 = .ok (.return_, 1) := by decide +kernel
theorem dX12_sumOf_0 : decode cX12_sumOf 0 = .ok (.iconst 0, 1) := by decide +kernel
theorem dX12_sumOf_1 : decode cX12_sumOf 1 = .ok (.istore_n 2, 1) := by decide +kernel
theorem dX12_sumOf_2 : decode cX12_sumOf 2 = .ok (.iconst 0, 1) := by decide +kernel
theorem dX12_sumOf_3 : decode cX12_sumOf 3 = .ok (.istore_n 3, 1) := by decide +kernel
theorem dX12_sumOf_4 : decode cX12_sumOf 4 = .ok (.iload_n 3, 1) := by decide +kernel
theorem dX12_sumOf_5 : decode cX12_sumOf 5 = .ok (.aload_n 0, 1) := by decide +kernel
theorem dX12_sumOf_6 : decode cX12_sumOf 6 = .ok (.getfield 49, 3) := by decide +kernel
theorem dX12_sumOf_9 : decode cX12_sumOf 9 = .ok (.aload_n 0, 1) := by decide +kernel
theorem dX12_sumOf_10 : decode cX12_sumOf 10 = .ok (.getfield 248, 3) := by decide +kernel
theorem dX12_sumOf_13 : decode cX12_sumOf 13 = .ok (.iaload, 1) := by decide +kernel
theorem dX12_sumOf_14 : decode cX12_sumOf 14 = .ok (.if_icmp .ge 61, 3) := by decide +kernel
theorem dX12_sumOf_17 : decode cX12_sumOf 17 = .ok (.iload_n 2, 1) := by decide +kernel
theorem dX12_sumOf_18 : decode cX12_sumOf 18 = .ok (.aload_n 0, 1) := by decide +kernel
theorem dX12_sumOf_19 : decode cX12_sumOf 19 = .ok (.getfield 158, 3) := by decide +kernel
theorem dX12_sumOf_22 : decode cX12_sumOf 22 = .ok (.iload_n 3, 1) := by decide +kernel
theorem dX12_sumOf_23 : decode cX12_sumOf 23 = .ok (.iaload, 1) := by decide +kernel
theorem dX12_sumOf_24 : decode cX12_sumOf 24 = .ok (.iload_n 1, 1) := by decide +kernel
theorem dX12_sumOf_25 : decode cX12_sumOf 25 = .ok (.ifCond .ne 7, 3) := by decide +kernel
theorem dX12_sumOf_28 : decode cX12_sumOf 28 = .ok (.iconst 1, 1) := by decide +kernel
theorem dX12_sumOf_29 : decode cX12_sumOf 29 = .ok (.goto 37, 3) := by decide +kernel
theorem dX12_sumOf_32 : decode cX12_sumOf 32 = .ok (.iload_n 1, 1) := by decide +kernel
theorem dX12_sumOf_33 : decode cX12_sumOf 33 = .ok (.iconst 1, 1) := by decide +kernel
theorem dX12_sumOf_34 : decode cX12_sumOf 34 = .ok (.if_icmp .ne 19, 3) := by decide +kernel
theorem dX12_sumOf_37 : decode cX12_sumOf 37 = .ok (.aload_n 0, 1) := by decide +kernel
theorem dX12_sumOf_38 : decode cX12_sumOf 38 = .ok (.getfield 52, 3) := by decide +kernel
theorem dX12_sumOf_41 : decode cX12_sumOf 41 = .ok (.iconst 5, 1) := by decide +kernel
theorem dX12_sumOf_42 : decode cX12_sumOf 42 = .ok (.aload_n 0, 1) := by decide +kernel
theorem dX12_sumOf_43 : decode cX12_sumOf 43 = .ok (.getfield 248, 3) := by decide +kernel
theorem dX12_sumOf_46 : decode cX12_sumOf 46 = .ok (.imul, 1) := by decide +kernel
theorem dX12_sumOf_47 : decode cX12_sumOf 47 = .ok (.iload_n 3, 1) := by decide +kernel
theorem dX12_sumOf_48 : decode cX12_sumOf 48 = .ok (.iadd, 1) := by decide +kernel
theorem dX12_sumOf_49 : decode cX12_sumOf 49 = .ok (.iaload, 1) := by decide +kernel
theorem dX12_sumOf_50 : decode cX12_sumOf 50 = .ok (.goto 16, 3) := by decide +kernel
theorem dX12_sumOf_53 : decode cX12_sumOf 53 = .ok (.aload_n 0, 1) := by decide +kernel
theorem dX12_sumOf_54 : decode cX12_sumOf 54 = .ok (.getfield 55, 3) := by decide +kernel
theorem dX12_sumOf_57 : decode cX12_sumOf 57 = .ok (.iconst 5, 1) := by decide +kernel
theorem dX12_sumOf_58 : decode cX12_sumOf 58 = .ok (.aload_n 0, 1) := by decide +kernel
theorem dX12_sumOf_59 : decode cX12_sumOf 59 = .ok (.getfield 248, 3) := by decide +kernel
theorem dX12_sumOf_62 : decode cX12_sumOf 62 = .ok (.imul, 1) := by decide +kernel
theorem dX12_sumOf_63 : decode cX12_sumOf 63 = .ok (.iload_n 3, 1) := by decide +kernel
theorem dX12_sumOf_64 : decode cX12_sumOf 64 = .ok (.iadd, 1) := by decide +kernel
theorem dX12_sumOf_65 : decode cX12_sumOf 65 = .ok (.iaload, 1) := by decide +kernel
theorem dX12_sumOf_66 : decode cX12_sumOf 66 = .ok (.imul, 1) := by decide +kernel
theorem dX12_sumOf_67 : decode cX12_sumOf 67 = .ok (.iadd, 1) := by decide +kernel
theorem dX12_sumOf_68 : decode cX12_sumOf 68 = .ok (.istore_n 2, 1) := by decide +kernel
theorem dX12_sumOf_69 : decode cX12_sumOf 69 = .ok (.iinc 3 1, 3) := by decide +kernel
theorem dX12_sumOf_72 : decode cX12_sumOf 72 = .ok (.goto (-68), 3) := by decide +kernel
theorem dX12_sumOf_75 : decode cX12_sumOf 75 = .ok (.iload_n 2, 1) := by decide +kernel
theorem dX12_sumOf_76 : decode cX12_sumOf 76 = .ok (.ireturn, 1) := by decide +kernel
theorem dX12_nextNumbers_0 : decode cX12_nextNumbers 0 = .ok (.aload_n 0, 1) := by decide +kernel
theorem dX12_nextNumbers_1 : decode cX12_nextNumbers 1 = .ok (.getfield 49, 3) := by decide +kernel
theorem dX12_nextNumbers_4 : decode cX12_nextNumbers 4 = .ok (.aload_n 0, 1) := by decide +kernel
theorem dX12_nextNumbers_5 : decode cX12_nextNumbers 5 = .ok (.getfield 248, 3) := by decide +kernel
theorem dX12_nextNumbers_8 : decode cX12_nextNumbers 8 = .ok (.iaload, 1) := by decide +kernel
theorem dX12_nextNumbers_9 : decode cX12_nextNumbers 9 = .ok (.iconst 2, 1) := by decide +kernel
theorem dX12_nextNumbers_10 : decode cX12_nextNumbers 10 = .ok (.isub, 1) := by decide +kernel
theorem dX12_nextNumbers_11 : decode cX12_nextNumbers 11 = .ok (.istore_n 2, 1) := by decide +kernel
theorem dX12_nextNumbers_12 : decode cX12_nextNumbers 12 = .ok (.iload_n 2, 1) := by decide +kernel
theorem dX12_nextNumbers_13 : decode cX12_nextNumbers 13 = .ok (.ifCond .lt 67, 3) := by decide +kernel
theorem dX12_nextNumbers_16 : decode cX12_nextNumbers 16 = .ok (.iconst 0, 1) := by decide +kernel
theorem dX12_nextNumbers_17 : decode cX12_nextNumbers 17 = .ok (.istore_n 3, 1) := by decide +kernel
theorem dX12_nextNumbers_18 : decode cX12_nextNumbers 18 = .ok (.iconst 0, 1) := by decide +kernel
theorem dX12_nextNumbers_19 : decode cX12_nextNumbers 19 = .ok (.istore 4, 2) := by decide +kernel
theorem dX12_nextNumbers_21 : decode cX12_nextNumbers 21 = .ok (.iload 4, 2) := by decide +kernel
theorem dX12_nextNumbers_23 : decode cX12_nextNumbers 23 = .ok (.iload_n 2, 1) := by decide +kernel
theorem dX12_nextNumbers_24 : decode cX12_nextNumbers 24 = .ok (.if_icmp .ge 19, 3) := by decide +kernel
theorem dX12_nextNumbers_27 : decode cX12_nextNumbers 27 = .ok (.iload_n 3, 1) := by decide +kernel
theorem dX12_nextNumbers_28 : decode cX12_nextNumbers 28 = .ok (.aload_n 0, 1) := by decide +kernel
theorem dX12_nextNumbers_29 : decode cX12_nextNumbers 29 = .ok (.getfield 158, 3) := by decide +kernel
theorem dX12_nextNumbers_32 : decode cX12_nextNumbers 32 = .ok (.iload 4, 2) := by decide +kernel
theorem dX12_nextNumbers_34 : decode cX12_nextNumbers 34 = .ok (.iaload, 1) := by decide +kernel
theorem dX12_nextNumbers_35 : decode cX12_nextNumbers 35 = .ok (.iadd, 1) := by decide +kernel
theorem dX12_nextNumbers_36 : decode cX12_nextNumbers 36 = .ok (.istore_n 3, 1) := by decide +kernel
theorem dX12_nextNumbers_37 : decode cX12_nextNumbers 37 = .ok (.iinc 4 1, 3) := by decide +kernel
theorem dX12_nextNumbers_40 : decode cX12_nextNumbers 40 = .ok (.goto (-19), 3) := by decide +kernel
theorem dX12_nextNumbers_43 : decode cX12_nextNumbers 43 = .ok (.iload_n 3, 1) := by decide +kernel
theorem dX12_nextNumbers_44 : decode cX12_nextNumbers 44 = .ok (.aload_n 0, 1) := by decide +kernel
theorem dX12_nextNumbers_45 : decode cX12_nextNumbers 45 = .ok (.getfield 158, 3) := by decide +kernel
theorem dX12_nextNumbers_48 : decode cX12_nextNumbers 48 = .ok (.iload_n 2, 1) := by decide +kernel
theorem dX12_nextNumbers_49 : decode cX12_nextNumbers 49 = .ok (.iaload, 1) := by decide +kernel
theorem dX12_nextNumbers_50 : decode cX12_nextNumbers 50 = .ok (.iadd, 1) := by decide +kernel
theorem dX12_nextNumbers_51 : decode cX12_nextNumbers 51 = .ok (.iload_n 1, 1) := by decide +kernel
theorem dX12_nextNumbers_52 : decode cX12_nextNumbers 52 = .ok (.if_icmp .ge 15, 3) := by decide +kernel
theorem dX12_nextNumbers_55 : decode cX12_nextNumbers 55 = .ok (.aload_n 0, 1) := by decide +kernel
theorem dX12_nextNumbers_56 : decode cX12_nextNumbers 56 = .ok (.getfield 158, 3) := by decide +kernel
theorem dX12_nextNumbers_59 : decode cX12_nextNumbers 59 = .ok (.iload_n 2, 1) := by decide +kernel
theorem dX12_nextNumbers_60 : decode cX12_nextNumbers 60 = .ok (.dup2, 1) := by decide +kernel
theorem dX12_nextNumbers_61 : decode cX12_nextNumbers 61 = .ok (.iaload, 1) := by decide +kernel
theorem dX12_nextNumbers_62 : decode cX12_nextNumbers 62 = .ok (.iconst 1, 1) := by decide +kernel
theorem dX12_nextNumbers_63 : decode cX12_nextNumbers 63 = .ok (.iadd, 1) := by decide +kernel
theorem dX12_nextNumbers_64 : decode cX12_nextNumbers 64 = .ok (.iastore, 1) := by decide +kernel
theorem dX12_nextNumbers_65 : decode cX12_nextNumbers 65 = .ok (.iconst 1, 1) := by decide +kernel
theorem dX12_nextNumbers_66 : decode cX12_nextNumbers 66 = .ok (.ireturn, 1) := by decide +kernel
theorem dX12_nextNumbers_67 : decode cX12_nextNumbers 67 = .ok (.aload_n 0, 1) := by decide +kernel
theorem dX12_nextNumbers_68 : decode cX12_nextNumbers 68 = .ok (.getfield 158, 3) := by decide +kernel
theorem dX12_nextNumbers_71 : decode cX12_nextNumbers 71 = .ok (.iload_n 2, 1) := by decide +kernel
theorem dX12_nextNumbers_72 : decode cX12_nextNumbers 72 = .ok (.iconst 0, 1) := by decide +kernel
theorem dX12_nextNumbers_73 : decode cX12_nextNumbers 73 = .ok (.iastore, 1) := by decide +kernel
theorem dX12_nextNumbers_74 : decode cX12_nextNumbers 74 = .ok (.iinc 2 (-1), 3) := by decide +kernel
theorem dX12_nextNumbers_77 : decode cX12_nextNumbers 77 = .ok (.goto (-65), 3) := by decide +kernel
theorem dX12_nextNumbers_80 : decode cX12_nextNumbers 80 = .ok (.iconst 0, 1) := by decide +kernel
theorem dX12_nextNumbers_81 : decode cX12_nextNumbers 81 = .ok (.ireturn, 1) := by decide +kernel
theorem dX12_fillsRows_0 : decode cX12_fillsRows 0 = .ok (.aload_n 0, 1) := by decide +kernel
theorem dX12_fillsRows_1 : decode cX12_fillsRows 1 = .ok (.lconst 0, 1) := by decide +kernel
theorem dX12_fillsRows_2 : decode cX12_fillsRows 2 = .ok (.putfield 424, 3) := by decide +kernel
theorem dX12_fillsRows_5 : decode cX12_fillsRows 5 = .ok (.aload_n 0, 1) := by decide +kernel
theorem dX12_fillsRows_6 : decode cX12_fillsRows 6 = .ok (.iconst 0, 1) := by decide +kernel
theorem dX12_fillsRows_7 : decode cX12_fillsRows 7 = .ok (.putfield 428, 3) := by decide +kernel
theorem dX12_fillsRows_10 : decode cX12_fillsRows 10 = .ok (.iconst 0, 1) := by decide +kernel
theorem dX12_fillsRows_11 : decode cX12_fillsRows 11 = .ok (.istore 4, 2) := by decide +kernel
theorem dX12_fillsRows_13 : decode cX12_fillsRows 13 = .ok (.iload 4, 2) := by decide +kernel
theorem dX12_fillsRows_15 : decode cX12_fillsRows 15 = .ok (.iconst 5, 1) := by decide +kernel
theorem dX12_fillsRows_16 : decode cX12_fillsRows 16 = .ok (.if_icmp .ge 17, 3) := by decide +kernel
theorem dX12_fillsRows_19 : decode cX12_fillsRows 19 = .ok (.aload_n 0, 1) := by decide +kernel
theorem dX12_fillsRows_20 : decode cX12_fillsRows 20 = .ok (.getfield 158, 3) := by decide +kernel
theorem dX12_fillsRows_23 : decode cX12_fillsRows 23 = .ok (.iload 4, 2) := by decide +kernel
theorem dX12_fillsRows_25 : decode cX12_fillsRows 25 = .ok (.iconst 0, 1) := by decide +kernel
theorem dX12_fillsRows_26 : decode cX12_fillsRows 26 = .ok (.iastore, 1) := by decide +kernel
theorem dX12_fillsRows_27 : decode cX12_fillsRows 27 = .ok (.iinc 4 1, 3) := by decide +kernel
theorem dX12_fillsRows_30 : decode cX12_fillsRows 30 = .ok (.goto (-17), 3) := by decide +kernel
theorem dX12_fillsRows_33 : decode cX12_fillsRows 33 = .ok (.aload_n 0, 1) := by decide +kernel
theorem dX12_fillsRows_34 : decode cX12_fillsRows 34 = .ok (.getfield 49, 3) := by decide +kernel
theorem dX12_fillsRows_37 : decode cX12_fillsRows 37 = .ok (.aload_n 0, 1) := by decide +kernel
theorem dX12_fillsRows_38 : decode cX12_fillsRows 38 = .ok (.getfield 248, 3) := by decide +kernel
theorem dX12_fillsRows_41 : decode cX12_fillsRows 41 = .ok (.iaload, 1) := by decide +kernel
theorem dX12_fillsRows_42 : decode cX12_fillsRows 42 = .ok (.ifCond .ne 20, 3) := by decide +kernel
theorem dX12_fillsRows_45 : decode cX12_fillsRows 45 = .ok (.iload_n 1, 1) := by decide +kernel
theorem dX12_fillsRows_46 : decode cX12_fillsRows 46 = .ok (.ifCond .ne 15, 3) := by decide +kernel
theorem dX12_fillsRows_49 : decode cX12_fillsRows 49 = .ok (.iload_n 2, 1) := by decide +kernel
theorem dX12_fillsRows_50 : decode cX12_fillsRows 50 = .ok (.ifCond .ne 11, 3) := by decide +kernel
theorem dX12_fillsRows_53 : decode cX12_fillsRows 53 = .ok (.iload_n 3, 1) := by decide +kernel
theorem dX12_fillsRows_54 : decode cX12_fillsRows 54 = .ok (.ifCond .ne 7, 3) := by decide +kernel
theorem dX12_fillsRows_57 : decode cX12_fillsRows 57 = .ok (.aload_n 0, 1) := by decide +kernel
theorem dX12_fillsRows_58 : decode cX12_fillsRows 58 = .ok (.invokevirtual 431, 3) := by decide +kernel
theorem dX12_fillsRows_61 : decode cX12_fillsRows 61 = .ok (.return_, 1) := by decide +kernel
theorem dX12_fillsRows_62 : decode cX12_fillsRows 62 = .ok (.aload_n 0, 1) := by decide +kernel
theorem dX12_fillsRows_63 : decode cX12_fillsRows 63 = .ok (.getfield 49, 3) := by decide +kernel
theorem dX12_fillsRows_66 : decode cX12_fillsRows 66 = .ok (.aload_n 0, 1) := by decide +kernel
theorem dX12_fillsRows_67 : decode cX12_fillsRows 67 = .ok (.getfield 248, 3) := by decide +kernel
theorem dX12_fillsRows_70 : decode cX12_fillsRows 70 = .ok (.iaload, 1) := by decide +kernel
theorem dX12_fillsRows_71 : decode cX12_fillsRows 71 = .ok (.iconst 1, 1) := by decide +kernel
theorem dX12_fillsRows_72 : decode cX12_fillsRows 72 = .ok (.isub, 1) := by decide +kernel
theorem dX12_fillsRows_73 : decode cX12_fillsRows 73 = .ok (.istore 4, 2) := by decide +kernel
theorem dX12_fillsRows_75 : decode cX12_fillsRows 75 = .ok (.iconst 1, 1) := by decide +kernel
theorem dX12_fillsRows_76 : decode cX12_fillsRows 76 = .ok (.istore 5, 2) := by decide +kernel
theorem dX12_fillsRows_78 : decode cX12_fillsRows 78 = .ok (.iload 5, 2) := by decide +kernel
theorem dX12_fillsRows_80 : decode cX12_fillsRows 80 = .ok (.ifCond .eq 65, 3) := by decide +kernel
theorem dX12_fillsRows_83 : decode cX12_fillsRows 83 = .ok (.aload_n 0, 1) := by decide +kernel
theorem dX12_fillsRows_84 : decode cX12_fillsRows 84 = .ok (.getfield 158, 3) := by decide +kernel
theorem dX12_fillsRows_87 : decode cX12_fillsRows 87 = .ok (.iload 4, 2) := by decide +kernel
theorem dX12_fillsRows_89 : decode cX12_fillsRows 89 = .ok (.iconst 0, 1) := by decide +kernel
theorem dX12_fillsRows_90 : decode cX12_fillsRows 90 = .ok (.iastore, 1) := by decide +kernel
theorem dX12_fillsRows_91 : decode cX12_fillsRows 91 = .ok (.aload_n 0, 1) := by decide +kernel
theorem dX12_fillsRows_92 : decode cX12_fillsRows 92 = .ok (.getfield 158, 3) := by decide +kernel
theorem dX12_fillsRows_95 : decode cX12_fillsRows 95 = .ok (.iload 4, 2) := by decide +kernel
theorem dX12_fillsRows_97 : decode cX12_fillsRows 97 = .ok (.iload_n 1, 1) := by decide +kernel
theorem dX12_fillsRows_98 : decode cX12_fillsRows 98 = .ok (.aload_n 0, 1) := by decide +kernel
theorem dX12_fillsRows_99 : decode cX12_fillsRows 99 = .ok (.iconst 0, 1) := by decide +kernel
theorem dX12_fillsRows_100 : decode cX12_fillsRows 100 = .ok (.invokevirtual 434, 3) := by decide +kernel
theorem dX12_fillsRows_103 : decode cX12_fillsRows 103 = .ok (.isub, 1) := by decide +kernel
theorem dX12_fillsRows_104 : decode cX12_fillsRows 104 = .ok (.iastore, 1) := by decide +kernel
theorem dX12_fillsRows_105 : decode cX12_fillsRows 105 = .ok (.aload_n 0, 1) := by decide +kernel
theorem dX12_fillsRows_106 : decode cX12_fillsRows 106 = .ok (.iconst 1, 1) := by decide +kernel
theorem dX12_fillsRows_107 : decode cX12_fillsRows 107 = .ok (.invokevirtual 434, 3) := by decide +kernel
theorem dX12_fillsRows_110 : decode cX12_fillsRows 110 = .ok (.iload_n 2, 1) := by decide +kernel
theorem dX12_fillsRows_111 : decode cX12_fillsRows 111 = .ok (.if_icmp .ne 16, 3) := by decide +kernel
theorem dX12_fillsRows_114 : decode cX12_fillsRows 114 = .ok (.aload_n 0, 1) := by decide +kernel
theorem dX12_fillsRows_115 : decode cX12_fillsRows 115 = .ok (.iconst 2, 1) := by decide +kernel
theorem dX12_fillsRows_116 : decode cX12_fillsRows 116 = .ok (.invokevirtual 434, 3) := by decide +kernel
theorem dX12_fillsRows_119 : decode cX12_fillsRows 119 = .ok (.iload_n 3, 1) := by decide +kernel
theorem dX12_fillsRows_120 : decode cX12_fillsRows 120 = .ok (.if_icmp .ne 7, 3) := by decide +kernel
theorem dX12_fillsRows_123 : decode cX12_fillsRows 123 = .ok (.aload_n 0, 1) := by decide +kernel
theorem dX12_fillsRows_124 : decode cX12_fillsRows 124 = .ok (.invokevirtual 431, 3) := by decide +kernel
theorem dX12_fillsRows_127 : decode cX12_fillsRows 127 = .ok (.aload_n 0, 1) := by decide +kernel
theorem dX12_fillsRows_128 : decode cX12_fillsRows 128 = .ok (.getfield 158, 3) := by decide +kernel
theorem dX12_fillsRows_131 : decode cX12_fillsRows 131 = .ok (.iload 4, 2) := by decide +kernel
theorem dX12_fillsRows_133 : decode cX12_fillsRows 133 = .ok (.iconst 0, 1) := by decide +kernel
theorem dX12_fillsRows_134 : decode cX12_fillsRows 134 = .ok (.iastore, 1) := by decide +kernel
theorem dX12_fillsRows_135 : decode cX12_fillsRows 135 = .ok (.aload_n 0, 1) := by decide +kernel
theorem dX12_fillsRows_136 : decode cX12_fillsRows 136 = .ok (.iload_n 1, 1) := by decide +kernel
theorem dX12_fillsRows_137 : decode cX12_fillsRows 137 = .ok (.invokevirtual 437, 3) := by decide +kernel
theorem dX12_fillsRows_140 : decode cX12_fillsRows 140 = .ok (.istore 5, 2) := by decide +kernel
theorem dX12_fillsRows_142 : decode cX12_fillsRows 142 = .ok (.goto (-64), 3) := by decide +kernel
theorem dX12_fillsRows_145 : decode cX12_fillsRows 145 = .ok (.return_, 1) := by decide +kernel
theorem dX12_isThimble_0 : decode cX12_isThimble 0 = .ok (.iload_n 0, 1) := by decide +kernel
theorem dX12_isThimble_1 : decode cX12_isThimble 1 = .ok (.iconst 0, 1) := by decide +kernel
theorem dX12_isThimble_2 : decode cX12_isThimble 2 = .ok (.bipush 60, 2) := by decide +kernel
theorem dX12_isThimble_4 : decode cX12_isThimble 4 = .ok (.invokestatic 338, 3) := by decide +kernel
theorem dX12_isThimble_7 : decode cX12_isThimble 7 = .ok (.ifCond .eq 15, 3) := by decide +kernel
theorem dX12_isThimble_10 : decode cX12_isThimble 10 = .ok (.iload_n 1, 1) := by decide +kernel
theorem dX12_isThimble_11 : decode cX12_isThimble 11 = .ok (.ifCond .lt 11, 3) := by decide +kernel
theorem dX12_isThimble_14 : decode cX12_isThimble 14 = .ok (.iload_n 2, 1) := by decide +kernel
theorem dX12_isThimble_15 : decode cX12_isThimble 15 = .ok (.ifCond .lt 7, 3) := by decide +kernel
theorem dX12_isThimble_18 : decode cX12_isThimble 18 = .ok (.iconst 1, 1) := by decide +kernel
theorem dX12_isThimble_19 : decode cX12_isThimble 19 = .ok (.goto 4, 3) := by decide +kernel
theorem dX12_isThimble_22 : decode cX12_isThimble 22 = .ok (.iconst 0, 1) := by decide +kernel
theorem dX12_isThimble_23 : decode cX12_isThimble 23 = .ok (.ireturn, 1) := by decide +kernel
theorem dX12_thimble_0 : decode cX12_thimble 0 = .ok (.iload_n 1, 1) := by decide +kernel
theorem dX12_thimble_1 : decode cX12_thimble 1 = .ok (.iload_n 2, 1) := by decide +kernel
theorem dX12_thimble_2 : decode cX12_thimble 2 = .ok (.iload_n 3, 1) := by decide +kernel
theorem dX12_thimble_3 : decode cX12_thimble 3 = .ok (.invokestatic 440, 3) := by decide +kernel
theorem dX12_thimble_6 : decode cX12_thimble 6 = .ok (.ifCond .ne 7, 3) := by decide +kernel
theorem dX12_thimble_9 : decode cX12_thimble 9 = .ok (.ldc2_w 365, 3) := by decide +kernel
theorem dX12_thimble_12 : decode cX12_thimble 12 = .ok (.lreturn, 1) := by decide +kernel
theorem dX12_thimble_13 : decode cX12_thimble 13 = .ok (.aload_n 0, 1) := by decide +kernel
theorem dX12_thimble_14 : decode cX12_thimble 14 = .ok (.iload_n 1, 1) := by decide +kernel
theorem dX12_thimble_15 : decode cX12_thimble 15 = .ok (.iload_n 2, 1) := by decide +kernel
theorem dX12_thimble_16 : decode cX12_thimble 16 = .ok (.iload_n 3, 1) := by decide +kernel
theorem dX12_thimble_17 : decode cX12_thimble 17 = .ok (.invokevirtual 443, 3) := by decide +kernel
theorem dX12_thimble_20 : decode cX12_thimble 20 = .ok (.aload_n 0, 1) := by decide +kernel
theorem dX12_thimble_21 : decode cX12_thimble 21 = .ok (.getfield 424, 3) := by decide +kernel
theorem dX12_thimble_24 : decode cX12_thimble 24 = .ok (.lreturn, 1) := by decide +kernel
theorem dX12_surely_0 : decode cX12_surely 0 = .ok (.iload_n 1, 1) := by decide +kernel
theorem dX12_surely_1 : decode cX12_surely 1 = .ok (.iload_n 2, 1) := by decide +kernel
theorem dX12_surely_2 : decode cX12_surely 2 = .ok (.iload_n 3, 1) := by decide +kernel
theorem dX12_surely_3 : decode cX12_surely 3 = .ok (.invokestatic 440, 3) := by decide +kernel
theorem dX12_surely_6 : decode cX12_surely 6 = .ok (.ifCond .ne 5, 3) := by decide +kernel
theorem dX12_surely_9 : decode cX12_surely 9 = .ok (.iconst (-1), 1) := by decide +kernel
theorem dX12_surely_10 : decode cX12_surely 10 = .ok (.ireturn, 1) := by decide +kernel
theorem dX12_surely_11 : decode cX12_surely 11 = .ok (.aload_n 0, 1) := by decide +kernel
theorem dX12_surely_12 : decode cX12_surely 12 = .ok (.iload_n 1, 1) := by decide +kernel
theorem dX12_surely_13 : decode cX12_surely 13 = .ok (.iload_n 2, 1) := by decide +kernel
theorem dX12_surely_14 : decode cX12_surely 14 = .ok (.iload_n 3, 1) := by decide +kernel
theorem dX12_surely_15 : decode cX12_surely 15 = .ok (.invokevirtual 443, 3) := by decide +kernel
theorem dX12_surely_18 : decode cX12_surely 18 = .ok (.aload_n 0, 1) := by decide +kernel
theorem dX12_surely_19 : decode cX12_surely 19 = .ok (.getfield 428, 3) := by decide +kernel
theorem dX12_surely_22 : decode cX12_surely 22 = .ok (.ireturn, 1) := by decide +kernel
theorem dX12_firstRow_0 : decode cX12_firstRow 0 = .ok (.iload_n 1, 1) := by decide +kernel
theorem dX12_firstRow_1 : decode cX12_firstRow 1 = .ok (.iload_n 2, 1) := by decide +kernel
theorem dX12_firstRow_2 : decode cX12_firstRow 2 = .ok (.iload_n 3, 1) := by decide +kernel
theorem dX12_firstRow_3 : decode cX12_firstRow 3 = .ok (.invokestatic 440, 3) := by decide +kernel
theorem dX12_firstRow_6 : decode cX12_firstRow 6 = .ok (.ifCond .eq 12, 3) := by decide +kernel
theorem dX12_firstRow_9 : decode cX12_firstRow 9 = .ok (.aload_n 0, 1) := by decide +kernel
theorem dX12_firstRow_10 : decode cX12_firstRow 10 = .ok (.iload 4, 2) := by decide +kernel
theorem dX12_firstRow_12 : decode cX12_firstRow 12 = .ok (.invokevirtual 389, 3) := by decide +kernel
theorem dX12_firstRow_15 : decode cX12_firstRow 15 = .ok (.ifCond .ne 5, 3) := by decide +kernel
theorem dX12_firstRow_18 : decode cX12_firstRow 18 = .ok (.iconst (-1), 1) := by decide +kernel
theorem dX12_firstRow_19 : decode cX12_firstRow 19 = .ok (.ireturn, 1) := by decide +kernel
theorem dX12_firstRow_20 : decode cX12_firstRow 20 = .ok (.aload_n 0, 1) := by decide +kernel
theorem dX12_firstRow_21 : decode cX12_firstRow 21 = .ok (.iload_n 1, 1) := by decide +kernel
theorem dX12_firstRow_22 : decode cX12_firstRow 22 = .ok (.iload_n 2, 1) := by decide +kernel
theorem dX12_firstRow_23 : decode cX12_firstRow 23 = .ok (.iload_n 3, 1) := by decide +kernel
theorem dX12_firstRow_24 : decode cX12_firstRow 24 = .ok (.invokevirtual 443, 3) := by decide +kernel
theorem dX12_firstRow_27 : decode cX12_firstRow 27 = .ok (.aload_n 0, 1) := by decide +kernel
theorem dX12_firstRow_28 : decode cX12_firstRow 28 = .ok (.getfield 424, 3) := by decide +kernel
theorem dX12_firstRow_31 : decode cX12_firstRow 31 = .ok (.lconst 0, 1) := by decide +kernel
theorem dX12_firstRow_32 : decode cX12_firstRow 32 = .ok (.lcmp, 1) := by decide +kernel
theorem dX12_firstRow_33 : decode cX12_firstRow 33 = .ok (.ifCond .ne 8, 3) := by decide +kernel
theorem dX12_firstRow_36 : decode cX12_firstRow 36 = .ok (.bipush (-2), 2) := by decide +kernel
theorem dX12_firstRow_38 : decode cX12_firstRow 38 = .ok (.goto 10, 3) := by decide +kernel
theorem dX12_firstRow_41 : decode cX12_firstRow 41 = .ok (.aload_n 0, 1) := by decide +kernel
theorem dX12_firstRow_42 : decode cX12_firstRow 42 = .ok (.getfield 161, 3) := by decide +kernel
theorem dX12_firstRow_45 : decode cX12_firstRow 45 = .ok (.iload 4, 2) := by decide +kernel
theorem dX12_firstRow_47 : decode cX12_firstRow 47 = .ok (.iaload, 1) := by decide +kernel
theorem dX12_firstRow_48 : decode cX12_firstRow 48 = .ok (.ireturn, 1) := by decide +kernel
theorem dX12_tell__0 : decode cX12_tell_ 0 = .ok (.aload_n 0, 1) := by decide +kernel
theorem dX12_tell__1 : decode cX12_tell_ 1 = .ok (.getfield 272, 3) := by decide +kernel
theorem dX12_tell__4 : decode cX12_tell_ 4 = .ok (.bipush 20, 2) := by decide +kernel
theorem dX12_tell__6 : decode cX12_tell_ 6 = .ok (.if_icmp .eq 24, 3) := by decide +kernel
theorem dX12_tell__9 : decode cX12_tell_ 9 = .ok (.iload_n 1, 1) := by decide +kernel
theorem dX12_tell__10 : decode cX12_tell_ 10 = .ok (.iconst 0, 1) := by decide +kernel
theorem dX12_tell__11 : decode cX12_tell_ 11 = .ok (.bipush 99, 2) := by decide +kernel
theorem dX12_tell__13 : decode cX12_tell_ 13 = .ok (.invokestatic 338, 3) := by decide +kernel
theorem dX12_tell__16 : decode cX12_tell_ 16 = .ok (.ifCond .eq 14, 3) := by decide +kernel
theorem dX12_tell__19 : decode cX12_tell_ 19 = .ok (.iload_n 2, 1) := by decide +kernel
theorem dX12_tell__20 : decode cX12_tell_ 20 = .ok (.iconst 0, 1) := by decide +kernel
theorem dX12_tell__21 : decode cX12_tell_ 21 = .ok (.sipush 9999, 3) := by decide +kernel
theorem dX12_tell__24 : decode cX12_tell_ 24 = .ok (.invokestatic 338, 3) := by decide +kernel
theorem dX12_tell__27 : decode cX12_tell_ 27 = .ok (.ifCond .ne 5, 3) := by decide +kernel
theorem dX12_tell__30 : decode cX12_tell_ 30 = .ok (.iconst (-1), 1) := by decide +kernel
theorem dX12_tell__31 : decode cX12_tell_ 31 = .ok (.ireturn, 1) := by decide +kernel
theorem dX12_tell__32 : decode cX12_tell_ 32 = .ok (.aload_n 0, 1) := by decide +kernel
theorem dX12_tell__33 : decode cX12_tell_ 33 = .ok (.getfield 164, 3) := by decide +kernel
theorem dX12_tell__36 : decode cX12_tell_ 36 = .ok (.aload_n 0, 1) := by decide +kernel
theorem dX12_tell__37 : decode cX12_tell_ 37 = .ok (.getfield 272, 3) := by decide +kernel
theorem dX12_tell__40 : decode cX12_tell_ 40 = .ok (.iload_n 1, 1) := by decide +kernel
theorem dX12_tell__41 : decode cX12_tell_ 41 = .ok (.iastore, 1) := by decide +kernel
theorem dX12_tell__42 : decode cX12_tell_ 42 = .ok (.aload_n 0, 1) := by decide +kernel
theorem dX12_tell__43 : decode cX12_tell_ 43 = .ok (.getfield 167, 3) := by decide +kernel
theorem dX12_tell__46 : decode cX12_tell_ 46 = .ok (.aload_n 0, 1) := by decide +kernel
theorem dX12_tell__47 : decode cX12_tell_ 47 = .ok (.getfield 272, 3) := by decide +kernel
theorem dX12_tell__50 : decode cX12_tell_ 50 = .ok (.iload_n 2, 1) := by decide +kernel
theorem dX12_tell__51 : decode cX12_tell_ 51 = .ok (.iastore, 1) := by decide +kernel
theorem dX12_tell__52 : decode cX12_tell_ 52 = .ok (.aload_n 0, 1) := by decide +kernel
theorem dX12_tell__53 : decode cX12_tell_ 53 = .ok (.dup, 1) := by decide +kernel
theorem dX12_tell__54 : decode cX12_tell_ 54 = .ok (.getfield 272, 3) := by decide +kernel
theorem dX12_tell__57 : decode cX12_tell_ 57 = .ok (.iconst 1, 1) := by decide +kernel
theorem dX12_tell__58 : decode cX12_tell_ 58 = .ok (.iadd, 1) := by decide +kernel
theorem dX12_tell__59 : decode cX12_tell_ 59 = .ok (.putfield 272, 3) := by decide +kernel
theorem dX12_tell__62 : decode cX12_tell_ 62 = .ok (.aload_n 0, 1) := by decide +kernel
theorem dX12_tell__63 : decode cX12_tell_ 63 = .ok (.getfield 272, 3) := by decide +kernel
theorem dX12_tell__66 : decode cX12_tell_ 66 = .ok (.iconst 1, 1) := by decide +kernel
theorem dX12_tell__67 : decode cX12_tell_ 67 = .ok (.isub, 1) := by decide +kernel
theorem dX12_tell__68 : decode cX12_tell_ 68 = .ok (.ireturn, 1) := by decide +kernel
theorem dX12_forget_0 : decode cX12_forget 0 = .ok (.aload_n 0, 1) := by decide +kernel
theorem dX12_forget_1 : decode cX12_forget 1 = .ok (.getfield 272, 3) := by decide +kernel
theorem dX12_forget_4 : decode cX12_forget 4 = .ok (.istore_n 1, 1) := by decide +kernel
theorem dX12_forget_5 : decode cX12_forget 5 = .ok (.aload_n 0, 1) := by decide +kernel
theorem dX12_forget_6 : decode cX12_forget 6 = .ok (.iconst 0, 1) := by decide +kernel
theorem dX12_forget_7 : decode cX12_forget 7 = .ok (.putfield 272, 3) := by decide +kernel
theorem dX12_forget_10 : decode cX12_forget 10 = .ok (.iload_n 1, 1) := by decide +kernel
theorem dX12_forget_11 : decode cX12_forget 11 = .ok (.ireturn, 1) := by decide +kernel
theorem dX12_lastWeek_0 : decode cX12_lastWeek 0 = .ok (.iconst (-1), 1) := by decide +kernel
theorem dX12_lastWeek_1 : decode cX12_lastWeek 1 = .ok (.istore_n 2, 1) := by decide +kernel
theorem dX12_lastWeek_2 : decode cX12_lastWeek 2 = .ok (.iconst 0, 1) := by decide +kernel
theorem dX12_lastWeek_3 : decode cX12_lastWeek 3 = .ok (.istore_n 3, 1) := by decide +kernel
theorem dX12_lastWeek_4 : decode cX12_lastWeek 4 = .ok (.iload_n 3, 1) := by decide +kernel
theorem dX12_lastWeek_5 : decode cX12_lastWeek 5 = .ok (.iload_n 1, 1) := by decide +kernel
theorem dX12_lastWeek_6 : decode cX12_lastWeek 6 = .ok (.if_icmp .ge 26, 3) := by decide +kernel
theorem dX12_lastWeek_9 : decode cX12_lastWeek 9 = .ok (.aload_n 0, 1) := by decide +kernel
theorem dX12_lastWeek_10 : decode cX12_lastWeek 10 = .ok (.getfield 164, 3) := by decide +kernel
theorem dX12_lastWeek_13 : decode cX12_lastWeek 13 = .ok (.iload_n 3, 1) := by decide +kernel
theorem dX12_lastWeek_14 : decode cX12_lastWeek 14 = .ok (.iaload, 1) := by decide +kernel
theorem dX12_lastWeek_15 : decode cX12_lastWeek 15 = .ok (.iload_n 2, 1) := by decide +kernel
theorem dX12_lastWeek_16 : decode cX12_lastWeek 16 = .ok (.if_icmp .le 10, 3) := by decide +kernel
theorem dX12_lastWeek_19 : decode cX12_lastWeek 19 = .ok (.aload_n 0, 1) := by decide +kernel
theorem dX12_lastWeek_20 : decode cX12_lastWeek 20 = .ok (.getfield 164, 3) := by decide +kernel
theorem dX12_lastWeek_23 : decode cX12_lastWeek 23 = .ok (.iload_n 3, 1) := by decide +kernel
theorem dX12_lastWeek_24 : decode cX12_lastWeek 24 = .ok (.iaload, 1) := by decide +kernel
theorem dX12_lastWeek_25 : decode cX12_lastWeek 25 = .ok (.istore_n 2, 1) := by decide +kernel
theorem dX12_lastWeek_26 : decode cX12_lastWeek 26 = .ok (.iinc 3 1, 3) := by decide +kernel
theorem dX12_lastWeek_29 : decode cX12_lastWeek 29 = .ok (.goto (-25), 3) := by decide +kernel
theorem dX12_lastWeek_32 : decode cX12_lastWeek 32 = .ok (.iload_n 2, 1) := by decide +kernel
theorem dX12_lastWeek_33 : decode cX12_lastWeek 33 = .ok (.ireturn, 1) := by decide +kernel
theorem dX12_firstOff_0 : decode cX12_firstOff 0 = .ok (.bipush (-2), 2) := by decide +kernel
theorem dX12_firstOff_2 : decode cX12_firstOff 2 = .ok (.istore_n 2, 1) := by decide +kernel
theorem dX12_firstOff_3 : decode cX12_firstOff 3 = .ok (.aload_n 0, 1) := by decide +kernel
theorem dX12_firstOff_4 : decode cX12_firstOff 4 = .ok (.iload_n 1, 1) := by decide +kernel
theorem dX12_firstOff_5 : decode cX12_firstOff 5 = .ok (.invokevirtual 446, 3) := by decide +kernel
theorem dX12_firstOff_8 : decode cX12_firstOff 8 = .ok (.istore_n 3, 1) := by decide +kernel
theorem dX12_firstOff_9 : decode cX12_firstOff 9 = .ok (.iconst 0, 1) := by decide +kernel
theorem dX12_firstOff_10 : decode cX12_firstOff 10 = .ok (.istore 4, 2) := by decide +kernel
theorem dX12_firstOff_12 : decode cX12_firstOff 12 = .ok (.iload 4, 2) := by decide +kernel
theorem dX12_firstOff_14 : decode cX12_firstOff 14 = .ok (.iload_n 3, 1) := by decide +kernel
theorem dX12_firstOff_15 : decode cX12_firstOff 15 = .ok (.if_icmp .gt 71, 3) := by decide +kernel
theorem dX12_firstOff_18 : decode cX12_firstOff 18 = .ok (.aload_n 0, 1) := by decide +kernel
theorem dX12_firstOff_19 : decode cX12_firstOff 19 = .ok (.invokevirtual 396, 3) := by decide +kernel
theorem dX12_firstOff_22 : decode cX12_firstOff 22 = .ok (.aload_n 0, 1) := by decide +kernel
theorem dX12_firstOff_23 : decode cX12_firstOff 23 = .ok (.invokevirtual 352, 3) := by decide +kernel
theorem dX12_firstOff_26 : decode cX12_firstOff 26 = .ok (.istore 5, 2) := by decide +kernel
theorem dX12_firstOff_28 : decode cX12_firstOff 28 = .ok (.iconst 0, 1) := by decide +kernel
theorem dX12_firstOff_29 : decode cX12_firstOff 29 = .ok (.istore 6, 2) := by decide +kernel
theorem dX12_firstOff_31 : decode cX12_firstOff 31 = .ok (.iload 6, 2) := by decide +kernel
theorem dX12_firstOff_33 : decode cX12_firstOff 33 = .ok (.iload_n 1, 1) := by decide +kernel
theorem dX12_firstOff_34 : decode cX12_firstOff 34 = .ok (.if_icmp .ge 46, 3) := by decide +kernel
theorem dX12_firstOff_37 : decode cX12_firstOff 37 = .ok (.aload_n 0, 1) := by decide +kernel
theorem dX12_firstOff_38 : decode cX12_firstOff 38 = .ok (.getfield 164, 3) := by decide +kernel
theorem dX12_firstOff_41 : decode cX12_firstOff 41 = .ok (.iload 6, 2) := by decide +kernel
theorem dX12_firstOff_43 : decode cX12_firstOff 43 = .ok (.iaload, 1) := by decide +kernel
theorem dX12_firstOff_44 : decode cX12_firstOff 44 = .ok (.iload 4, 2) := by decide +kernel
theorem dX12_firstOff_46 : decode cX12_firstOff 46 = .ok (.if_icmp .ne 28, 3) := by decide +kernel
theorem dX12_firstOff_49 : decode cX12_firstOff 49 = .ok (.aload_n 0, 1) := by decide +kernel
theorem dX12_firstOff_50 : decode cX12_firstOff 50 = .ok (.getfield 167, 3) := by decide +kernel
theorem dX12_firstOff_53 : decode cX12_firstOff 53 = .ok (.iload 6, 2) := by decide +kernel
theorem dX12_firstOff_55 : decode cX12_firstOff 55 = .ok (.iaload, 1) := by decide +kernel
theorem dX12_firstOff_56 : decode cX12_firstOff 56 = .ok (.iload 5, 2) := by decide +kernel
theorem dX12_firstOff_58 : decode cX12_firstOff 58 = .ok (.if_icmp .eq 16, 3) := by decide +kernel

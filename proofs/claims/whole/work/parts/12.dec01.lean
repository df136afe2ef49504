theorem dX4_law_7 : decode cX4_law 7 = .ok (.astore_n 1, 1) := by decide +kernel
theorem dX4_law_8 : decode cX4_law 8 = .ok (.aload_n 0, 1) := by decide +kernel
theorem dX4_law_9 : decode cX4_law 9 = .ok (.bipush 61, 2) := by decide +kernel
theorem dX4_law_11 : decode cX4_law 11 = .ok (.invokevirtual 117, 3) := by decide +kernel
theorem dX4_law_14 : decode cX4_law 14 = .ok (.ifCond .ne 5, 3) := by decide +kernel
theorem dX4_law_17 : decode cX4_law 17 = .ok (.iconst 0, 1) := by decide +kernel
theorem dX4_law_18 : decode cX4_law 18 = .ok (.ireturn, 1) := by decide +kernel
theorem dX4_law_19 : decode cX4_law 19 = .ok (.iconst 0, 1) := by decide +kernel
theorem dX4_law_20 : decode cX4_law 20 = .ok (.istore_n 2, 1) := by decide +kernel
theorem dX4_law_21 : decode cX4_law 21 = .ok (.iload_n 2, 1) := by decide +kernel
theorem dX4_law_22 : decode cX4_law 22 = .ok (.iconst 4, 1) := by decide +kernel
theorem dX4_law_23 : decode cX4_law 23 = .ok (.if_icmp .gt 135, 3) := by decide +kernel
theorem dX4_law_26 : decode cX4_law 26 = .ok (.aload_n 0, 1) := by decide +kernel
theorem dX4_law_27 : decode cX4_law 27 = .ok (.getfield 12, 3) := by decide +kernel
theorem dX4_law_30 : decode cX4_law 30 = .ok (.aload_n 0, 1) := by decide +kernel
theorem dX4_law_31 : decode cX4_law 31 = .ok (.getfield 37, 3) := by decide +kernel
theorem dX4_law_34 : decode cX4_law 34 = .ok (.invokevirtual 64, 3) := by decide +kernel
theorem dX4_law_37 : decode cX4_law 37 = .ok (.sipush 136, 3) := by decide +kernel
theorem dX4_law_40 : decode cX4_law 40 = .ok (.if_icmp .ne 118, 3) := by decide +kernel
theorem dX4_law_43 : decode cX4_law 43 = .ok (.iload_n 2, 1) := by decide +kernel
theorem dX4_law_44 : decode cX4_law 44 = .ok (.iconst 4, 1) := by decide +kernel
theorem dX4_law_45 : decode cX4_law 45 = .ok (.if_icmp .ne 9, 3) := by decide +kernel
theorem dX4_law_48 : decode cX4_law 48 = .ok (.aload_n 0, 1) := by decide +kernel
theorem dX4_law_49 : decode cX4_law 49 = .ok (.iconst 2, 1) := by decide +kernel
theorem dX4_law_50 : decode cX4_law 50 = .ok (.invokevirtual 90, 3) := by decide +kernel
theorem dX4_law_53 : decode cX4_law 53 = .ok (.ireturn, 1) := by decide +kernel
theorem dX4_law_54 : decode cX4_law 54 = .ok (.aload_n 0, 1) := by decide +kernel
theorem dX4_law_55 : decode cX4_law 55 = .ok (.sipush 136, 3) := by decide +kernel
theorem dX4_law_58 : decode cX4_law 58 = .ok (.invokevirtual 117, 3) := by decide +kernel
theorem dX4_law_61 : decode cX4_law 61 = .ok (.ifCond .eq 38, 3) := by decide +kernel
theorem dX4_law_64 : decode cX4_law 64 = .ok (.aload_n 0, 1) := by decide +kernel
theorem dX4_law_65 : decode cX4_law 65 = .ok (.iconst 0, 1) := by decide +kernel
theorem dX4_law_66 : decode cX4_law 66 = .ok (.invokevirtual 190, 3) := by decide +kernel
theorem dX4_law_69 : decode cX4_law 69 = .ok (.ifCond .eq 30, 3) := by decide +kernel
theorem dX4_law_72 : decode cX4_law 72 = .ok (.aload_n 0, 1) := by decide +kernel
theorem dX4_law_73 : decode cX4_law 73 = .ok (.bipush 60, 2) := by decide +kernel
theorem dX4_law_75 : decode cX4_law 75 = .ok (.invokevirtual 117, 3) := by decide +kernel
theorem dX4_law_78 : decode cX4_law 78 = .ok (.ifCond .eq 21, 3) := by decide +kernel
theorem dX4_law_81 : decode cX4_law 81 = .ok (.aload_n 0, 1) := by decide +kernel
theorem dX4_law_82 : decode cX4_law 82 = .ok (.iconst 0, 1) := by decide +kernel
theorem dX4_law_83 : decode cX4_law 83 = .ok (.invokevirtual 190, 3) := by decide +kernel
theorem dX4_law_86 : decode cX4_law 86 = .ok (.ifCond .eq 13, 3) := by decide +kernel
theorem dX4_law_89 : decode cX4_law 89 = .ok (.aload_n 0, 1) := by decide +kernel
theorem dX4_law_90 : decode cX4_law 90 = .ok (.sipush 137, 3) := by decide +kernel
theorem dX4_law_93 : decode cX4_law 93 = .ok (.invokevirtual 117, 3) := by decide +kernel
theorem dX4_law_96 : decode cX4_law 96 = .ok (.ifCond .ne 5, 3) := by decide +kernel
theorem dX4_law_99 : decode cX4_law 99 = .ok (.iconst 0, 1) := by decide +kernel
theorem dX4_law_100 : decode cX4_law 100 = .ok (.ireturn, 1) := by decide +kernel
theorem dX4_law_101 : decode cX4_law 101 = .ok (.aload_n 1, 1) := by decide +kernel
theorem dX4_law_102 : decode cX4_law 102 = .ok (.bipush (-11), 2) := by decide +kernel
theorem dX4_law_104 : decode cX4_law 104 = .ok (.invokevirtual 193, 3) := by decide +kernel
theorem dX4_law_107 : decode cX4_law 107 = .ok (.aload_n 1, 1) := by decide +kernel
theorem dX4_law_108 : decode cX4_law 108 = .ok (.getfield 154, 3) := by decide +kernel
theorem dX4_law_111 : decode cX4_law 111 = .ok (.istore_n 3, 1) := by decide +kernel
theorem dX4_law_112 : decode cX4_law 112 = .ok (.aload_n 1, 1) := by decide +kernel
theorem dX4_law_113 : decode cX4_law 113 = .ok (.iconst 0, 1) := by decide +kernel
theorem dX4_law_114 : decode cX4_law 114 = .ok (.invokevirtual 193, 3) := by decide +kernel
theorem dX4_law_117 : decode cX4_law 117 = .ok (.aload_n 0, 1) := by decide +kernel
theorem dX4_law_118 : decode cX4_law 118 = .ok (.iconst 0, 1) := by decide +kernel
theorem dX4_law_119 : decode cX4_law 119 = .ok (.invokevirtual 190, 3) := by decide +kernel
theorem dX4_law_122 : decode cX4_law 122 = .ok (.ifCond .eq 13, 3) := by decide +kernel
theorem dX4_law_125 : decode cX4_law 125 = .ok (.aload_n 0, 1) := by decide +kernel
theorem dX4_law_126 : decode cX4_law 126 = .ok (.sipush 138, 3) := by decide +kernel
theorem dX4_law_129 : decode cX4_law 129 = .ok (.invokevirtual 117, 3) := by decide +kernel
theorem dX4_law_132 : decode cX4_law 132 = .ok (.ifCond .ne 5, 3) := by decide +kernel
theorem dX4_law_135 : decode cX4_law 135 = .ok (.iconst 0, 1) := by decide +kernel
theorem dX4_law_136 : decode cX4_law 136 = .ok (.ireturn, 1) := by decide +kernel
theorem dX4_law_137 : decode cX4_law 137 = .ok (.aload_n 1, 1) := by decide +kernel
theorem dX4_law_138 : decode cX4_law 138 = .ok (.bipush (-12), 2) := by decide +kernel
theorem dX4_law_140 : decode cX4_law 140 = .ok (.invokevirtual 193, 3) := by decide +kernel
theorem dX4_law_143 : decode cX4_law 143 = .ok (.aload_n 1, 1) := by decide +kernel
theorem dX4_law_144 : decode cX4_law 144 = .ok (.iload_n 3, 1) := by decide +kernel
theorem dX4_law_145 : decode cX4_law 145 = .ok (.aload_n 1, 1) := by decide +kernel
theorem dX4_law_146 : decode cX4_law 146 = .ok (.getfield 154, 3) := by decide +kernel
theorem dX4_law_149 : decode cX4_law 149 = .ok (.invokevirtual 197, 3) := by decide +kernel
theorem dX4_law_152 : decode cX4_law 152 = .ok (.iinc 2 1, 3) := by decide +kernel
theorem dX4_law_155 : decode cX4_law 155 = .ok (.goto (-134), 3) := by decide +kernel
theorem dX4_law_158 : decode cX4_law 158 = .ok (.aload_n 0, 1) := by decide +kernel
theorem dX4_law_159 : decode cX4_law 159 = .ok (.iconst 0, 1) := by decide +kernel
theorem dX4_law_160 : decode cX4_law 160 = .ok (.invokevirtual 190, 3) := by decide +kernel
theorem dX4_law_163 : decode cX4_law 163 = .ok (.ifCond .ne 5, 3) := by decide +kernel
theorem dX4_law_166 : decode cX4_law 166 = .ok (.iconst 0, 1) := by decide +kernel
theorem dX4_law_167 : decode cX4_law 167 = .ok (.ireturn, 1) := by decide +kernel
theorem dX4_law_168 : decode cX4_law 168 = .ok (.aload_n 1, 1) := by decide +kernel
theorem dX4_law_169 : decode cX4_law 169 = .ok (.bipush (-12), 2) := by decide +kernel
theorem dX4_law_171 : decode cX4_law 171 = .ok (.invokevirtual 193, 3) := by decide +kernel
theorem dX4_law_174 : decode cX4_law 174 = .ok (.iconst 1, 1) := by decide +kernel
theorem dX4_law_175 : decode cX4_law 175 = .ok (.ireturn, 1) := by decide +kernel
theorem dX4_sum_0 : decode cX4_sum 0 = .ok (.iconst 0, 1) := by decide +kernel
theorem dX4_sum_1 : decode cX4_sum 1 = .ok (.istore_n 2, 1) := by decide +kernel
theorem dX4_sum_2 : decode cX4_sum 2 = .ok (.iconst 0, 1) := by decide +kernel
theorem dX4_sum_3 : decode cX4_sum 3 = .ok (.istore_n 3, 1) := by decide +kernel
theorem dX4_sum_4 : decode cX4_sum 4 = .ok (.iconst 0, 1) := by decide +kernel
theorem dX4_sum_5 : decode cX4_sum 5 = .ok (.istore 4, 2) := by decide +kernel
theorem dX4_sum_7 : decode cX4_sum 7 = .ok (.iload 4, 2) := by decide +kernel
theorem dX4_sum_9 : decode cX4_sum 9 = .ok (.sipush 400, 3) := by decide +kernel
theorem dX4_sum_12 : decode cX4_sum 12 = .ok (.if_icmp .gt 120, 3) := by decide +kernel
theorem dX4_sum_15 : decode cX4_sum 15 = .ok (.aload_n 0, 1) := by decide +kernel
theorem dX4_sum_16 : decode cX4_sum 16 = .ok (.iload_n 1, 1) := by decide +kernel
theorem dX4_sum_17 : decode cX4_sum 17 = .ok (.invokevirtual 201, 3) := by decide +kernel
theorem dX4_sum_20 : decode cX4_sum 20 = .ok (.ifCond .ne 5, 3) := by decide +kernel
theorem dX4_sum_23 : decode cX4_sum 23 = .ok (.iconst 0, 1) := by decide +kernel
theorem dX4_sum_24 : decode cX4_sum 24 = .ok (.ireturn, 1) := by decide +kernel
theorem dX4_sum_25 : decode cX4_sum 25 = .ok (.aload_n 0, 1) := by decide +kernel
theorem dX4_sum_26 : decode cX4_sum 26 = .ok (.getfield 33, 3) := by decide +kernel
theorem dX4_sum_29 : decode cX4_sum 29 = .ok (.getfield 150, 3) := by decide +kernel
theorem dX4_sum_32 : decode cX4_sum 32 = .ok (.iload_n 3, 1) := by decide +kernel
theorem dX4_sum_33 : decode cX4_sum 33 = .ok (.invokevirtual 204, 3) := by decide +kernel
theorem dX4_sum_36 : decode cX4_sum 36 = .ok (.iconst 0, 1) := by decide +kernel
theorem dX4_sum_37 : decode cX4_sum 37 = .ok (.istore_n 3, 1) := by decide +kernel
theorem dX4_sum_38 : decode cX4_sum 38 = .ok (.aload_n 0, 1) := by decide +kernel
theorem dX4_sum_39 : decode cX4_sum 39 = .ok (.getfield 12, 3) := by decide +kernel
theorem dX4_sum_42 : decode cX4_sum 42 = .ok (.aload_n 0, 1) := by decide +kernel
theorem dX4_sum_43 : decode cX4_sum 43 = .ok (.getfield 37, 3) := by decide +kernel
theorem dX4_sum_46 : decode cX4_sum 46 = .ok (.invokevirtual 64, 3) := by decide +kernel
theorem dX4_sum_49 : decode cX4_sum 49 = .ok (.istore 5, 2) := by decide +kernel
theorem dX4_sum_51 : decode cX4_sum 51 = .ok (.iload 5, 2) := by decide +kernel
theorem dX4_sum_53 : decode cX4_sum 53 = .ok (.bipush 42, 2) := by decide +kernel
theorem dX4_sum_55 : decode cX4_sum 55 = .ok (.if_icmp .eq 10, 3) := by decide +kernel
theorem dX4_sum_58 : decode cX4_sum 58 = .ok (.iload 5, 2) := by decide +kernel
theorem dX4_sum_60 : decode cX4_sum 60 = .ok (.bipush 47, 2) := by decide +kernel
theorem dX4_sum_62 : decode cX4_sum 62 = .ok (.if_icmp .ne 9, 3) := by decide +kernel
theorem dX4_sum_65 : decode cX4_sum 65 = .ok (.iload 5, 2) := by decide +kernel
theorem dX4_sum_67 : decode cX4_sum 67 = .ok (.istore_n 3, 1) := by decide +kernel
theorem dX4_sum_68 : decode cX4_sum 68 = .ok (.goto 17, 3) := by decide +kernel
theorem dX4_sum_71 : decode cX4_sum 71 = .ok (.aload_n 0, 1) := by decide +kernel
theorem dX4_sum_72 : decode cX4_sum 72 = .ok (.getfield 33, 3) := by decide +kernel
theorem dX4_sum_75 : decode cX4_sum 75 = .ok (.getfield 150, 3) := by decide +kernel
theorem dX4_sum_78 : decode cX4_sum 78 = .ok (.iload_n 2, 1) := by decide +kernel
theorem dX4_sum_79 : decode cX4_sum 79 = .ok (.invokevirtual 204, 3) := by decide +kernel
theorem dX4_sum_82 : decode cX4_sum 82 = .ok (.iload 5, 2) := by decide +kernel
theorem dX4_sum_84 : decode cX4_sum 84 = .ok (.istore_n 2, 1) := by decide +kernel
theorem dX4_sum_85 : decode cX4_sum 85 = .ok (.iload 5, 2) := by decide +kernel
theorem dX4_sum_87 : decode cX4_sum 87 = .ok (.bipush 42, 2) := by decide +kernel
theorem dX4_sum_89 : decode cX4_sum 89 = .ok (.if_icmp .eq 26, 3) := by decide +kernel
theorem dX4_sum_92 : decode cX4_sum 92 = .ok (.iload 5, 2) := by decide +kernel
theorem dX4_sum_94 : decode cX4_sum 94 = .ok (.bipush 47, 2) := by decide +kernel
theorem dX4_sum_96 : decode cX4_sum 96 = .ok (.if_icmp .eq 19, 3) := by decide +kernel
theorem dX4_sum_99 : decode cX4_sum 99 = .ok (.iload 5, 2) := by decide +kernel
theorem dX4_sum_101 : decode cX4_sum 101 = .ok (.bipush 43, 2) := by decide +kernel
theorem dX4_sum_103 : decode cX4_sum 103 = .ok (.if_icmp .eq 12, 3) := by decide +kernel
theorem dX4_sum_106 : decode cX4_sum 106 = .ok (.iload 5, 2) := by decide +kernel
theorem dX4_sum_108 : decode cX4_sum 108 = .ok (.bipush 45, 2) := by decide +kernel
theorem dX4_sum_110 : decode cX4_sum 110 = .ok (.if_icmp .eq 5, 3) := by decide +kernel
theorem dX4_sum_113 : decode cX4_sum 113 = .ok (.iconst 1, 1) := by decide +kernel
theorem dX4_sum_114 : decode cX4_sum 114 = .ok (.ireturn, 1) := by decide +kernel
theorem dX4_sum_115 : decode cX4_sum 115 = .ok (.aload_n 0, 1) := by decide +kernel
theorem dX4_sum_116 : decode cX4_sum 116 = .ok (.iload 5, 2) := by decide +kernel
theorem dX4_sum_118 : decode cX4_sum 118 = .ok (.invokevirtual 117, 3) := by decide +kernel
theorem dX4_sum_121 : decode cX4_sum 121 = .ok (.ifCond .ne 5, 3) := by decide +kernel
theorem dX4_sum_124 : decode cX4_sum 124 = .ok (.iconst 0, 1) := by decide +kernel
theorem dX4_sum_125 : decode cX4_sum 125 = .ok (.ireturn, 1) := by decide +kernel
theorem dX4_sum_126 : decode cX4_sum 126 = .ok (.iinc 4 1, 3) := by decide +kernel
theorem dX4_sum_129 : decode cX4_sum 129 = .ok (.goto (-122), 3) := by decide +kernel
theorem dX4_sum_132 : decode cX4_sum 132 = .ok (.iconst 0, 1) := by decide +kernel
theorem dX4_sum_133 : decode cX4_sum 133 = .ok (.ireturn, 1) := by decide +kernel
theorem dX4_unit_0 : decode cX4_unit 0 = .ok (.aload_n 0, 1) := by decide +kernel
theorem dX4_unit_1 : decode cX4_unit 1 = .ok (.getfield 12, 3) := by decide +kernel
theorem dX4_unit_4 : decode cX4_unit 4 = .ok (.aload_n 0, 1) := by decide +kernel
theorem dX4_unit_5 : decode cX4_unit 5 = .ok (.getfield 37, 3) := by decide +kernel
theorem dX4_unit_8 : decode cX4_unit 8 = .ok (.invokevirtual 64, 3) := by decide +kernel
theorem dX4_unit_11 : decode cX4_unit 11 = .ok (.istore_n 2, 1) := by decide +kernel
theorem dX4_unit_12 : decode cX4_unit 12 = .ok (.iload_n 2, 1) := by decide +kernel
theorem dX4_unit_13 : decode cX4_unit 13 = .ok (.iconst 3, 1) := by decide +kernel
theorem dX4_unit_14 : decode cX4_unit 14 = .ok (.if_icmp .ne 31, 3) := by decide +kernel
theorem dX4_unit_17 : decode cX4_unit 17 = .ok (.aload_n 0, 1) := by decide +kernel
theorem dX4_unit_18 : decode cX4_unit 18 = .ok (.getfield 33, 3) := by decide +kernel
theorem dX4_unit_21 : decode cX4_unit 21 = .ok (.getfield 150, 3) := by decide +kernel
theorem dX4_unit_24 : decode cX4_unit 24 = .ok (.aload_n 0, 1) := by decide +kernel
theorem dX4_unit_25 : decode cX4_unit 25 = .ok (.getfield 12, 3) := by decide +kernel
theorem dX4_unit_28 : decode cX4_unit 28 = .ok (.aload_n 0, 1) := by decide +kernel
theorem dX4_unit_29 : decode cX4_unit 29 = .ok (.getfield 37, 3) := by decide +kernel
theorem dX4_unit_32 : decode cX4_unit 32 = .ok (.invokevirtual 207, 3) := by decide +kernel
theorem dX4_unit_35 : decode cX4_unit 35 = .ok (.l2i, 1) := by decide +kernel
theorem dX4_unit_36 : decode cX4_unit 36 = .ok (.invokevirtual 193, 3) := by decide +kernel
theorem dX4_unit_39 : decode cX4_unit 39 = .ok (.aload_n 0, 1) := by decide +kernel
theorem dX4_unit_40 : decode cX4_unit 40 = .ok (.iconst 3, 1) := by decide +kernel
theorem dX4_unit_41 : decode cX4_unit 41 = .ok (.invokevirtual 117, 3) := by decide +kernel
theorem dX4_unit_44 : decode cX4_unit 44 = .ok (.ireturn, 1) := by decide +kernel
theorem dX4_unit_45 : decode cX4_unit 45 = .ok (.iload_n 2, 1) := by decide +kernel
theorem dX4_unit_46 : decode cX4_unit 46 = .ok (.sipush 139, 3) := by decide +kernel
theorem dX4_unit_49 : decode cX4_unit 49 = .ok (.if_icmp .lt 33, 3) := by decide +kernel
theorem dX4_unit_52 : decode cX4_unit 52 = .ok (.iload_n 2, 1) := by decide +kernel
theorem dX4_unit_53 : decode cX4_unit 53 = .ok (.sipush 144, 3) := by decide +kernel
theorem dX4_unit_56 : decode cX4_unit 56 = .ok (.if_icmp .gt 26, 3) := by decide +kernel
theorem dX4_unit_59 : decode cX4_unit 59 = .ok (.aload_n 0, 1) := by decide +kernel
theorem dX4_unit_60 : decode cX4_unit 60 = .ok (.getfield 33, 3) := by decide +kernel
theorem dX4_unit_63 : decode cX4_unit 63 = .ok (.getfield 150, 3) := by decide +kernel
theorem dX4_unit_66 : decode cX4_unit 66 = .ok (.iconst (-1), 1) := by decide +kernel
theorem dX4_unit_67 : decode cX4_unit 67 = .ok (.iload_n 2, 1) := by decide +kernel
theorem dX4_unit_68 : decode cX4_unit 68 = .ok (.sipush 139, 3) := by decide +kernel
theorem dX4_unit_71 : decode cX4_unit 71 = .ok (.isub, 1) := by decide +kernel
theorem dX4_unit_72 : decode cX4_unit 72 = .ok (.isub, 1) := by decide +kernel
theorem dX4_unit_73 : decode cX4_unit 73 = .ok (.invokevirtual 193, 3) := by decide +kernel
theorem dX4_unit_76 : decode cX4_unit 76 = .ok (.aload_n 0, 1) := by decide +kernel
theorem dX4_unit_77 : decode cX4_unit 77 = .ok (.iload_n 2, 1) := by decide +kernel
theorem dX4_unit_78 : decode cX4_unit 78 = .ok (.invokevirtual 117, 3) := by decide +kernel
theorem dX4_unit_81 : decode cX4_unit 81 = .ok (.ireturn, 1) := by decide +kernel
theorem dX4_unit_82 : decode cX4_unit 82 = .ok (.iload_n 2, 1) := by decide +kernel
theorem dX4_unit_83 : decode cX4_unit 83 = .ok (.bipush 40, 2) := by decide +kernel
theorem dX4_unit_85 : decode cX4_unit 85 = .ok (.if_icmp .ne 15, 3) := by decide +kernel
theorem dX4_unit_88 : decode cX4_unit 88 = .ok (.iload_n 1, 1) := by decide +kernel
theorem dX4_unit_89 : decode cX4_unit 89 = .ok (.bipush 6, 2) := by decide +kernel
theorem dX4_unit_91 : decode cX4_unit 91 = .ok (.if_icmp .lt 9, 3) := by decide +kernel
theorem dX4_unit_94 : decode cX4_unit 94 = .ok (.aload_n 0, 1) := by decide +kernel
theorem dX4_unit_95 : decode cX4_unit 95 = .ok (.iconst 2, 1) := by decide +kernel
theorem dX4_unit_96 : decode cX4_unit 96 = .ok (.invokevirtual 90, 3) := by decide +kernel
theorem dX4_unit_99 : decode cX4_unit 99 = .ok (.ireturn, 1) := by decide +kernel
theorem dX4_unit_100 : decode cX4_unit 100 = .ok (.aload_n 0, 1) := by decide +kernel
theorem dX4_unit_101 : decode cX4_unit 101 = .ok (.bipush 40, 2) := by decide +kernel
theorem dX4_unit_103 : decode cX4_unit 103 = .ok (.invokevirtual 117, 3) := by decide +kernel
theorem dX4_unit_106 : decode cX4_unit 106 = .ok (.ifCond .eq 26, 3) := by decide +kernel
theorem dX4_unit_109 : decode cX4_unit 109 = .ok (.aload_n 0, 1) := by decide +kernel
theorem dX4_unit_110 : decode cX4_unit 110 = .ok (.iload_n 1, 1) := by decide +kernel
theorem dX4_unit_111 : decode cX4_unit 111 = .ok (.iconst 1, 1) := by decide +kernel
theorem dX4_unit_112 : decode cX4_unit 112 = .ok (.iadd, 1) := by decide +kernel
theorem dX4_unit_113 : decode cX4_unit 113 = .ok (.invokevirtual 190, 3) := by decide +kernel
theorem dX4_unit_116 : decode cX4_unit 116 = .ok (.ifCond .eq 16, 3) := by decide +kernel
theorem dX4_unit_119 : decode cX4_unit 119 = .ok (.aload_n 0, 1) := by decide +kernel
theorem dX4_unit_120 : decode cX4_unit 120 = .ok (.bipush 41, 2) := by decide +kernel
theorem dX4_unit_122 : decode cX4_unit 122 = .ok (.invokevirtual 117, 3) := by decide +kernel
theorem dX4_unit_125 : decode cX4_unit 125 = .ok (.ifCond .eq 7, 3) := by decide +kernel
theorem dX4_unit_128 : decode cX4_unit 128 = .ok (.iconst 1, 1) := by decide +kernel
theorem dX4_unit_129 : decode cX4_unit 129 = .ok (.goto 4, 3) := by decide +kernel
theorem dX4_unit_132 : decode cX4_unit 132 = .ok (.iconst 0, 1) := by decide +kernel
theorem dX4_unit_133 : decode cX4_unit 133 = .ok (.ireturn, 1) := by decide +kernel
theorem dX4_opens_0 : decode cX4_opens 0 = .ok (.iload_n 2, 1) := by decide +kernel
theorem dX4_opens_1 : decode cX4_opens 1 = .ok (.iload_n 3, 1) := by decide +kernel
theorem dX4_opens_2 : decode cX4_opens 2 = .ok (.if_icmp .lt 11, 3) := by decide +kernel
theorem dX4_opens_5 : decode cX4_opens 5 = .ok (.aload_n 0, 1) := by decide +kernel
theorem dX4_opens_6 : decode cX4_opens 6 = .ok (.iconst 2, 1) := by decide +kernel
theorem dX4_opens_7 : decode cX4_opens 7 = .ok (.invokevirtual 90, 3) := by decide +kernel
theorem dX4_opens_10 : decode cX4_opens 10 = .ok (.goto 8, 3) := by decide +kernel
theorem dX4_opens_13 : decode cX4_opens 13 = .ok (.aload_n 0, 1) := by decide +kernel
theorem dX4_opens_14 : decode cX4_opens 14 = .ok (.iload_n 1, 1) := by decide +kernel
theorem dX4_opens_15 : decode cX4_opens 15 = .ok (.invokevirtual 117, 3) := by decide +kernel
theorem dX4_opens_18 : decode cX4_opens 18 = .ok (.ireturn, 1) := by decide +kernel
theorem dX4_number_0 : decode cX4_number 0 = .ok (.aload_n 0, 1) := by decide +kernel
theorem dX4_number_1 : decode cX4_number 1 = .ok (.getfield 12, 3) := by decide +kernel
theorem dX4_number_4 : decode cX4_number 4 = .ok (.aload_n 0, 1) := by decide +kernel
theorem dX4_number_5 : decode cX4_number 5 = .ok (.getfield 37, 3) := by decide +kernel
theorem dX4_number_8 : decode cX4_number 8 = .ok (.invokevirtual 207, 3) := by decide +kernel
theorem dX4_number_11 : decode cX4_number 11 = .ok (.lstore_n 3, 1) := by decide +kernel
theorem dX4_number_12 : decode cX4_number 12 = .ok (.aload_n 0, 1) := by decide +kernel
theorem dX4_number_13 : decode cX4_number 13 = .ok (.iconst 3, 1) := by decide +kernel
theorem dX4_number_14 : decode cX4_number 14 = .ok (.invokevirtual 117, 3) := by decide +kernel
theorem dX4_number_17 : decode cX4_number 17 = .ok (.ifCond .ne 5, 3) := by decide +kernel
theorem dX4_number_20 : decode cX4_number 20 = .ok (.iconst 0, 1) := by decide +kernel
theorem dX4_number_21 : decode cX4_number 21 = .ok (.ireturn, 1) := by decide +kernel
theorem dX4_number_22 : decode cX4_number 22 = .ok (.aload_n 0, 1) := by decide +kernel
theorem dX4_number_23 : decode cX4_number 23 = .ok (.lload_n 3, 1) := by decide +kernel
theorem dX4_number_24 : decode cX4_number 24 = .ok (.l2i, 1) := by decide +kernel
theorem dX4_number_25 : decode cX4_number 25 = .ok (.putfield 40, 3) := by decide +kernel
theorem dX4_number_28 : decode cX4_number 28 = .ok (.aload_n 0, 1) := by decide +kernel
theorem dX4_number_29 : decode cX4_number 29 = .ok (.getfield 40, 3) := by decide +kernel
theorem dX4_number_32 : decode cX4_number 32 = .ok (.iload_n 1, 1) := by decide +kernel
theorem dX4_number_33 : decode cX4_number 33 = .ok (.if_icmp .lt 11, 3) := by decide +kernel
theorem dX4_number_36 : decode cX4_number 36 = .ok (.aload_n 0, 1) := by decide +kernel
theorem dX4_number_37 : decode cX4_number 37 = .ok (.getfield 40, 3) := by decide +kernel
theorem dX4_number_40 : decode cX4_number 40 = .ok (.iload_n 2, 1) := by decide +kernel
theorem dX4_number_41 : decode cX4_number 41 = .ok (.if_icmp .le 8, 3) := by decide +kernel
theorem dX4_number_44 : decode cX4_number 44 = .ok (.aload_n 0, 1) := by decide +kernel
theorem dX4_number_45 : decode cX4_number 45 = .ok (.iconst 5, 1) := by decide +kernel
theorem dX4_number_46 : decode cX4_number 46 = .ok (.invokevirtual 211, 3) := by decide +kernel
theorem dX4_number_49 : decode cX4_number 49 = .ok (.iconst 1, 1) := by decide +kernel
theorem dX4_number_50 : decode cX4_number 50 = .ok (.ireturn, 1) := by decide +kernel
theorem dX4_newName_0 : decode cX4_newName 0 = .ok (.aload_n 0, 1) := by decide +kernel
theorem dX4_newName_1 : decode cX4_newName 1 = .ok (.getfield 12, 3) := by decide +kernel
theorem dX4_newName_4 : decode cX4_newName 4 = .ok (.aload_n 0, 1) := by decide +kernel
theorem dX4_newName_5 : decode cX4_newName 5 = .ok (.getfield 37, 3) := by decide +kernel
theorem dX4_newName_8 : decode cX4_newName 8 = .ok (.invokevirtual 207, 3) := by decide +kernel
theorem dX4_newName_11 : decode cX4_newName 11 = .ok (.lstore_n 3, 1) := by decide +kernel
theorem dX4_newName_12 : decode cX4_newName 12 = .ok (.aload_n 0, 1) := by decide +kernel
theorem dX4_newName_13 : decode cX4_newName 13 = .ok (.iconst 2, 1) := by decide +kernel
theorem dX4_newName_14 : decode cX4_newName 14 = .ok (.invokevirtual 117, 3) := by decide +kernel
theorem dX4_newName_17 : decode cX4_newName 17 = .ok (.ifCond .ne 5, 3) := by decide +kernel
theorem dX4_newName_20 : decode cX4_newName 20 = .ok (.iconst 0, 1) := by decide +kernel
theorem dX4_newName_21 : decode cX4_newName 21 = .ok (.ireturn, 1) := by decide +kernel
theorem dX4_newName_22 : decode cX4_newName 22 = .ok (.aload_n 0, 1) := by decide +kernel
theorem dX4_newName_23 : decode cX4_newName 23 = .ok (.lload_n 3, 1) := by decide +kernel
theorem dX4_newName_24 : decode cX4_newName 24 = .ok (.invokevirtual 214, 3) := by decide +kernel
theorem dX4_newName_27 : decode cX4_newName 27 = .ok (.iconst (-1), 1) := by decide +kernel
theorem dX4_newName_28 : decode cX4_newName 28 = .ok (.if_icmp .eq 11, 3) := by decide +kernel
theorem dX4_newName_31 : decode cX4_newName 31 = .ok (.aload_n 0, 1) := by decide +kernel
theorem dX4_newName_32 : decode cX4_newName 32 = .ok (.iconst 3, 1) := by decide +kernel
theorem dX4_newName_33 : decode cX4_newName 33 = .ok (.invokevirtual 211, 3) := by decide +kernel
theorem dX4_newName_36 : decode cX4_newName 36 = .ok (.goto 52, 3) := by decide +kernel
theorem dX4_newName_39 : decode cX4_newName 39 = .ok (.aload_n 0, 1) := by decide +kernel
theorem dX4_newName_40 : decode cX4_newName 40 = .ok (.getfield 29, 3) := by decide +kernel
theorem dX4_newName_43 : decode cX4_newName 43 = .ok (.bipush 19, 2) := by decide +kernel
theorem dX4_newName_45 : decode cX4_newName 45 = .ok (.if_icmp .ge 43, 3) := by decide +kernel
theorem dX4_newName_48 : decode cX4_newName 48 = .ok (.aload_n 0, 1) := by decide +kernel
theorem dX4_newName_49 : decode cX4_newName 49 = .ok (.getfield 18, 3) := by decide +kernel
theorem dX4_newName_52 : decode cX4_newName 52 = .ok (.aload_n 0, 1) := by decide +kernel
theorem dX4_newName_53 : decode cX4_newName 53 = .ok (.getfield 29, 3) := by decide +kernel
theorem dX4_newName_56 : decode cX4_newName 56 = .ok (.lload_n 3, 1) := by decide +kernel
theorem dX4_newName_57 : decode cX4_newName 57 = .ok (.lastore, 1) := by decide +kernel
theorem dX4_newName_58 : decode cX4_newName 58 = .ok (.aload_n 0, 1) := by decide +kernel
theorem dX4_newName_59 : decode cX4_newName 59 = .ok (.getfield 22, 3) := by decide +kernel
theorem dX4_newName_62 : decode cX4_newName 62 = .ok (.aload_n 0, 1) := by decide +kernel
theorem dX4_newName_63 : decode cX4_newName 63 = .ok (.getfield 29, 3) := by decide +kernel
theorem dX4_newName_66 : decode cX4_newName 66 = .ok (.iload_n 1, 1) := by decide +kernel
theorem dX4_newName_67 : decode cX4_newName 67 = .ok (.iastore, 1) := by decide +kernel
theorem dX4_newName_68 : decode cX4_newName 68 = .ok (.aload_n 0, 1) := by decide +kernel
theorem dX4_newName_69 : decode cX4_newName 69 = .ok (.getfield 26, 3) := by decide +kernel
theorem dX4_newName_72 : decode cX4_newName 72 = .ok (.aload_n 0, 1) := by decide +kernel
theorem dX4_newName_73 : decode cX4_newName 73 = .ok (.getfield 29, 3) := by decide +kernel
theorem dX4_newName_76 : decode cX4_newName 76 = .ok (.iload_n 2, 1) := by decide +kernel
theorem dX4_newName_77 : decode cX4_newName 77 = .ok (.iastore, 1) := by decide +kernel
theorem dX4_newName_78 : decode cX4_newName 78 = .ok (.aload_n 0, 1) := by decide +kernel
theorem dX4_newName_79 : decode cX4_newName 79 = .ok (.dup, 1) := by decide +kernel
theorem dX4_newName_80 : decode cX4_newName 80 = .ok (.getfield 29, 3) := by decide +kernel
theorem dX4_newName_83 : decode cX4_newName 83 = .ok (.iconst 1, 1) := by decide +kernel
theorem dX4_newName_84 : decode cX4_newName 84 = .ok (.iadd, 1) := by decide +kernel
theorem dX4_newName_85 : decode cX4_newName 85 = .ok (.putfield 29, 3) := by decide +kernel
theorem dX4_newName_88 : decode cX4_newName 88 = .ok (.iconst 1, 1) := by decide +kernel
theorem dX4_newName_89 : decode cX4_newName 89 = .ok (.ireturn, 1) := by decide +kernel
theorem dX4_oldName_0 : decode cX4_oldName 0 = .ok (.aload_n 0, 1) := by decide +kernel
theorem dX4_oldName_1 : decode cX4_oldName 1 = .ok (.aload_n 0, 1) := by decide +kernel
theorem dX4_oldName_2 : decode cX4_oldName 2 = .ok (.getfield 12, 3) := by decide +kernel
theorem dX4_oldName_5 : decode cX4_oldName 5 = .ok (.aload_n 0, 1) := by decide +kernel
theorem dX4_oldName_6 : decode cX4_oldName 6 = .ok (.getfield 37, 3) := by decide +kernel
theorem dX4_oldName_9 : decode cX4_oldName 9 = .ok (.invokevirtual 207, 3) := by decide +kernel
theorem dX4_oldName_12 : decode cX4_oldName 12 = .ok (.invokevirtual 214, 3) := by decide +kernel
theorem dX4_oldName_15 : decode cX4_oldName 15 = .ok (.istore_n 2, 1) := by decide +kernel
theorem dX4_oldName_16 : decode cX4_oldName 16 = .ok (.aload_n 0, 1) := by decide +kernel
theorem dX4_oldName_17 : decode cX4_oldName 17 = .ok (.iconst 2, 1) := by decide +kernel
theorem dX4_oldName_18 : decode cX4_oldName 18 = .ok (.invokevirtual 117, 3) := by decide +kernel
theorem dX4_oldName_21 : decode cX4_oldName 21 = .ok (.ifCond .ne 5, 3) := by decide +kernel
theorem dX4_oldName_24 : decode cX4_oldName 24 = .ok (.iconst 0, 1) := by decide +kernel
theorem dX4_oldName_25 : decode cX4_oldName 25 = .ok (.ireturn, 1) := by decide +kernel
theorem dX4_oldName_26 : decode cX4_oldName 26 = .ok (.aload_n 0, 1) := by decide +kernel
theorem dX4_oldName_27 : decode cX4_oldName 27 = .ok (.iconst 0, 1) := by decide +kernel
theorem dX4_oldName_28 : decode cX4_oldName 28 = .ok (.putfield 40, 3) := by decide +kernel
theorem dX4_oldName_31 : decode cX4_oldName 31 = .ok (.iload_n 2, 1) := by decide +kernel
theorem dX4_oldName_32 : decode cX4_oldName 32 = .ok (.iconst (-1), 1) := by decide +kernel
theorem dX4_oldName_33 : decode cX4_oldName 33 = .ok (.if_icmp .eq 13, 3) := by decide +kernel
theorem dX4_oldName_36 : decode cX4_oldName 36 = .ok (.aload_n 0, 1) := by decide +kernel
theorem dX4_oldName_37 : decode cX4_oldName 37 = .ok (.getfield 22, 3) := by decide +kernel
theorem dX4_oldName_40 : decode cX4_oldName 40 = .ok (.iload_n 2, 1) := by decide +kernel
theorem dX4_oldName_41 : decode cX4_oldName 41 = .ok (.iaload, 1) := by decide +kernel
theorem dX4_oldName_42 : decode cX4_oldName 42 = .ok (.iload_n 1, 1) := by decide +kernel
theorem dX4_oldName_43 : decode cX4_oldName 43 = .ok (.if_icmp .eq 11, 3) := by decide +kernel
theorem dX4_oldName_46 : decode cX4_oldName 46 = .ok (.aload_n 0, 1) := by decide +kernel
theorem dX4_oldName_47 : decode cX4_oldName 47 = .ok (.iconst 4, 1) := by decide +kernel
theorem dX4_oldName_48 : decode cX4_oldName 48 = .ok (.invokevirtual 211, 3) := by decide +kernel
theorem dX4_oldName_51 : decode cX4_oldName 51 = .ok (.goto 13, 3) := by decide +kernel
theorem dX4_oldName_54 : decode cX4_oldName 54 = .ok (.aload_n 0, 1) := by decide +kernel
theorem dX4_oldName_55 : decode cX4_oldName 55 = .ok (.aload_n 0, 1) := by decide +kernel
theorem dX4_oldName_56 : decode cX4_oldName 56 = .ok (.getfield 26, 3) := by decide +kernel
theorem dX4_oldName_59 : decode cX4_oldName 59 = .ok (.iload_n 2, 1) := by decide +kernel
theorem dX4_oldName_60 : decode cX4_oldName 60 = .ok (.iaload, 1) := by decide +kernel
theorem dX4_oldName_61 : decode cX4_oldName 61 = .ok (.putfield 40, 3) := by decide +kernel
theorem dX4_oldName_64 : decode cX4_oldName 64 = .ok (.iconst 1, 1) := by decide +kernel
theorem dX4_oldName_65 : decode cX4_oldName 65 = .ok (.ireturn, 1) := by decide +kernel
theorem dX4_indexOf_0 : decode cX4_indexOf 0 = .ok (.iconst 0, 1) := by decide +kernel
theorem dX4_indexOf_1 : decode cX4_indexOf 1 = .ok (.istore_n 3, 1) := by decide +kernel
theorem dX4_indexOf_2 : decode cX4_indexOf 2 = .ok (.iload_n 3, 1) := by decide +kernel
theorem dX4_indexOf_3 : decode cX4_indexOf 3 = .ok (.aload_n 0, 1) := by decide +kernel
theorem dX4_indexOf_4 : decode cX4_indexOf 4 = .ok (.getfield 29, 3) := by decide +kernel
theorem dX4_indexOf_7 : decode cX4_indexOf 7 = .ok (.if_icmp .ge 22, 3) := by decide +kernel
theorem dX4_indexOf_10 : decode cX4_indexOf 10 = .ok (.aload_n 0, 1) := by decide +kernel
theorem dX4_indexOf_11 : decode cX4_indexOf 11 = .ok (.getfield 18, 3) := by decide +kernel
theorem dX4_indexOf_14 : decode cX4_indexOf 14 = .ok (.iload_n 3, 1) := by decide +kernel
theorem dX4_indexOf_15 : decode cX4_indexOf 15 = .ok (.laload, 1) := by decide +kernel
theorem dX4_indexOf_16 : decode cX4_indexOf 16 = .ok (.lload_n 1, 1) := by decide +kernel
theorem dX4_indexOf_17 : decode cX4_indexOf 17 = .ok (.lcmp, 1) := by decide +kernel
theorem dX4_indexOf_18 : decode cX4_indexOf 18 = .ok (.ifCond .ne 5, 3) := by decide +kernel
theorem dX4_indexOf_21 : decode cX4_indexOf 21 = .ok (.iload_n 3, 1) := by decide +kernel
theorem dX4_indexOf_22 : decode cX4_indexOf 22 = .ok (.ireturn, 1) := by decide +kernel
theorem dX4_indexOf_23 : decode cX4_indexOf 23 = .ok (.iinc 3 1, 3) := by decide +kernel
theorem dX4_indexOf_26 : decode cX4_indexOf 26 = .ok (.goto (-24), 3) := by decide +kernel
theorem dX4_indexOf_29 : decode cX4_indexOf 29 = .ok (.iconst (-1), 1) := by decide +kernel
theorem dX4_indexOf_30 : decode cX4_indexOf 30 = .ok (.ireturn, 1) := by decide +kernel
theorem dX4_accept_0 : decode cX4_accept 0 = .ok (.aload_n 0, 1) := by decide +kernel
theorem dX4_accept_1 : decode cX4_accept 1 = .ok (.getfield 12, 3) := by decide +kernel
theorem dX4_accept_4 : decode cX4_accept 4 = .ok (.aload_n 0, 1) := by decide +kernel
theorem dX4_accept_5 : decode cX4_accept 5 = .ok (.getfield 37, 3) := by decide +kernel
theorem dX4_accept_8 : decode cX4_accept 8 = .ok (.invokevirtual 64, 3) := by decide +kernel
theorem dX4_accept_11 : decode cX4_accept 11 = .ok (.iload_n 1, 1) := by decide +kernel
theorem dX4_accept_12 : decode cX4_accept 12 = .ok (.if_icmp .eq 9, 3) := by decide +kernel
theorem dX4_accept_15 : decode cX4_accept 15 = .ok (.aload_n 0, 1) := by decide +kernel
theorem dX4_accept_16 : decode cX4_accept 16 = .ok (.iconst 1, 1) := by decide +kernel
theorem dX4_accept_17 : decode cX4_accept 17 = .ok (.invokevirtual 90, 3) := by decide +kernel
theorem dX4_accept_20 : decode cX4_accept 20 = .ok (.ireturn, 1) := by decide +kernel
theorem dX4_accept_21 : decode cX4_accept 21 = .ok (.aload_n 0, 1) := by decide +kernel
theorem dX4_accept_22 : decode cX4_accept 22 = .ok (.getfield 37, 3) := by decide +kernel
theorem dX4_accept_25 : decode cX4_accept 25 = .ok (.sipush 400, 3) := by decide +kernel
theorem dX4_accept_28 : decode cX4_accept 28 = .ok (.if_icmp .lt 9, 3) := by decide +kernel
theorem dX4_accept_31 : decode cX4_accept 31 = .ok (.aload_n 0, 1) := by decide +kernel
theorem dX4_accept_32 : decode cX4_accept 32 = .ok (.iconst 2, 1) := by decide +kernel
theorem dX4_accept_33 : decode cX4_accept 33 = .ok (.invokevirtual 90, 3) := by decide +kernel
theorem dX4_accept_36 : decode cX4_accept 36 = .ok (.ireturn, 1) := by decide +kernel
theorem dX4_accept_37 : decode cX4_accept 37 = .ok (.aload_n 0, 1) := by decide +kernel
theorem dX4_accept_38 : decode cX4_accept 38 = .ok (.dup, 1) := by decide +kernel
theorem dX4_accept_39 : decode cX4_accept 39 = .ok (.getfield 37, 3) := by decide +kernel
theorem dX4_accept_42 : decode cX4_accept 42 = .ok (.iconst 1, 1) := by decide +kernel
theorem dX4_accept_43 : decode cX4_accept 43 = .ok (.iadd, 1) := by decide +kernel
theorem dX4_accept_44 : decode cX4_accept 44 = .ok (.putfield 37, 3) := by decide +kernel
theorem dX4_accept_47 : decode cX4_accept 47 = .ok (.iconst 1, 1) := by decide +kernel
theorem dX4_accept_48 : decode cX4_accept 48 = .ok (.ireturn, 1) := by decide +kernel
theorem dX4_refuse_0 : decode cX4_refuse 0 = .ok (.aload_n 0, 1) := by decide +kernel
theorem dX4_refuse_1 : decode cX4_refuse 1 = .ok (.iload_n 1, 1) := by decide +kernel
theorem dX4_refuse_2 : decode cX4_refuse 2 = .ok (.putfield 43, 3) := by decide +kernel
theorem dX4_refuse_5 : decode cX4_refuse 5 = .ok (.iconst 0, 1) := by decide +kernel
theorem dX4_refuse_6 : decode cX4_refuse 6 = .ok (.ireturn, 1) := by decide +kernel
theorem dX4_noteSlip_0 : decode cX4_noteSlip 0 = .ok (.aload_n 0, 1) := by decide +kernel
theorem dX4_noteSlip_1 : decode cX4_noteSlip 1 = .ok (.getfield 46, 3) := by decide +kernel
theorem dX4_noteSlip_4 : decode cX4_noteSlip 4 = .ok (.ifCond .ne 25, 3) := by decide +kernel
theorem dX4_noteSlip_7 : decode cX4_noteSlip 7 = .ok (.aload_n 0, 1) := by decide +kernel
theorem dX4_noteSlip_8 : decode cX4_noteSlip 8 = .ok (.iload_n 1, 1) := by decide +kernel
theorem dX4_noteSlip_9 : decode cX4_noteSlip 9 = .ok (.putfield 46, 3) := by decide +kernel
theorem dX4_noteSlip_12 : decode cX4_noteSlip 12 = .ok (.aload_n 0, 1) := by decide +kernel
theorem dX4_noteSlip_13 : decode cX4_noteSlip 13 = .ok (.aload_n 0, 1) := by decide +kernel
theorem dX4_noteSlip_14 : decode cX4_noteSlip 14 = .ok (.getfield 12, 3) := by decide +kernel
theorem dX4_noteSlip_17 : decode cX4_noteSlip 17 = .ok (.aload_n 0, 1) := by decide +kernel
theorem dX4_noteSlip_18 : decode cX4_noteSlip 18 = .ok (.getfield 37, 3) := by decide +kernel
theorem dX4_noteSlip_21 : decode cX4_noteSlip 21 = .ok (.iconst 1, 1) := by decide +kernel
theorem dX4_noteSlip_22 : decode cX4_noteSlip 22 = .ok (.isub, 1) := by decide +kernel
theorem dX4_noteSlip_23 : decode cX4_noteSlip 23 = .ok (.invokevirtual 94, 3) := by decide +kernel
theorem dX4_noteSlip_26 : decode cX4_noteSlip 26 = .ok (.putfield 49, 3) := by decide +kernel
theorem dX4_noteSlip_29 : decode cX4_noteSlip 29 = .ok (.return_, 1) := by decide +kernel
theorem dX5_init_0 : decode cX5_init 0 = .ok (.aload_n 0, 1) := by decide +kernel
theorem dX5_init_1 : decode cX5_init 1 = .ok (.invokespecial 3, 3) := by decide +kernel
theorem dX5_init_4 : decode cX5_init 4 = .ok (.aload_n 0, 1) := by decide +kernel
theorem dX5_init_5 : decode cX5_init 5 = .ok (.iconst 5, 1) := by decide +kernel
theorem dX5_init_6 : decode cX5_init 6 = .ok (.newarray .int, 2) := by decide +kernel
theorem dX5_init_8 : decode cX5_init 8 = .ok (.putfield 9, 3) := by decide +kernel
theorem dX5_init_11 : decode cX5_init 11 = .ok (.aload_n 0, 1) := by decide +kernel
theorem dX5_init_12 : decode cX5_init 12 = .ok (.iconst 5, 1) := by decide +kernel
theorem dX5_init_13 : decode cX5_init 13 = .ok (.newarray .int, 2) := by decide +kernel
theorem dX5_init_15 : decode cX5_init 15 = .ok (.putfield 15, 3) := by decide +kernel
theorem dX5_init_18 : decode cX5_init 18 = .ok (.aload_n 0, 1) := by decide +kernel
theorem dX5_init_19 : decode cX5_init 19 = .ok (.iconst 0, 1) := by decide +kernel
theorem dX5_init_20 : decode cX5_init 20 = .ok (.putfield 18, 3) := by decide +kernel
theorem dX5_init_23 : decode cX5_init 23 = .ok (.aload_n 0, 1) := by decide +kernel
theorem dX5_init_24 : decode cX5_init 24 = .ok (.lconst 0, 1) := by decide +kernel
theorem dX5_init_25 : decode cX5_init 25 = .ok (.putfield 22, 3) := by decide +kernel
theorem dX5_init_28 : decode cX5_init 28 = .ok (.aload_n 0, 1) := by decide +kernel
theorem dX5_init_29 : decode cX5_init 29 = .ok (.iconst (-1), 1) := by decide +kernel
theorem dX5_init_30 : decode cX5_init 30 = .ok (.putfield 26, 3) := by decide +kernel
theorem dX5_init_33 : decode cX5_init 33 = .ok (.aload_n 0, 1) := by decide +kernel
theorem dX5_init_34 : decode cX5_init 34 = .ok (.iconst 0, 1) := by decide +kernel
theorem dX5_init_35 : decode cX5_init 35 = .ok (.putfield 29, 3) := by decide +kernel
theorem dX5_init_38 : decode cX5_init 38 = .ok (.aload_n 0, 1) := by decide +kernel
theorem dX5_init_39 : decode cX5_init 39 = .ok (.iconst 0, 1) := by decide +kernel
theorem dX5_init_40 : decode cX5_init 40 = .ok (.putfield 32, 3) := by decide +kernel
theorem dX5_init_43 : decode cX5_init 43 = .ok (.return_, 1) := by decide +kernel
theorem dX5_clear_0 : decode cX5_clear 0 = .ok (.aload_n 0, 1) := by decide +kernel
theorem dX5_clear_1 : decode cX5_clear 1 = .ok (.iconst (-1), 1) := by decide +kernel
theorem dX5_clear_2 : decode cX5_clear 2 = .ok (.putfield 26, 3) := by decide +kernel
theorem dX5_clear_5 : decode cX5_clear 5 = .ok (.return_, 1) := by decide +kernel
theorem dX5_search_0 : decode cX5_search 0 = .ok (.iload_n 2, 1) := by decide +kernel
theorem dX5_search_1 : decode cX5_search 1 = .ok (.aload_n 0, 1) := by decide +kernel
theorem dX5_search_2 : decode cX5_search 2 = .ok (.getfield 26, 3) := by decide +kernel
theorem dX5_search_5 : decode cX5_search 5 = .ok (.if_icmp .ne 21, 3) := by decide +kernel
theorem dX5_search_8 : decode cX5_search 8 = .ok (.iload_n 3, 1) := by decide +kernel
theorem dX5_search_9 : decode cX5_search 9 = .ok (.aload_n 0, 1) := by decide +kernel
theorem dX5_search_10 : decode cX5_search 10 = .ok (.getfield 29, 3) := by decide +kernel
theorem dX5_search_13 : decode cX5_search 13 = .ok (.if_icmp .ne 13, 3) := by decide +kernel
theorem dX5_search_16 : decode cX5_search 16 = .ok (.iload 4, 2) := by decide +kernel
theorem dX5_search_18 : decode cX5_search 18 = .ok (.aload_n 0, 1) := by decide +kernel
theorem dX5_search_19 : decode cX5_search 19 = .ok (.getfield 32, 3) := by decide +kernel
theorem dX5_search_22 : decode cX5_search 22 = .ok (.if_icmp .ne 4, 3) := by decide +kernel
theorem dX5_search_25 : decode cX5_search 25 = .ok (.return_, 1) := by decide +kernel
theorem dX5_search_26 : decode cX5_search 26 = .ok (.aload_n 0, 1) := by decide +kernel
theorem dX5_search_27 : decode cX5_search 27 = .ok (.iload_n 2, 1) := by decide +kernel
theorem dX5_search_28 : decode cX5_search 28 = .ok (.putfield 26, 3) := by decide +kernel
theorem dX5_search_31 : decode cX5_search 31 = .ok (.aload_n 0, 1) := by decide +kernel
theorem dX5_search_32 : decode cX5_search 32 = .ok (.iload_n 3, 1) := by decide +kernel
theorem dX5_search_33 : decode cX5_search 33 = .ok (.putfield 29, 3) := by decide +kernel
theorem dX5_search_36 : decode cX5_search 36 = .ok (.aload_n 0, 1) := by decide +kernel
theorem dX5_search_37 : decode cX5_search 37 = .ok (.iload 4, 2) := by decide +kernel
theorem dX5_search_39 : decode cX5_search 39 = .ok (.putfield 32, 3) := by decide +kernel
theorem dX5_search_42 : decode cX5_search 42 = .ok (.aload_n 0, 1) := by decide +kernel
theorem dX5_search_43 : decode cX5_search 43 = .ok (.lconst 0, 1) := by decide +kernel
theorem dX5_search_44 : decode cX5_search 44 = .ok (.putfield 22, 3) := by decide +kernel
theorem dX5_search_47 : decode cX5_search 47 = .ok (.aload_n 0, 1) := by decide +kernel
theorem dX5_search_48 : decode cX5_search 48 = .ok (.iconst 1, 1) := by decide +kernel
theorem dX5_search_49 : decode cX5_search 49 = .ok (.aload_n 1, 1) := by decide +kernel
theorem dX5_search_50 : decode cX5_search 50 = .ok (.getfield 35, 3) := by decide +kernel
theorem dX5_search_53 : decode cX5_search 53 = .ok (.ishl, 1) := by decide +kernel
theorem dX5_search_54 : decode cX5_search 54 = .ok (.iconst 1, 1) := by decide +kernel
theorem dX5_search_55 : decode cX5_search 55 = .ok (.isub, 1) := by decide +kernel
theorem dX5_search_56 : decode cX5_search 56 = .ok (.putfield 18, 3) := by decide +kernel
theorem dX5_search_59 : decode cX5_search 59 = .ok (.aload_n 0, 1) := by decide +kernel
theorem dX5_search_60 : decode cX5_search 60 = .ok (.aload_n 1, 1) := by decide +kernel
theorem dX5_search_61 : decode cX5_search 61 = .ok (.iconst 0, 1) := by decide +kernel
theorem dX5_search_62 : decode cX5_search 62 = .ok (.iload_n 2, 1) := by decide +kernel
theorem dX5_search_63 : decode cX5_search 63 = .ok (.iload_n 3, 1) := by decide +kernel
theorem dX5_search_64 : decode cX5_search 64 = .ok (.iload 4, 2) := by decide +kernel
theorem dX5_search_66 : decode cX5_search 66 = .ok (.invokevirtual 40, 3) := by decide +kernel
theorem dX5_search_69 : decode cX5_search 69 = .ok (.return_, 1) := by decide +kernel
theorem dX5_fillFrom_0 : decode cX5_fillFrom 0 = .ok (.aload_n 1, 1) := by decide +kernel
theorem dX5_fillFrom_1 : decode cX5_fillFrom 1 = .ok (.getfield 35, 3) := by decide +kernel
theorem dX5_fillFrom_4 : decode cX5_fillFrom 4 = .ok (.iload_n 2, 1) := by decide +kernel
theorem dX5_fillFrom_5 : decode cX5_fillFrom 5 = .ok (.isub, 1) := by decide +kernel
theorem dX5_fillFrom_6 : decode cX5_fillFrom 6 = .ok (.istore 6, 2) := by decide +kernel
theorem dX5_fillFrom_8 : decode cX5_fillFrom 8 = .ok (.iload 6, 2) := by decide +kernel
theorem dX5_fillFrom_10 : decode cX5_fillFrom 10 = .ok (.ifCond .gt 25, 3) := by decide +kernel
theorem dX5_fillFrom_13 : decode cX5_fillFrom 13 = .ok (.iload_n 3, 1) := by decide +kernel
theorem dX5_fillFrom_14 : decode cX5_fillFrom 14 = .ok (.ifCond .ne 118, 3) := by decide +kernel
theorem dX5_fillFrom_17 : decode cX5_fillFrom 17 = .ok (.iload 4, 2) := by decide +kernel
theorem dX5_fillFrom_19 : decode cX5_fillFrom 19 = .ok (.ifCond .ne 113, 3) := by decide +kernel
theorem dX5_fillFrom_22 : decode cX5_fillFrom 22 = .ok (.iload 5, 2) := by decide +kernel
theorem dX5_fillFrom_24 : decode cX5_fillFrom 24 = .ok (.ifCond .ne 108, 3) := by decide +kernel
theorem dX5_fillFrom_27 : decode cX5_fillFrom 27 = .ok (.aload_n 0, 1) := by decide +kernel
theorem dX5_fillFrom_28 : decode cX5_fillFrom 28 = .ok (.iconst 1, 1) := by decide +kernel
theorem dX5_fillFrom_29 : decode cX5_fillFrom 29 = .ok (.invokevirtual 44, 3) := by decide +kernel
theorem dX5_fillFrom_32 : decode cX5_fillFrom 32 = .ok (.goto 100, 3) := by decide +kernel
theorem dX5_fillFrom_35 : decode cX5_fillFrom 35 = .ok (.iload 6, 2) := by decide +kernel
theorem dX5_fillFrom_37 : decode cX5_fillFrom 37 = .ok (.iconst 2, 1) := by decide +kernel
theorem dX5_fillFrom_38 : decode cX5_fillFrom 38 = .ok (.if_icmp .ne 17, 3) := by decide +kernel
theorem dX5_fillFrom_41 : decode cX5_fillFrom 41 = .ok (.aload_n 0, 1) := by decide +kernel
theorem dX5_fillFrom_42 : decode cX5_fillFrom 42 = .ok (.aload_n 1, 1) := by decide +kernel
theorem dX5_fillFrom_43 : decode cX5_fillFrom 43 = .ok (.iload_n 2, 1) := by decide +kernel
theorem dX5_fillFrom_44 : decode cX5_fillFrom 44 = .ok (.iload_n 3, 1) := by decide +kernel
theorem dX5_fillFrom_45 : decode cX5_fillFrom 45 = .ok (.iload 4, 2) := by decide +kernel
theorem dX5_fillFrom_47 : decode cX5_fillFrom 47 = .ok (.iload 5, 2) := by decide +kernel
theorem dX5_fillFrom_49 : decode cX5_fillFrom 49 = .ok (.invokevirtual 48, 3) := by decide +kernel
theorem dX5_fillFrom_52 : decode cX5_fillFrom 52 = .ok (.goto 80, 3) := by decide +kernel
theorem dX5_fillFrom_55 : decode cX5_fillFrom 55 = .ok (.iconst 0, 1) := by decide +kernel
theorem dX5_fillFrom_56 : decode cX5_fillFrom 56 = .ok (.istore 7, 2) := by decide +kernel
theorem dX5_fillFrom_58 : decode cX5_fillFrom 58 = .ok (.iload 7, 2) := by decide +kernel
theorem dX5_fillFrom_60 : decode cX5_fillFrom 60 = .ok (.iload_n 3, 1) := by decide +kernel
theorem dX5_fillFrom_61 : decode cX5_fillFrom 61 = .ok (.if_icmp .gt 71, 3) := by decide +kernel
theorem dX5_fillFrom_64 : decode cX5_fillFrom 64 = .ok (.aload_n 0, 1) := by decide +kernel
theorem dX5_fillFrom_65 : decode cX5_fillFrom 65 = .ok (.getfield 9, 3) := by decide +kernel
theorem dX5_fillFrom_68 : decode cX5_fillFrom 68 = .ok (.iload_n 2, 1) := by decide +kernel
theorem dX5_fillFrom_69 : decode cX5_fillFrom 69 = .ok (.iload 7, 2) := by decide +kernel
theorem dX5_fillFrom_71 : decode cX5_fillFrom 71 = .ok (.iastore, 1) := by decide +kernel
theorem dX5_fillFrom_72 : decode cX5_fillFrom 72 = .ok (.iload 4, 2) := by decide +kernel
theorem dX5_fillFrom_74 : decode cX5_fillFrom 74 = .ok (.iload 7, 2) := by decide +kernel
theorem dX5_fillFrom_76 : decode cX5_fillFrom 76 = .ok (.aload_n 1, 1) := by decide +kernel
theorem dX5_fillFrom_77 : decode cX5_fillFrom 77 = .ok (.getfield 51, 3) := by decide +kernel
theorem dX5_fillFrom_80 : decode cX5_fillFrom 80 = .ok (.iload_n 2, 1) := by decide +kernel
theorem dX5_fillFrom_81 : decode cX5_fillFrom 81 = .ok (.iaload, 1) := by decide +kernel
theorem dX5_fillFrom_82 : decode cX5_fillFrom 82 = .ok (.imul, 1) := by decide +kernel
theorem dX5_fillFrom_83 : decode cX5_fillFrom 83 = .ok (.isub, 1) := by decide +kernel
theorem dX5_fillFrom_84 : decode cX5_fillFrom 84 = .ok (.istore 8, 2) := by decide +kernel
theorem dX5_fillFrom_86 : decode cX5_fillFrom 86 = .ok (.iload 5, 2) := by decide +kernel
theorem dX5_fillFrom_88 : decode cX5_fillFrom 88 = .ok (.iload 7, 2) := by decide +kernel
theorem dX5_fillFrom_90 : decode cX5_fillFrom 90 = .ok (.aload_n 1, 1) := by decide +kernel
theorem dX5_fillFrom_91 : decode cX5_fillFrom 91 = .ok (.getfield 54, 3) := by decide +kernel
theorem dX5_fillFrom_94 : decode cX5_fillFrom 94 = .ok (.iload_n 2, 1) := by decide +kernel
theorem dX5_fillFrom_95 : decode cX5_fillFrom 95 = .ok (.iaload, 1) := by decide +kernel
theorem dX5_fillFrom_96 : decode cX5_fillFrom 96 = .ok (.imul, 1) := by decide +kernel
theorem dX5_fillFrom_97 : decode cX5_fillFrom 97 = .ok (.isub, 1) := by decide +kernel
theorem dX5_fillFrom_98 : decode cX5_fillFrom 98 = .ok (.istore 9, 2) := by decide +kernel
theorem dX5_fillFrom_100 : decode cX5_fillFrom 100 = .ok (.iload 8, 2) := by decide +kernel
theorem dX5_fillFrom_102 : decode cX5_fillFrom 102 = .ok (.ifCond .lt 24, 3) := by decide +kernel
theorem dX5_fillFrom_105 : decode cX5_fillFrom 105 = .ok (.iload 9, 2) := by decide +kernel
theorem dX5_fillFrom_107 : decode cX5_fillFrom 107 = .ok (.ifCond .lt 19, 3) := by decide +kernel
theorem dX5_fillFrom_110 : decode cX5_fillFrom 110 = .ok (.aload_n 0, 1) := by decide +kernel
theorem dX5_fillFrom_111 : decode cX5_fillFrom 111 = .ok (.aload_n 1, 1) := by decide +kernel
theorem dX5_fillFrom_112 : decode cX5_fillFrom 112 = .ok (.iload_n 2, 1) := by decide +kernel
theorem dX5_fillFrom_113 : decode cX5_fillFrom 113 = .ok (.iconst 1, 1) := by decide +kernel
theorem dX5_fillFrom_114 : decode cX5_fillFrom 114 = .ok (.iadd, 1) := by decide +kernel
theorem dX5_fillFrom_115 : decode cX5_fillFrom 115 = .ok (.iload_n 3, 1) := by decide +kernel
theorem dX5_fillFrom_116 : decode cX5_fillFrom 116 = .ok (.iload 7, 2) := by decide +kernel
theorem dX5_fillFrom_118 : decode cX5_fillFrom 118 = .ok (.isub, 1) := by decide +kernel
theorem dX5_fillFrom_119 : decode cX5_fillFrom 119 = .ok (.iload 8, 2) := by decide +kernel
theorem dX5_fillFrom_121 : decode cX5_fillFrom 121 = .ok (.iload 9, 2) := by decide +kernel
theorem dX5_fillFrom_123 : decode cX5_fillFrom 123 = .ok (.invokevirtual 40, 3) := by decide +kernel
theorem dX5_fillFrom_126 : decode cX5_fillFrom 126 = .ok (.iinc 7 1, 3) := by decide +kernel
theorem dX5_fillFrom_129 : decode cX5_fillFrom 129 = .ok (.goto (-71), 3) := by decide +kernel
theorem dX5_fillFrom_132 : decode cX5_fillFrom 132 = .ok (.return_, 1) := by decide +kernel
theorem dX5_fillTwo_0 : decode cX5_fillTwo 0 = .ok (.iload_n 2, 1) := by decide +kernel
theorem dX5_fillTwo_1 : decode cX5_fillTwo 1 = .ok (.iconst 1, 1) := by decide +kernel
theorem dX5_fillTwo_2 : decode cX5_fillTwo 2 = .ok (.iadd, 1) := by decide +kernel
theorem dX5_fillTwo_3 : decode cX5_fillTwo 3 = .ok (.istore 6, 2) := by decide +kernel
theorem dX5_fillTwo_5 : decode cX5_fillTwo 5 = .ok (.aload_n 1, 1) := by decide +kernel
theorem dX5_fillTwo_6 : decode cX5_fillTwo 6 = .ok (.getfield 51, 3) := by decide +kernel
theorem dX5_fillTwo_9 : decode cX5_fillTwo 9 = .ok (.iload_n 2, 1) := by decide +kernel
theorem dX5_fillTwo_10 : decode cX5_fillTwo 10 = .ok (.iaload, 1) := by decide +kernel
theorem dX5_fillTwo_11 : decode cX5_fillTwo 11 = .ok (.aload_n 1, 1) := by decide +kernel
theorem dX5_fillTwo_12 : decode cX5_fillTwo 12 = .ok (.getfield 51, 3) := by decide +kernel
theorem dX5_fillTwo_15 : decode cX5_fillTwo 15 = .ok (.iload 6, 2) := by decide +kernel
theorem dX5_fillTwo_17 : decode cX5_fillTwo 17 = .ok (.iaload, 1) := by decide +kernel
theorem dX5_fillTwo_18 : decode cX5_fillTwo 18 = .ok (.isub, 1) := by decide +kernel
theorem dX5_fillTwo_19 : decode cX5_fillTwo 19 = .ok (.istore 7, 2) := by decide +kernel
theorem dX5_fillTwo_21 : decode cX5_fillTwo 21 = .ok (.aload_n 1, 1) := by decide +kernel
theorem dX5_fillTwo_22 : decode cX5_fillTwo 22 = .ok (.getfield 54, 3) := by decide +kernel
theorem dX5_fillTwo_25 : decode cX5_fillTwo 25 = .ok (.iload_n 2, 1) := by decide +kernel
theorem dX5_fillTwo_26 : decode cX5_fillTwo 26 = .ok (.iaload, 1) := by decide +kernel
theorem dX5_fillTwo_27 : decode cX5_fillTwo 27 = .ok (.aload_n 1, 1) := by decide +kernel
theorem dX5_fillTwo_28 : decode cX5_fillTwo 28 = .ok (.getfield 54, 3) := by decide +kernel
theorem dX5_fillTwo_31 : decode cX5_fillTwo 31 = .ok (.iload 6, 2) := by decide +kernel
theorem dX5_fillTwo_33 : decode cX5_fillTwo 33 = .ok (.iaload, 1) := by decide +kernel
theorem dX5_fillTwo_34 : decode cX5_fillTwo 34 = .ok (.isub, 1) := by decide +kernel
theorem dX5_fillTwo_35 : decode cX5_fillTwo 35 = .ok (.istore 8, 2) := by decide +kernel
theorem dX5_fillTwo_37 : decode cX5_fillTwo 37 = .ok (.iload 4, 2) := by decide +kernel
theorem dX5_fillTwo_39 : decode cX5_fillTwo 39 = .ok (.iload_n 3, 1) := by decide +kernel
theorem dX5_fillTwo_40 : decode cX5_fillTwo 40 = .ok (.aload_n 1, 1) := by decide +kernel
theorem dX5_fillTwo_41 : decode cX5_fillTwo 41 = .ok (.getfield 51, 3) := by decide +kernel
theorem dX5_fillTwo_44 : decode cX5_fillTwo 44 = .ok (.iload 6, 2) := by decide +kernel
theorem dX5_fillTwo_46 : decode cX5_fillTwo 46 = .ok (.iaload, 1) := by decide +kernel
theorem dX5_fillTwo_47 : decode cX5_fillTwo 47 = .ok (.imul, 1) := by decide +kernel
theorem dX5_fillTwo_48 : decode cX5_fillTwo 48 = .ok (.isub, 1) := by decide +kernel
theorem dX5_fillTwo_49 : decode cX5_fillTwo 49 = .ok (.istore 9, 2) := by decide +kernel
theorem dX5_fillTwo_51 : decode cX5_fillTwo 51 = .ok (.iload 5, 2) := by decide +kernel
theorem dX5_fillTwo_53 : decode cX5_fillTwo 53 = .ok (.iload_n 3, 1) := by decide +kernel
theorem dX5_fillTwo_54 : decode cX5_fillTwo 54 = .ok (.aload_n 1, 1) := by decide +kernel
theorem dX5_fillTwo_55 : decode cX5_fillTwo 55 = .ok (.getfield 54, 3) := by decide +kernel
theorem dX5_fillTwo_58 : decode cX5_fillTwo 58 = .ok (.iload 6, 2) := by decide +kernel
theorem dX5_fillTwo_60 : decode cX5_fillTwo 60 = .ok (.iaload, 1) := by decide +kernel
theorem dX5_fillTwo_61 : decode cX5_fillTwo 61 = .ok (.imul, 1) := by decide +kernel
theorem dX5_fillTwo_62 : decode cX5_fillTwo 62 = .ok (.isub, 1) := by decide +kernel
theorem dX5_fillTwo_63 : decode cX5_fillTwo 63 = .ok (.istore 10, 2) := by decide +kernel
theorem dX5_fillTwo_65 : decode cX5_fillTwo 65 = .ok (.iconst 0, 1) := by decide +kernel
theorem dX5_fillTwo_66 : decode cX5_fillTwo 66 = .ok (.istore 11, 2) := by decide +kernel
theorem dX5_fillTwo_68 : decode cX5_fillTwo 68 = .ok (.iload_n 3, 1) := by decide +kernel
theorem dX5_fillTwo_69 : decode cX5_fillTwo 69 = .ok (.istore 12, 2) := by decide +kernel
theorem dX5_fillTwo_71 : decode cX5_fillTwo 71 = .ok (.iload 7, 2) := by decide +kernel
theorem dX5_fillTwo_73 : decode cX5_fillTwo 73 = .ok (.ifCond .eq 17, 3) := by decide +kernel
theorem dX5_fillTwo_76 : decode cX5_fillTwo 76 = .ok (.iload 9, 2) := by decide +kernel
theorem dX5_fillTwo_78 : decode cX5_fillTwo 78 = .ok (.iload 7, 2) := by decide +kernel
theorem dX5_fillTwo_80 : decode cX5_fillTwo 80 = .ok (.idiv, 1) := by decide +kernel
theorem dX5_fillTwo_81 : decode cX5_fillTwo 81 = .ok (.istore 11, 2) := by decide +kernel
theorem dX5_fillTwo_83 : decode cX5_fillTwo 83 = .ok (.iload 11, 2) := by decide +kernel
theorem dX5_fillTwo_85 : decode cX5_fillTwo 85 = .ok (.istore 12, 2) := by decide +kernel
theorem dX5_fillTwo_87 : decode cX5_fillTwo 87 = .ok (.goto 19, 3) := by decide +kernel
theorem dX5_fillTwo_90 : decode cX5_fillTwo 90 = .ok (.iload 8, 2) := by decide +kernel
theorem dX5_fillTwo_92 : decode cX5_fillTwo 92 = .ok (.ifCond .eq 14, 3) := by decide +kernel
theorem dX5_fillTwo_95 : decode cX5_fillTwo 95 = .ok (.iload 10, 2) := by decide +kernel
theorem dX5_fillTwo_97 : decode cX5_fillTwo 97 = .ok (.iload 8, 2) := by decide +kernel
theorem dX5_fillTwo_99 : decode cX5_fillTwo 99 = .ok (.idiv, 1) := by decide +kernel
theorem dX5_fillTwo_100 : decode cX5_fillTwo 100 = .ok (.istore 11, 2) := by decide +kernel
theorem dX5_fillTwo_102 : decode cX5_fillTwo 102 = .ok (.iload 11, 2) := by decide +kernel
theorem dX5_fillTwo_104 : decode cX5_fillTwo 104 = .ok (.istore 12, 2) := by decide +kernel
theorem dX5_fillTwo_106 : decode cX5_fillTwo 106 = .ok (.iload 11, 2) := by decide +kernel
theorem dX5_fillTwo_108 : decode cX5_fillTwo 108 = .ok (.ifCond .lt 29, 3) := by decide +kernel
theorem dX5_fillTwo_111 : decode cX5_fillTwo 111 = .ok (.iload 12, 2) := by decide +kernel
theorem dX5_fillTwo_113 : decode cX5_fillTwo 113 = .ok (.iload_n 3, 1) := by decide +kernel
theorem dX5_fillTwo_114 : decode cX5_fillTwo 114 = .ok (.if_icmp .gt 23, 3) := by decide +kernel
theorem dX5_fillTwo_117 : decode cX5_fillTwo 117 = .ok (.iload 11, 2) := by decide +kernel
theorem dX5_fillTwo_119 : decode cX5_fillTwo 119 = .ok (.iload 7, 2) := by decide +kernel
theorem dX5_fillTwo_121 : decode cX5_fillTwo 121 = .ok (.imul, 1) := by decide +kernel
theorem dX5_fillTwo_122 : decode cX5_fillTwo 122 = .ok (.iload 9, 2) := by decide +kernel
theorem dX5_fillTwo_124 : decode cX5_fillTwo 124 = .ok (.if_icmp .ne 13, 3) := by decide +kernel
theorem dX5_fillTwo_127 : decode cX5_fillTwo 127 = .ok (.iload 11, 2) := by decide +kernel
theorem dX5_fillTwo_129 : decode cX5_fillTwo 129 = .ok (.iload 8, 2) := by decide +kernel
theorem dX5_fillTwo_131 : decode cX5_fillTwo 131 = .ok (.imul, 1) := by decide +kernel
theorem dX5_fillTwo_132 : decode cX5_fillTwo 132 = .ok (.iload 10, 2) := by decide +kernel
theorem dX5_fillTwo_134 : decode cX5_fillTwo 134 = .ok (.if_icmp .eq 4, 3) := by decide +kernel
theorem dX5_fillTwo_137 : decode cX5_fillTwo 137 = .ok (.return_, 1) := by decide +kernel
theorem dX5_fillTwo_138 : decode cX5_fillTwo 138 = .ok (.aload_n 0, 1) := by decide +kernel
theorem dX5_fillTwo_139 : decode cX5_fillTwo 139 = .ok (.getfield 9, 3) := by decide +kernel
theorem dX5_fillTwo_142 : decode cX5_fillTwo 142 = .ok (.iload_n 2, 1) := by decide +kernel
theorem dX5_fillTwo_143 : decode cX5_fillTwo 143 = .ok (.iload 11, 2) := by decide +kernel
theorem dX5_fillTwo_145 : decode cX5_fillTwo 145 = .ok (.iastore, 1) := by decide +kernel
theorem dX5_fillTwo_146 : decode cX5_fillTwo 146 = .ok (.aload_n 0, 1) := by decide +kernel
theorem dX5_fillTwo_147 : decode cX5_fillTwo 147 = .ok (.getfield 9, 3) := by decide +kernel
theorem dX5_fillTwo_150 : decode cX5_fillTwo 150 = .ok (.iload 6, 2) := by decide +kernel
theorem dX5_fillTwo_152 : decode cX5_fillTwo 152 = .ok (.iload_n 3, 1) := by decide +kernel
theorem dX5_fillTwo_153 : decode cX5_fillTwo 153 = .ok (.iload 11, 2) := by decide +kernel
theorem dX5_fillTwo_155 : decode cX5_fillTwo 155 = .ok (.isub, 1) := by decide +kernel
theorem dX5_fillTwo_156 : decode cX5_fillTwo 156 = .ok (.iastore, 1) := by decide +kernel
theorem dX5_fillTwo_157 : decode cX5_fillTwo 157 = .ok (.aload_n 0, 1) := by decide +kernel
theorem dX5_fillTwo_158 : decode cX5_fillTwo 158 = .ok (.iload 12, 2) := by decide +kernel
theorem dX5_fillTwo_160 : decode cX5_fillTwo 160 = .ok (.iload 11, 2) := by decide +kernel
theorem dX5_fillTwo_162 : decode cX5_fillTwo 162 = .ok (.isub, 1) := by decide +kernel
theorem dX5_fillTwo_163 : decode cX5_fillTwo 163 = .ok (.iconst 1, 1) := by decide +kernel
theorem dX5_fillTwo_164 : decode cX5_fillTwo 164 = .ok (.iadd, 1) := by decide +kernel
theorem dX5_fillTwo_165 : decode cX5_fillTwo 165 = .ok (.invokevirtual 44, 3) := by decide +kernel
theorem dX5_fillTwo_168 : decode cX5_fillTwo 168 = .ok (.iload 12, 2) := by decide +kernel
theorem dX5_fillTwo_170 : decode cX5_fillTwo 170 = .ok (.iload 11, 2) := by decide +kernel
theorem dX5_fillTwo_172 : decode cX5_fillTwo 172 = .ok (.if_icmp .le 22, 3) := by decide +kernel
theorem dX5_fillTwo_175 : decode cX5_fillTwo 175 = .ok (.aload_n 0, 1) := by decide +kernel
theorem dX5_fillTwo_176 : decode cX5_fillTwo 176 = .ok (.dup, 1) := by decide +kernel
theorem dX5_fillTwo_177 : decode cX5_fillTwo 177 = .ok (.getfield 18, 3) := by decide +kernel
theorem dX5_fillTwo_180 : decode cX5_fillTwo 180 = .ok (.iconst 1, 1) := by decide +kernel
theorem dX5_fillTwo_181 : decode cX5_fillTwo 181 = .ok (.iload_n 2, 1) := by decide +kernel
theorem dX5_fillTwo_182 : decode cX5_fillTwo 182 = .ok (.ishl, 1) := by decide +kernel
theorem dX5_fillTwo_183 : decode cX5_fillTwo 183 = .ok (.iconst 1, 1) := by decide +kernel
theorem dX5_fillTwo_184 : decode cX5_fillTwo 184 = .ok (.iload 6, 2) := by decide +kernel
theorem dX5_fillTwo_186 : decode cX5_fillTwo 186 = .ok (.ishl, 1) := by decide +kernel
theorem dX5_fillTwo_187 : decode cX5_fillTwo 187 = .ok (.ior, 1) := by decide +kernel
theorem dX5_fillTwo_188 : decode cX5_fillTwo 188 = .ok (.iconst (-1), 1) := by decide +kernel
theorem dX5_fillTwo_189 : decode cX5_fillTwo 189 = .ok (.ixor, 1) := by decide +kernel
theorem dX5_fillTwo_190 : decode cX5_fillTwo 190 = .ok (.iand, 1) := by decide +kernel
theorem dX5_fillTwo_191 : decode cX5_fillTwo 191 = .ok (.putfield 18, 3) := by decide +kernel
theorem dX5_fillTwo_194 : decode cX5_fillTwo 194 = .ok (.return_, 1) := by decide +kernel
theorem dX5_keepRows_0 : decode cX5_keepRows 0 = .ok (.iconst 0, 1) := by decide +kernel
theorem dX5_keepRows_1 : decode cX5_keepRows 1 = .ok (.istore_n 2, 1) := by decide +kernel
theorem dX5_keepRows_2 : decode cX5_keepRows 2 = .ok (.iload_n 2, 1) := by decide +kernel
theorem dX5_keepRows_3 : decode cX5_keepRows 3 = .ok (.iconst 5, 1) := by decide +kernel
theorem dX5_keepRows_4 : decode cX5_keepRows 4 = .ok (.if_icmp .ge 53, 3) := by decide +kernel
theorem dX5_keepRows_7 : decode cX5_keepRows 7 = .ok (.aload_n 0, 1) := by decide +kernel
theorem dX5_keepRows_8 : decode cX5_keepRows 8 = .ok (.getfield 22, 3) := by decide +kernel
theorem dX5_keepRows_11 : decode cX5_keepRows 11 = .ok (.lconst 0, 1) := by decide +kernel
theorem dX5_keepRows_12 : decode cX5_keepRows 12 = .ok (.lcmp, 1) := by decide +kernel
theorem dX5_keepRows_13 : decode cX5_keepRows 13 = .ok (.ifCond .ne 15, 3) := by decide +kernel
theorem dX5_keepRows_16 : decode cX5_keepRows 16 = .ok (.aload_n 0, 1) := by decide +kernel
theorem dX5_keepRows_17 : decode cX5_keepRows 17 = .ok (.getfield 15, 3) := by decide +kernel
theorem dX5_keepRows_20 : decode cX5_keepRows 20 = .ok (.iload_n 2, 1) := by decide +kernel
theorem dX5_keepRows_21 : decode cX5_keepRows 21 = .ok (.aload_n 0, 1) := by decide +kernel
theorem dX5_keepRows_22 : decode cX5_keepRows 22 = .ok (.getfield 9, 3) := by decide +kernel
theorem dX5_keepRows_25 : decode cX5_keepRows 25 = .ok (.iload_n 2, 1) := by decide +kernel
theorem dX5_keepRows_26 : decode cX5_keepRows 26 = .ok (.iaload, 1) := by decide +kernel
theorem dX5_keepRows_27 : decode cX5_keepRows 27 = .ok (.iastore, 1) := by decide +kernel
theorem dX5_keepRows_28 : decode cX5_keepRows 28 = .ok (.aload_n 0, 1) := by decide +kernel
theorem dX5_keepRows_29 : decode cX5_keepRows 29 = .ok (.getfield 9, 3) := by decide +kernel
theorem dX5_keepRows_32 : decode cX5_keepRows 32 = .ok (.iload_n 2, 1) := by decide +kernel
theorem dX5_keepRows_33 : decode cX5_keepRows 33 = .ok (.iaload, 1) := by decide +kernel
theorem dX5_keepRows_34 : decode cX5_keepRows 34 = .ok (.ifCond .ne 17, 3) := by decide +kernel
theorem dX5_keepRows_37 : decode cX5_keepRows 37 = .ok (.aload_n 0, 1) := by decide +kernel
theorem dX5_keepRows_38 : decode cX5_keepRows 38 = .ok (.dup, 1) := by decide +kernel
theorem dX5_keepRows_39 : decode cX5_keepRows 39 = .ok (.getfield 18, 3) := by decide +kernel
theorem dX5_keepRows_42 : decode cX5_keepRows 42 = .ok (.iconst 1, 1) := by decide +kernel
theorem dX5_keepRows_43 : decode cX5_keepRows 43 = .ok (.iload_n 2, 1) := by decide +kernel
theorem dX5_keepRows_44 : decode cX5_keepRows 44 = .ok (.ishl, 1) := by decide +kernel
theorem dX5_keepRows_45 : decode cX5_keepRows 45 = .ok (.iconst (-1), 1) := by decide +kernel
theorem dX5_keepRows_46 : decode cX5_keepRows 46 = .ok (.ixor, 1) := by decide +kernel
theorem dX5_keepRows_47 : decode cX5_keepRows 47 = .ok (.iand, 1) := by decide +kernel
theorem dX5_keepRows_48 : decode cX5_keepRows 48 = .ok (.putfield 18, 3) := by decide +kernel
theorem dX5_keepRows_51 : decode cX5_keepRows 51 = .ok (.iinc 2 1, 3) := by decide +kernel
theorem dX5_keepRows_54 : decode cX5_keepRows 54 = .ok (.goto (-52), 3) := by decide +kernel
theorem dX5_keepRows_57 : decode cX5_keepRows 57 = .ok (.aload_n 0, 1) := by decide +kernel
theorem dX5_keepRows_58 : decode cX5_keepRows 58 = .ok (.dup, 1) := by decide +kernel
theorem dX5_keepRows_59 : decode cX5_keepRows 59 = .ok (.getfield 22, 3) := by decide +kernel
theorem dX5_keepRows_62 : decode cX5_keepRows 62 = .ok (.iload_n 1, 1) := by decide +kernel
theorem dX5_keepRows_63 : decode cX5_keepRows 63 = .ok (.i2l, 1) := by decide +kernel
theorem dX5_keepRows_64 : decode cX5_keepRows 64 = .ok (.ladd, 1) := by decide +kernel
theorem dX5_keepRows_65 : decode cX5_keepRows 65 = .ok (.putfield 22, 3) := by decide +kernel
theorem dX5_keepRows_68 : decode cX5_keepRows 68 = .ok (.return_, 1) := by decide +kernel
theorem dX6_init_0 : decode cX6_init 0 = .ok (.aload_n 0, 1) := by decide +kernel
theorem dX6_init_1 : decode cX6_init 1 = .ok (.invokespecial 3, 3) := by decide +kernel
theorem dX6_init_4 : decode cX6_init 4 = .ok (.aload_n 0, 1) := by decide +kernel
theorem dX6_init_5 : decode cX6_init 5 = .ok (.bipush 40, 2) := by decide +kernel
theorem dX6_init_7 : decode cX6_init 7 = .ok (.newarray .int, 2) := by decide +kernel
theorem dX6_init_9 : decode cX6_init 9 = .ok (.putfield 9, 3) := by decide +kernel
theorem dX6_init_12 : decode cX6_init 12 = .ok (.aload_n 0, 1) := by decide +kernel
theorem dX6_init_13 : decode cX6_init 13 = .ok (.bipush 40, 2) := by decide +kernel
theorem dX6_init_15 : decode cX6_init 15 = .ok (.newarray .int, 2) := by decide +kernel
theorem dX6_init_17 : decode cX6_init 17 = .ok (.putfield 15, 3) := by decide +kernel
theorem dX6_init_20 : decode cX6_init 20 = .ok (.aload_n 0, 1) := by decide +kernel
theorem dX6_init_21 : decode cX6_init 21 = .ok (.bipush 8, 2) := by decide +kernel
theorem dX6_init_23 : decode cX6_init 23 = .ok (.newarray .int, 2) := by decide +kernel
theorem dX6_init_25 : decode cX6_init 25 = .ok (.putfield 18, 3) := by decide +kernel
theorem dX6_init_28 : decode cX6_init 28 = .ok (.aload_n 0, 1) := by decide +kernel
theorem dX6_init_29 : decode cX6_init 29 = .ok (.bipush 8, 2) := by decide +kernel
theorem dX6_init_31 : decode cX6_init 31 = .ok (.newarray .int, 2) := by decide +kernel
theorem dX6_init_33 : decode cX6_init 33 = .ok (.putfield 21, 3) := by decide +kernel
theorem dX6_init_36 : decode cX6_init 36 = .ok (.aload_n 0, 1) := by decide +kernel
theorem dX6_init_37 : decode cX6_init 37 = .ok (.bipush 8, 2) := by decide +kernel
theorem dX6_init_39 : decode cX6_init 39 = .ok (.newarray .int, 2) := by decide +kernel
theorem dX6_init_41 : decode cX6_init 41 = .ok (.putfield 24, 3) := by decide +kernel
theorem dX6_init_44 : decode cX6_init 44 = .ok (.aload_n 0, 1) := by decide +kernel
theorem dX6_init_45 : decode cX6_init 45 = .ok (.iconst 0, 1) := by decide +kernel
theorem dX6_init_46 : decode cX6_init 46 = .ok (.putfield 27, 3) := by decide +kernel
theorem dX6_init_49 : decode cX6_init 49 = .ok (.aload_n 0, 1) := by decide +kernel
theorem dX6_init_50 : decode cX6_init 50 = .ok (.iconst 0, 1) := by decide +kernel
theorem dX6_init_51 : decode cX6_init 51 = .ok (.putfield 31, 3) := by decide +kernel
theorem dX6_init_54 : decode cX6_init 54 = .ok (.aload_n 0, 1) := by decide +kernel
theorem dX6_init_55 : decode cX6_init 55 = .ok (.iconst 0, 1) := by decide +kernel
theorem dX6_init_56 : decode cX6_init 56 = .ok (.putfield 34, 3) := by decide +kernel
theorem dX6_init_59 : decode cX6_init 59 = .ok (.return_, 1) := by decide +kernel
theorem dX6_begin_0 : decode cX6_begin 0 = .ok (.iconst 0, 1) := by decide +kernel
theorem dX6_begin_1 : decode cX6_begin 1 = .ok (.istore_n 2, 1) := by decide +kernel
theorem dX6_begin_2 : decode cX6_begin 2 = .ok (.iload_n 2, 1) := by decide +kernel
theorem dX6_begin_3 : decode cX6_begin 3 = .ok (.bipush 40, 2) := by decide +kernel
theorem dX6_begin_5 : decode cX6_begin 5 = .ok (.if_icmp .ge 16, 3) := by decide +kernel
theorem dX6_begin_8 : decode cX6_begin 8 = .ok (.aload_n 0, 1) := by decide +kernel
theorem dX6_begin_9 : decode cX6_begin 9 = .ok (.getfield 9, 3) := by decide +kernel
theorem dX6_begin_12 : decode cX6_begin 12 = .ok (.iload_n 2, 1) := by decide +kernel
theorem dX6_begin_13 : decode cX6_begin 13 = .ok (.iconst 0, 1) := by decide +kernel
theorem dX6_begin_14 : decode cX6_begin 14 = .ok (.iastore, 1) := by decide +kernel
theorem dX6_begin_15 : decode cX6_begin 15 = .ok (.iinc 2 1, 3) := by decide +kernel
theorem dX6_begin_18 : decode cX6_begin 18 = .ok (.goto (-16), 3) := by decide +kernel
theorem dX6_begin_21 : decode cX6_begin 21 = .ok (.iconst 0, 1) := by decide +kernel
theorem dX6_begin_22 : decode cX6_begin 22 = .ok (.istore_n 2, 1) := by decide +kernel
theorem dX6_begin_23 : decode cX6_begin 23 = .ok (.iload_n 2, 1) := by decide +kernel
theorem dX6_begin_24 : decode cX6_begin 24 = .ok (.bipush 8, 2) := by decide +kernel
theorem dX6_begin_26 : decode cX6_begin 26 = .ok (.if_icmp .ge 47, 3) := by decide +kernel
theorem dX6_begin_29 : decode cX6_begin 29 = .ok (.aload_n 0, 1) := by decide +kernel
theorem dX6_begin_30 : decode cX6_begin 30 = .ok (.getfield 18, 3) := by decide +kernel
theorem dX6_begin_33 : decode cX6_begin 33 = .ok (.iload_n 2, 1) := by decide +kernel
theorem dX6_begin_34 : decode cX6_begin 34 = .ok (.iconst 0, 1) := by decide +kernel
theorem dX6_begin_35 : decode cX6_begin 35 = .ok (.iastore, 1) := by decide +kernel
theorem dX6_begin_36 : decode cX6_begin 36 = .ok (.aload_n 0, 1) := by decide +kernel
theorem dX6_begin_37 : decode cX6_begin 37 = .ok (.getfield 21, 3) := by decide +kernel
theorem dX6_begin_40 : decode cX6_begin 40 = .ok (.iload_n 2, 1) := by decide +kernel
theorem dX6_begin_41 : decode cX6_begin 41 = .ok (.iload_n 2, 1) := by decide +kernel
theorem dX6_begin_42 : decode cX6_begin 42 = .ok (.aload_n 1, 1) := by decide +kernel
theorem dX6_begin_43 : decode cX6_begin 43 = .ok (.getfield 37, 3) := by decide +kernel
theorem dX6_begin_46 : decode cX6_begin 46 = .ok (.if_icmp .ge 12, 3) := by decide +kernel
theorem dX6_begin_49 : decode cX6_begin 49 = .ok (.aload_n 1, 1) := by decide +kernel
theorem dX6_begin_50 : decode cX6_begin 50 = .ok (.getfield 42, 3) := by decide +kernel
theorem dX6_begin_53 : decode cX6_begin 53 = .ok (.iload_n 2, 1) := by decide +kernel
theorem dX6_begin_54 : decode cX6_begin 54 = .ok (.iaload, 1) := by decide +kernel
theorem dX6_begin_55 : decode cX6_begin 55 = .ok (.goto 4, 3) := by decide +kernel
theorem dX6_begin_58 : decode cX6_begin 58 = .ok (.iconst 0, 1) := by decide +kernel
theorem dX6_begin_59 : decode cX6_begin 59 = .ok (.iastore, 1) := by decide +kernel
theorem dX6_begin_60 : decode cX6_begin 60 = .ok (.aload_n 0, 1) := by decide +kernel
theorem dX6_begin_61 : decode cX6_begin 61 = .ok (.getfield 24, 3) := by decide +kernel
theorem dX6_begin_64 : decode cX6_begin 64 = .ok (.iload_n 2, 1) := by decide +kernel
theorem dX6_begin_65 : decode cX6_begin 65 = .ok (.iconst 0, 1) := by decide +kernel
theorem dX6_begin_66 : decode cX6_begin 66 = .ok (.iastore, 1) := by decide +kernel
theorem dX6_begin_67 : decode cX6_begin 67 = .ok (.iinc 2 1, 3) := by decide +kernel
theorem dX6_begin_70 : decode cX6_begin 70 = .ok (.goto (-47), 3) := by decide +kernel
theorem dX6_begin_73 : decode cX6_begin 73 = .ok (.aload_n 0, 1) := by decide +kernel
theorem dX6_begin_74 : decode cX6_begin 74 = .ok (.iconst 0, 1) := by decide +kernel
theorem dX6_begin_75 : decode cX6_begin 75 = .ok (.putfield 27, 3) := by decide +kernel
theorem dX6_begin_78 : decode cX6_begin 78 = .ok (.aload_n 0, 1) := by decide +kernel
theorem dX6_begin_79 : decode cX6_begin 79 = .ok (.iconst 0, 1) := by decide +kernel
theorem dX6_begin_80 : decode cX6_begin 80 = .ok (.putfield 31, 3) := by decide +kernel
theorem dX6_begin_83 : decode cX6_begin 83 = .ok (.aload_n 0, 1) := by decide +kernel
theorem dX6_begin_84 : decode cX6_begin 84 = .ok (.iconst 0, 1) := by decide +kernel
theorem dX6_begin_85 : decode cX6_begin 85 = .ok (.putfield 34, 3) := by decide +kernel
theorem dX6_begin_88 : decode cX6_begin 88 = .ok (.return_, 1) := by decide +kernel
theorem dX6_copyFrom_0 : decode cX6_copyFrom 0 = .ok (.aload_n 1, 1) := by decide +kernel
theorem dX6_copyFrom_1 : decode cX6_copyFrom 1 = .ok (.getfield 9, 3) := by decide +kernel
theorem dX6_copyFrom_4 : decode cX6_copyFrom 4 = .ok (.iconst 0, 1) := by decide +kernel
theorem dX6_copyFrom_5 : decode cX6_copyFrom 5 = .ok (.aload_n 0, 1) := by decide +kernel
theorem dX6_copyFrom_6 : decode cX6_copyFrom 6 = .ok (.getfield 9, 3) := by decide +kernel
theorem dX6_copyFrom_9 : decode cX6_copyFrom 9 = .ok (.iconst 0, 1) := by decide +kernel
theorem dX6_copyFrom_10 : decode cX6_copyFrom 10 = .ok (.bipush 40, 2) := by decide +kernel
theorem dX6_copyFrom_12 : decode cX6_copyFrom 12 = .ok (.invokestatic 43, 3) := by decide +kernel
theorem dX6_copyFrom_15 : decode cX6_copyFrom 15 = .ok (.aload_n 1, 1) := by decide +kernel
theorem dX6_copyFrom_16 : decode cX6_copyFrom 16 = .ok (.getfield 18, 3) := by decide +kernel
theorem dX6_copyFrom_19 : decode cX6_copyFrom 19 = .ok (.iconst 0, 1) := by decide +kernel
theorem dX6_copyFrom_20 : decode cX6_copyFrom 20 = .ok (.aload_n 0, 1) := by decide +kernel
theorem dX6_copyFrom_21 : decode cX6_copyFrom 21 = .ok (.getfield 18, 3) := by decide +kernel
theorem dX6_copyFrom_24 : decode cX6_copyFrom 24 = .ok (.iconst 0, 1) := by decide +kernel
theorem dX6_copyFrom_25 : decode cX6_copyFrom 25 = .ok (.bipush 8, 2) := by decide +kernel
theorem dX6_copyFrom_27 : decode cX6_copyFrom 27 = .ok (.invokestatic 43, 3) := by decide +kernel
theorem dX6_copyFrom_30 : decode cX6_copyFrom 30 = .ok (.aload_n 1, 1) := by decide +kernel
theorem dX6_copyFrom_31 : decode cX6_copyFrom 31 = .ok (.getfield 21, 3) := by decide +kernel
theorem dX6_copyFrom_34 : decode cX6_copyFrom 34 = .ok (.iconst 0, 1) := by decide +kernel
theorem dX6_copyFrom_35 : decode cX6_copyFrom 35 = .ok (.aload_n 0, 1) := by decide +kernel
theorem dX6_copyFrom_36 : decode cX6_copyFrom 36 = .ok (.getfield 21, 3) := by decide +kernel
theorem dX6_copyFrom_39 : decode cX6_copyFrom 39 = .ok (.iconst 0, 1) := by decide +kernel
theorem dX6_copyFrom_40 : decode cX6_copyFrom 40 = .ok (.bipush 8, 2) := by decide +kernel
theorem dX6_copyFrom_42 : decode cX6_copyFrom 42 = .ok (.invokestatic 43, 3) := by decide +kernel
theorem dX6_copyFrom_45 : decode cX6_copyFrom 45 = .ok (.aload_n 1, 1) := by decide +kernel
theorem dX6_copyFrom_46 : decode cX6_copyFrom 46 = .ok (.getfield 24, 3) := by decide +kernel
theorem dX6_copyFrom_49 : decode cX6_copyFrom 49 = .ok (.iconst 0, 1) := by decide +kernel
theorem dX6_copyFrom_50 : decode cX6_copyFrom 50 = .ok (.aload_n 0, 1) := by decide +kernel
theorem dX6_copyFrom_51 : decode cX6_copyFrom 51 = .ok (.getfield 24, 3) := by decide +kernel
theorem dX6_copyFrom_54 : decode cX6_copyFrom 54 = .ok (.iconst 0, 1) := by decide +kernel
theorem dX6_copyFrom_55 : decode cX6_copyFrom 55 = .ok (.bipush 8, 2) := by decide +kernel
theorem dX6_copyFrom_57 : decode cX6_copyFrom 57 = .ok (.invokestatic 43, 3) := by decide +kernel
theorem dX6_copyFrom_60 : decode cX6_copyFrom 60 = .ok (.aload_n 0, 1) := by decide +kernel
theorem dX6_copyFrom_61 : decode cX6_copyFrom 61 = .ok (.aload_n 1, 1) := by decide +kernel
theorem dX6_copyFrom_62 : decode cX6_copyFrom 62 = .ok (.getfield 27, 3) := by decide +kernel
theorem dX6_copyFrom_65 : decode cX6_copyFrom 65 = .ok (.putfield 27, 3) := by decide +kernel
theorem dX6_copyFrom_68 : decode cX6_copyFrom 68 = .ok (.aload_n 0, 1) := by decide +kernel
theorem dX6_copyFrom_69 : decode cX6_copyFrom 69 = .ok (.aload_n 1, 1) := by decide +kernel
theorem dX6_copyFrom_70 : decode cX6_copyFrom 70 = .ok (.getfield 31, 3) := by decide +kernel
theorem dX6_copyFrom_73 : decode cX6_copyFrom 73 = .ok (.putfield 31, 3) := by decide +kernel
theorem dX6_copyFrom_76 : decode cX6_copyFrom 76 = .ok (.aload_n 0, 1) := by decide +kernel
theorem dX6_copyFrom_77 : decode cX6_copyFrom 77 = .ok (.aload_n 1, 1) := by decide +kernel
theorem dX6_copyFrom_78 : decode cX6_copyFrom 78 = .ok (.getfield 34, 3) := by decide +kernel
theorem dX6_copyFrom_81 : decode cX6_copyFrom 81 = .ok (.putfield 34, 3) := by decide +kernel
theorem dX6_copyFrom_84 : decode cX6_copyFrom 84 = .ok (.return_, 1) := by decide +kernel
theorem dX6_dropsOf_0 : decode cX6_dropsOf 0 = .ok (.aload_n 0, 1) := by decide +kernel
theorem dX6_dropsOf_1 : decode cX6_dropsOf 1 = .ok (.iload_n 1, 1) := by decide +kernel
theorem dX6_dropsOf_2 : decode cX6_dropsOf 2 = .ok (.iconst (-1), 1) := by decide +kernel
theorem dX6_dropsOf_3 : decode cX6_dropsOf 3 = .ok (.invokevirtual 49, 3) := by decide +kernel
theorem dX6_dropsOf_6 : decode cX6_dropsOf 6 = .ok (.ireturn, 1) := by decide +kernel
theorem dX6_dropsWithin_0 : decode cX6_dropsWithin 0 = .ok (.iload_n 1, 1) := by decide +kernel
theorem dX6_dropsWithin_1 : decode cX6_dropsWithin 1 = .ok (.iconst (-1), 1) := by decide +kernel
theorem dX6_dropsWithin_2 : decode cX6_dropsWithin 2 = .ok (.if_icmp .ne 7, 3) := by decide +kernel
theorem dX6_dropsWithin_5 : decode cX6_dropsWithin 5 = .ok (.iconst 0, 1) := by decide +kernel
theorem dX6_dropsWithin_6 : decode cX6_dropsWithin 6 = .ok (.goto 4, 3) := by decide +kernel
theorem dX6_dropsWithin_9 : decode cX6_dropsWithin 9 = .ok (.iload_n 1, 1) := by decide +kernel
theorem dX6_dropsWithin_10 : decode cX6_dropsWithin 10 = .ok (.istore_n 3, 1) := by decide +kernel
theorem dX6_dropsWithin_11 : decode cX6_dropsWithin 11 = .ok (.iload_n 1, 1) := by decide +kernel
theorem dX6_dropsWithin_12 : decode cX6_dropsWithin 12 = .ok (.iconst (-1), 1) := by decide +kernel
theorem dX6_dropsWithin_13 : decode cX6_dropsWithin 13 = .ok (.if_icmp .ne 8, 3) := by decide +kernel
theorem dX6_dropsWithin_16 : decode cX6_dropsWithin 16 = .ok (.bipush 7, 2) := by decide +kernel
theorem dX6_dropsWithin_18 : decode cX6_dropsWithin 18 = .ok (.goto 4, 3) := by decide +kernel
theorem dX6_dropsWithin_21 : decode cX6_dropsWithin 21 = .ok (.iload_n 1, 1) := by decide +kernel
theorem dX6_dropsWithin_22 : decode cX6_dropsWithin 22 = .ok (.istore 4, 2) := by decide +kernel
theorem dX6_dropsWithin_24 : decode cX6_dropsWithin 24 = .ok (.iload_n 2, 1) := by decide +kernel
theorem dX6_dropsWithin_25 : decode cX6_dropsWithin 25 = .ok (.iconst (-1), 1) := by decide +kernel
theorem dX6_dropsWithin_26 : decode cX6_dropsWithin 26 = .ok (.if_icmp .ne 7, 3) := by decide +kernel
theorem dX6_dropsWithin_29 : decode cX6_dropsWithin 29 = .ok (.iconst 0, 1) := by decide +kernel
theorem dX6_dropsWithin_30 : decode cX6_dropsWithin 30 = .ok (.goto 4, 3) := by decide +kernel
theorem dX6_dropsWithin_33 : decode cX6_dropsWithin 33 = .ok (.iload_n 2, 1) := by decide +kernel
theorem dX6_dropsWithin_34 : decode cX6_dropsWithin 34 = .ok (.istore 5, 2) := by decide +kernel
theorem dX6_dropsWithin_36 : decode cX6_dropsWithin 36 = .ok (.iload_n 2, 1) := by decide +kernel
theorem dX6_dropsWithin_37 : decode cX6_dropsWithin 37 = .ok (.iconst (-1), 1) := by decide +kernel
theorem dX6_dropsWithin_38 : decode cX6_dropsWithin 38 = .ok (.if_icmp .ne 7, 3) := by decide +kernel
theorem dX6_dropsWithin_41 : decode cX6_dropsWithin 41 = .ok (.iconst 4, 1) := by decide +kernel
theorem dX6_dropsWithin_42 : decode cX6_dropsWithin 42 = .ok (.goto 4, 3) := by decide +kernel
theorem dX6_dropsWithin_45 : decode cX6_dropsWithin 45 = .ok (.iload_n 2, 1) := by decide +kernel
theorem dX6_dropsWithin_46 : decode cX6_dropsWithin 46 = .ok (.istore 6, 2) := by decide +kernel
theorem dX6_dropsWithin_48 : decode cX6_dropsWithin 48 = .ok (.iconst 0, 1) := by decide +kernel
theorem dX6_dropsWithin_49 : decode cX6_dropsWithin 49 = .ok (.istore 7, 2) := by decide +kernel
theorem dX6_dropsWithin_51 : decode cX6_dropsWithin 51 = .ok (.iload_n 3, 1) := by decide +kernel
theorem dX6_dropsWithin_52 : decode cX6_dropsWithin 52 = .ok (.istore 8, 2) := by decide +kernel
theorem dX6_dropsWithin_54 : decode cX6_dropsWithin 54 = .ok (.iload 8, 2) := by decide +kernel
theorem dX6_dropsWithin_56 : decode cX6_dropsWithin 56 = .ok (.iload 4, 2) := by decide +kernel
theorem dX6_dropsWithin_58 : decode cX6_dropsWithin 58 = .ok (.if_icmp .gt 43, 3) := by decide +kernel
theorem dX6_dropsWithin_61 : decode cX6_dropsWithin 61 = .ok (.iload 5, 2) := by decide +kernel
theorem dX6_dropsWithin_63 : decode cX6_dropsWithin 63 = .ok (.istore 9, 2) := by decide +kernel
theorem dX6_dropsWithin_65 : decode cX6_dropsWithin 65 = .ok (.iload 9, 2) := by decide +kernel
theorem dX6_dropsWithin_67 : decode cX6_dropsWithin 67 = .ok (.iload 6, 2) := by decide +kernel
theorem dX6_dropsWithin_69 : decode cX6_dropsWithin 69 = .ok (.if_icmp .gt 26, 3) := by decide +kernel
theorem dX6_dropsWithin_72 : decode cX6_dropsWithin 72 = .ok (.iload 7, 2) := by decide +kernel
theorem dX6_dropsWithin_74 : decode cX6_dropsWithin 74 = .ok (.aload_n 0, 1) := by decide +kernel
theorem dX6_dropsWithin_75 : decode cX6_dropsWithin 75 = .ok (.getfield 9, 3) := by decide +kernel
theorem dX6_dropsWithin_78 : decode cX6_dropsWithin 78 = .ok (.iload 8, 2) := by decide +kernel
theorem dX6_dropsWithin_80 : decode cX6_dropsWithin 80 = .ok (.iconst 5, 1) := by decide +kernel
theorem dX6_dropsWithin_81 : decode cX6_dropsWithin 81 = .ok (.imul, 1) := by decide +kernel
theorem dX6_dropsWithin_82 : decode cX6_dropsWithin 82 = .ok (.iload 9, 2) := by decide +kernel
theorem dX6_dropsWithin_84 : decode cX6_dropsWithin 84 = .ok (.iadd, 1) := by decide +kernel
theorem dX6_dropsWithin_85 : decode cX6_dropsWithin 85 = .ok (.iaload, 1) := by decide +kernel
theorem dX6_dropsWithin_86 : decode cX6_dropsWithin 86 = .ok (.iadd, 1) := by decide +kernel
theorem dX6_dropsWithin_87 : decode cX6_dropsWithin 87 = .ok (.istore 7, 2) := by decide +kernel
theorem dX6_dropsWithin_89 : decode cX6_dropsWithin 89 = .ok (.iinc 9 1, 3) := by decide +kernel
theorem dX6_dropsWithin_92 : decode cX6_dropsWithin 92 = .ok (.goto (-27), 3) := by decide +kernel
theorem dX6_dropsWithin_95 : decode cX6_dropsWithin 95 = .ok (.iinc 8 1, 3) := by decide +kernel
theorem dX6_dropsWithin_98 : decode cX6_dropsWithin 98 = .ok (.goto (-44), 3) := by decide +kernel
theorem dX6_dropsWithin_101 : decode cX6_dropsWithin 101 = .ok (.iload 7, 2) := by decide +kernel
theorem dX6_dropsWithin_103 : decode cX6_dropsWithin 103 = .ok (.ireturn, 1) := by decide +kernel
theorem dX6_dueOf_0 : decode cX6_dueOf 0 = .ok (.aload_n 0, 1) := by decide +kernel
theorem dX6_dueOf_1 : decode cX6_dueOf 1 = .ok (.getfield 27, 3) := by decide +kernel
theorem dX6_dueOf_4 : decode cX6_dueOf 4 = .ok (.aload_n 0, 1) := by decide +kernel
theorem dX6_dueOf_5 : decode cX6_dueOf 5 = .ok (.getfield 21, 3) := by decide +kernel
theorem dX6_dueOf_8 : decode cX6_dueOf 8 = .ok (.iload_n 1, 1) := by decide +kernel
theorem dX6_dueOf_9 : decode cX6_dueOf 9 = .ok (.iaload, 1) := by decide +kernel
theorem dX6_dueOf_10 : decode cX6_dueOf 10 = .ok (.imul, 1) := by decide +kernel
theorem dX6_dueOf_11 : decode cX6_dueOf 11 = .ok (.iconst 1, 1) := by decide +kernel
theorem dX6_dueOf_12 : decode cX6_dueOf 12 = .ok (.aload_n 0, 1) := by decide +kernel
theorem dX6_dueOf_13 : decode cX6_dueOf 13 = .ok (.getfield 21, 3) := by decide +kernel
theorem dX6_dueOf_16 : decode cX6_dueOf 16 = .ok (.invokestatic 53, 3) := by decide +kernel
theorem dX6_dueOf_19 : decode cX6_dueOf 19 = .ok (.invokestatic 57, 3) := by decide +kernel
theorem dX6_dueOf_22 : decode cX6_dueOf 22 = .ok (.idiv, 1) := by decide +kernel
theorem dX6_dueOf_23 : decode cX6_dueOf 23 = .ok (.ireturn, 1) := by decide +kernel
theorem dX6_rankOf_0 : decode cX6_rankOf 0 = .ok (.aload_n 0, 1) := by decide +kernel
theorem dX6_rankOf_1 : decode cX6_rankOf 1 = .ok (.iload_n 1, 1) := by decide +kernel
theorem dX6_rankOf_2 : decode cX6_rankOf 2 = .ok (.invokevirtual 62, 3) := by decide +kernel
theorem dX6_rankOf_5 : decode cX6_rankOf 5 = .ok (.istore_n 3, 1) := by decide +kernel
theorem dX6_rankOf_6 : decode cX6_rankOf 6 = .ok (.iconst 0, 1) := by decide +kernel
theorem dX6_rankOf_7 : decode cX6_rankOf 7 = .ok (.istore 4, 2) := by decide +kernel
theorem dX6_rankOf_9 : decode cX6_rankOf 9 = .ok (.iconst 0, 1) := by decide +kernel
theorem dX6_rankOf_10 : decode cX6_rankOf 10 = .ok (.istore 5, 2) := by decide +kernel
theorem dX6_rankOf_12 : decode cX6_rankOf 12 = .ok (.iload 5, 2) := by decide +kernel
theorem dX6_rankOf_14 : decode cX6_rankOf 14 = .ok (.iload_n 2, 1) := by decide +kernel
theorem dX6_rankOf_15 : decode cX6_rankOf 15 = .ok (.if_icmp .ge 38, 3) := by decide +kernel
theorem dX6_rankOf_18 : decode cX6_rankOf 18 = .ok (.aload_n 0, 1) := by decide +kernel
theorem dX6_rankOf_19 : decode cX6_rankOf 19 = .ok (.iload 5, 2) := by decide +kernel
theorem dX6_rankOf_21 : decode cX6_rankOf 21 = .ok (.invokevirtual 62, 3) := by decide +kernel
theorem dX6_rankOf_24 : decode cX6_rankOf 24 = .ok (.istore 6, 2) := by decide +kernel
theorem dX6_rankOf_26 : decode cX6_rankOf 26 = .ok (.iload 6, 2) := by decide +kernel
theorem dX6_rankOf_28 : decode cX6_rankOf 28 = .ok (.iload_n 3, 1) := by decide +kernel
theorem dX6_rankOf_29 : decode cX6_rankOf 29 = .ok (.if_icmp .gt 15, 3) := by decide +kernel
theorem dX6_rankOf_32 : decode cX6_rankOf 32 = .ok (.iload 6, 2) := by decide +kernel
theorem dX6_rankOf_34 : decode cX6_rankOf 34 = .ok (.iload_n 3, 1) := by decide +kernel
theorem dX6_rankOf_35 : decode cX6_rankOf 35 = .ok (.if_icmp .ne 12, 3) := by decide +kernel
theorem dX6_rankOf_38 : decode cX6_rankOf 38 = .ok (.iload 5, 2) := by decide +kernel
theorem dX6_rankOf_40 : decode cX6_rankOf 40 = .ok (.iload_n 1, 1) := by decide +kernel
theorem dX6_rankOf_41 : decode cX6_rankOf 41 = .ok (.if_icmp .ge 6, 3) := by decide +kernel
theorem dX6_rankOf_44 : decode cX6_rankOf 44 = .ok (.iinc 4 1, 3) := by decide +kernel
theorem dX6_rankOf_47 : decode cX6_rankOf 47 = .ok (.iinc 5 1, 3) := by decide +kernel
theorem dX6_rankOf_50 : decode cX6_rankOf 50 = .ok (.goto (-38), 3) := by decide +kernel
theorem dX6_rankOf_53 : decode cX6_rankOf 53 = .ok (.iload 4, 2) := by decide +kernel
theorem dX6_rankOf_55 : decode cX6_rankOf 55 = .ok (.ireturn, 1) := by decide +kernel
theorem dX6_heirOfRank_0 : decode cX6_heirOfRank 0 = .ok (.iconst 0, 1) := by decide +kernel
theorem dX6_heirOfRank_1 : decode cX6_heirOfRank 1 = .ok (.istore_n 3, 1) := by decide +kernel
theorem dX6_heirOfRank_2 : decode cX6_heirOfRank 2 = .ok (.iload_n 3, 1) := by decide +kernel
theorem dX6_heirOfRank_3 : decode cX6_heirOfRank 3 = .ok (.iload_n 2, 1) := by decide +kernel
theorem dX6_heirOfRank_4 : decode cX6_heirOfRank 4 = .ok (.if_icmp .ge 21, 3) := by decide +kernel
theorem dX6_heirOfRank_7 : decode cX6_heirOfRank 7 = .ok (.aload_n 0, 1) := by decide +kernel
theorem dX6_heirOfRank_8 : decode cX6_heirOfRank 8 = .ok (.iload_n 3, 1) := by decide +kernel
theorem dX6_heirOfRank_9 : decode cX6_heirOfRank 9 = .ok (.iload_n 2, 1) := by decide +kernel
theorem dX6_heirOfRank_10 : decode cX6_heirOfRank 10 = .ok (.invokevirtual 66, 3) := by decide +kernel
theorem dX6_heirOfRank_13 : decode cX6_heirOfRank 13 = .ok (.iload_n 1, 1) := by decide +kernel
theorem dX6_heirOfRank_14 : decode cX6_heirOfRank 14 = .ok (.if_icmp .ne 5, 3) := by decide +kernel
theorem dX6_heirOfRank_17 : decode cX6_heirOfRank 17 = .ok (.iload_n 3, 1) := by decide +kernel
theorem dX6_heirOfRank_18 : decode cX6_heirOfRank 18 = .ok (.ireturn, 1) := by decide +kernel
theorem dX6_heirOfRank_19 : decode cX6_heirOfRank 19 = .ok (.iinc 3 1, 3) := by decide +kernel
theorem dX6_heirOfRank_22 : decode cX6_heirOfRank 22 = .ok (.goto (-20), 3) := by decide +kernel
theorem dX6_heirOfRank_25 : decode cX6_heirOfRank 25 = .ok (.iconst (-1), 1) := by decide +kernel
theorem dX6_heirOfRank_26 : decode cX6_heirOfRank 26 = .ok (.ireturn, 1) := by decide +kernel
theorem dX6_saltiness_0 : decode cX6_saltiness 0 = .ok (.aload_n 0, 1) := by decide +kernel
theorem dX6_saltiness_1 : decode cX6_saltiness 1 = .ok (.getfield 27, 3) := by decide +kernel
theorem dX6_saltiness_4 : decode cX6_saltiness 4 = .ok (.ifCond .le 21, 3) := by decide +kernel
theorem dX6_saltiness_7 : decode cX6_saltiness 7 = .ok (.aload_n 0, 1) := by decide +kernel
theorem dX6_saltiness_8 : decode cX6_saltiness 8 = .ok (.getfield 31, 3) := by decide +kernel
theorem dX6_saltiness_11 : decode cX6_saltiness 11 = .ok (.i2l, 1) := by decide +kernel
theorem dX6_saltiness_12 : decode cX6_saltiness 12 = .ok (.ldc2_w 69, 3) := by decide +kernel
theorem dX6_saltiness_15 : decode cX6_saltiness 15 = .ok (.lmul, 1) := by decide +kernel
theorem dX6_saltiness_16 : decode cX6_saltiness 16 = .ok (.aload_n 0, 1) := by decide +kernel
theorem dX6_saltiness_17 : decode cX6_saltiness 17 = .ok (.getfield 27, 3) := by decide +kernel
theorem dX6_saltiness_20 : decode cX6_saltiness 20 = .ok (.i2l, 1) := by decide +kernel
theorem dX6_saltiness_21 : decode cX6_saltiness 21 = .ok (.ldiv, 1) := by decide +kernel
theorem dX6_saltiness_22 : decode cX6_saltiness 22 = .ok (.goto 4, 3) := by decide +kernel
theorem dX6_saltiness_25 : decode cX6_saltiness 25 = .ok (.lconst 0, 1) := by decide +kernel
theorem dX6_saltiness_26 : decode cX6_saltiness 26 = .ok (.lreturn, 1) := by decide +kernel
theorem dX6_wins_0 : decode cX6_wins 0 = .ok (.iconst 0, 1) := by decide +kernel
theorem dX6_wins_1 : decode cX6_wins 1 = .ok (.istore_n 2, 1) := by decide +kernel
theorem dX6_wins_2 : decode cX6_wins 2 = .ok (.iconst 0, 1) := by decide +kernel
theorem dX6_wins_3 : decode cX6_wins 3 = .ok (.istore_n 3, 1) := by decide +kernel
theorem dX6_wins_4 : decode cX6_wins 4 = .ok (.iload_n 3, 1) := by decide +kernel
theorem dX6_wins_5 : decode cX6_wins 5 = .ok (.bipush 8, 2) := by decide +kernel
theorem dX6_wins_7 : decode cX6_wins 7 = .ok (.if_icmp .ge 25, 3) := by decide +kernel
theorem dX6_wins_10 : decode cX6_wins 10 = .ok (.iload_n 1, 1) := by decide +kernel
theorem dX6_wins_11 : decode cX6_wins 11 = .ok (.iload_n 3, 1) := by decide +kernel
theorem dX6_wins_12 : decode cX6_wins 12 = .ok (.ishr, 1) := by decide +kernel
theorem dX6_wins_13 : decode cX6_wins 13 = .ok (.iconst 1, 1) := by decide +kernel
theorem dX6_wins_14 : decode cX6_wins 14 = .ok (.iand, 1) := by decide +kernel
theorem dX6_wins_15 : decode cX6_wins 15 = .ok (.ifCond .eq 11, 3) := by decide +kernel
theorem dX6_wins_18 : decode cX6_wins 18 = .ok (.iload_n 2, 1) := by decide +kernel
theorem dX6_wins_19 : decode cX6_wins 19 = .ok (.aload_n 0, 1) := by decide +kernel
theorem dX6_wins_20 : decode cX6_wins 20 = .ok (.iload_n 3, 1) := by decide +kernel
theorem dX6_wins_21 : decode cX6_wins 21 = .ok (.invokevirtual 62, 3) := by decide +kernel
theorem dX6_wins_24 : decode cX6_wins 24 = .ok (.iadd, 1) := by decide +kernel
theorem dX6_wins_25 : decode cX6_wins 25 = .ok (.istore_n 2, 1) := by decide +kernel
theorem dX6_wins_26 : decode cX6_wins 26 = .ok (.iinc 3 1, 3) := by decide +kernel
theorem dX6_wins_29 : decode cX6_wins 29 = .ok (.goto (-25), 3) := by decide +kernel
theorem dX6_wins_32 : decode cX6_wins 32 = .ok (.iconst 2, 1) := by decide +kernel
theorem dX6_wins_33 : decode cX6_wins 33 = .ok (.iload_n 2, 1) := by decide +kernel
theorem dX6_wins_34 : decode cX6_wins 34 = .ok (.imul, 1) := by decide +kernel
theorem dX6_wins_35 : decode cX6_wins 35 = .ok (.aload_n 0, 1) := by decide +kernel
theorem dX6_wins_36 : decode cX6_wins 36 = .ok (.getfield 27, 3) := by decide +kernel
theorem dX6_wins_39 : decode cX6_wins 39 = .ok (.if_icmp .le 7, 3) := by decide +kernel
theorem dX6_wins_42 : decode cX6_wins 42 = .ok (.iconst 1, 1) := by decide +kernel
theorem dX6_wins_43 : decode cX6_wins 43 = .ok (.goto 4, 3) := by decide +kernel
theorem dX6_wins_46 : decode cX6_wins 46 = .ok (.iconst 0, 1) := by decide +kernel
theorem dX6_wins_47 : decode cX6_wins 47 = .ok (.ireturn, 1) := by decide +kernel
theorem dX6_passWeeks_0 : decode cX6_passWeeks 0 = .ok (.iconst 0, 1) := by decide +kernel
theorem dX6_passWeeks_1 : decode cX6_passWeeks 1 = .ok (.istore 4, 2) := by decide +kernel
theorem dX6_passWeeks_3 : decode cX6_passWeeks 3 = .ok (.iload 4, 2) := by decide +kernel
theorem dX6_passWeeks_5 : decode cX6_passWeeks 5 = .ok (.iload_n 2, 1) := by decide +kernel
theorem dX6_passWeeks_6 : decode cX6_passWeeks 6 = .ok (.if_icmp .ge 15, 3) := by decide +kernel
theorem dX6_passWeeks_9 : decode cX6_passWeeks 9 = .ok (.aload_n 0, 1) := by decide +kernel
theorem dX6_passWeeks_10 : decode cX6_passWeeks 10 = .ok (.aload_n 1, 1) := by decide +kernel
theorem dX6_passWeeks_11 : decode cX6_passWeeks 11 = .ok (.iload_n 3, 1) := by decide +kernel
theorem dX6_passWeeks_12 : decode cX6_passWeeks 12 = .ok (.invokevirtual 71, 3) := by decide +kernel
theorem dX6_passWeeks_15 : decode cX6_passWeeks 15 = .ok (.iinc 4 1, 3) := by decide +kernel
theorem dX6_passWeeks_18 : decode cX6_passWeeks 18 = .ok (.goto (-15), 3) := by decide +kernel
theorem dX6_passWeeks_21 : decode cX6_passWeeks 21 = .ok (.return_, 1) := by decide +kernel
theorem dX6_passWeek_0 : decode cX6_passWeek 0 = .ok (.iconst 0, 1) := by decide +kernel
theorem dX6_passWeek_1 : decode cX6_passWeek 1 = .ok (.istore_n 3, 1) := by decide +kernel
theorem dX6_passWeek_2 : decode cX6_passWeek 2 = .ok (.iload_n 3, 1) := by decide +kernel
theorem dX6_passWeek_3 : decode cX6_passWeek 3 = .ok (.aload_n 1, 1) := by decide +kernel
theorem dX6_passWeek_4 : decode cX6_passWeek 4 = .ok (.getfield 75, 3) := by decide +kernel
theorem dX6_passWeek_7 : decode cX6_passWeek 7 = .ok (.if_icmp .ge 31, 3) := by decide +kernel
theorem dX6_passWeek_10 : decode cX6_passWeek 10 = .ok (.aload_n 1, 1) := by decide +kernel
theorem dX6_passWeek_11 : decode cX6_passWeek 11 = .ok (.getfield 78, 3) := by decide +kernel
theorem dX6_passWeek_14 : decode cX6_passWeek 14 = .ok (.iload_n 3, 1) := by decide +kernel
theorem dX6_passWeek_15 : decode cX6_passWeek 15 = .ok (.iaload, 1) := by decide +kernel
theorem dX6_passWeek_16 : decode cX6_passWeek 16 = .ok (.iload_n 2, 1) := by decide +kernel
theorem dX6_passWeek_17 : decode cX6_passWeek 17 = .ok (.if_icmp .eq 15, 3) := by decide +kernel
theorem dX6_passWeek_20 : decode cX6_passWeek 20 = .ok (.aload_n 0, 1) := by decide +kernel
theorem dX6_passWeek_21 : decode cX6_passWeek 21 = .ok (.aload_n 1, 1) := by decide +kernel
theorem dX6_passWeek_22 : decode cX6_passWeek 22 = .ok (.iload_n 3, 1) := by decide +kernel
theorem dX6_passWeek_23 : decode cX6_passWeek 23 = .ok (.aload_n 0, 1) := by decide +kernel
theorem dX6_passWeek_24 : decode cX6_passWeek 24 = .ok (.aload_n 1, 1) := by decide +kernel
theorem dX6_passWeek_25 : decode cX6_passWeek 25 = .ok (.iload_n 3, 1) := by decide +kernel
theorem dX6_passWeek_26 : decode cX6_passWeek 26 = .ok (.invokevirtual 81, 3) := by decide +kernel
theorem dX6_passWeek_29 : decode cX6_passWeek 29 = .ok (.invokevirtual 85, 3) := by decide +kernel
theorem dX6_passWeek_32 : decode cX6_passWeek 32 = .ok (.iinc 3 1, 3) := by decide +kernel
theorem dX6_passWeek_35 : decode cX6_passWeek 35 = .ok (.goto (-33), 3) := by decide +kernel
theorem dX6_passWeek_38 : decode cX6_passWeek 38 = .ok (.aload_n 1, 1) := by decide +kernel
theorem dX6_passWeek_39 : decode cX6_passWeek 39 = .ok (.getfield 89, 3) := by decide +kernel
theorem dX6_passWeek_42 : decode cX6_passWeek 42 = .ok (.iconst (-1), 1) := by decide +kernel
theorem dX6_passWeek_43 : decode cX6_passWeek 43 = .ok (.if_icmp .eq 83, 3) := by decide +kernel
theorem dX6_passWeek_46 : decode cX6_passWeek 46 = .ok (.aload_n 1, 1) := by decide +kernel
theorem dX6_passWeek_47 : decode cX6_passWeek 47 = .ok (.getfield 92, 3) := by decide +kernel
theorem dX6_passWeek_50 : decode cX6_passWeek 50 = .ok (.aload_n 0, 1) := by decide +kernel
theorem dX6_passWeek_51 : decode cX6_passWeek 51 = .ok (.getfield 34, 3) := by decide +kernel
theorem dX6_passWeek_54 : decode cX6_passWeek 54 = .ok (.aload_n 0, 1) := by decide +kernel
theorem dX6_passWeek_55 : decode cX6_passWeek 55 = .ok (.getfield 27, 3) := by decide +kernel
theorem dX6_passWeek_58 : decode cX6_passWeek 58 = .ok (.aload_n 0, 1) := by decide +kernel
theorem dX6_passWeek_59 : decode cX6_passWeek 59 = .ok (.getfield 31, 3) := by decide +kernel
theorem dX6_passWeek_62 : decode cX6_passWeek 62 = .ok (.aload_n 0, 1) := by decide +kernel
theorem dX6_passWeek_63 : decode cX6_passWeek 63 = .ok (.getfield 21, 3) := by decide +kernel
theorem dX6_passWeek_66 : decode cX6_passWeek 66 = .ok (.invokestatic 53, 3) := by decide +kernel
theorem dX6_passWeek_69 : decode cX6_passWeek 69 = .ok (.aload_n 0, 1) := by decide +kernel
theorem dX6_passWeek_70 : decode cX6_passWeek 70 = .ok (.getfield 24, 3) := by decide +kernel
theorem dX6_passWeek_73 : decode cX6_passWeek 73 = .ok (.invokestatic 53, 3) := by decide +kernel
theorem dX6_passWeek_76 : decode cX6_passWeek 76 = .ok (.invokevirtual 96, 3) := by decide +kernel
theorem dX6_passWeek_79 : decode cX6_passWeek 79 = .ok (.aload_n 1, 1) := by decide +kernel
theorem dX6_passWeek_80 : decode cX6_passWeek 80 = .ok (.getfield 92, 3) := by decide +kernel
theorem dX6_passWeek_83 : decode cX6_passWeek 83 = .ok (.aload_n 1, 1) := by decide +kernel
theorem dX6_passWeek_84 : decode cX6_passWeek 84 = .ok (.getfield 102, 3) := by decide +kernel
theorem dX6_passWeek_87 : decode cX6_passWeek 87 = .ok (.bipush 20, 2) := by decide +kernel
theorem dX6_passWeek_89 : decode cX6_passWeek 89 = .ok (.aload_n 0, 1) := by decide +kernel
theorem dX6_passWeek_90 : decode cX6_passWeek 90 = .ok (.getfield 34, 3) := by decide +kernel
theorem dX6_passWeek_93 : decode cX6_passWeek 93 = .ok (.imul, 1) := by decide +kernel
theorem dX6_passWeek_94 : decode cX6_passWeek 94 = .ok (.bipush 19, 2) := by decide +kernel
theorem dX6_passWeek_96 : decode cX6_passWeek 96 = .ok (.iadd, 1) := by decide +kernel
theorem dX6_passWeek_97 : decode cX6_passWeek 97 = .ok (.invokevirtual 105, 3) := by decide +kernel
theorem dX6_passWeek_100 : decode cX6_passWeek 100 = .ok (.aload_n 0, 1) := by decide +kernel
theorem dX6_passWeek_101 : decode cX6_passWeek 101 = .ok (.iconst 0, 1) := by decide +kernel
theorem dX6_passWeek_102 : decode cX6_passWeek 102 = .ok (.aload_n 0, 1) := by decide +kernel
theorem dX6_passWeek_103 : decode cX6_passWeek 103 = .ok (.getfield 27, 3) := by decide +kernel
theorem dX6_passWeek_106 : decode cX6_passWeek 106 = .ok (.aload_n 1, 1) := by decide +kernel
theorem dX6_passWeek_107 : decode cX6_passWeek 107 = .ok (.getfield 92, 3) := by decide +kernel
theorem dX6_passWeek_110 : decode cX6_passWeek 110 = .ok (.aload_n 1, 1) := by decide +kernel
theorem dX6_passWeek_111 : decode cX6_passWeek 111 = .ok (.getfield 89, 3) := by decide +kernel
theorem dX6_passWeek_114 : decode cX6_passWeek 114 = .ok (.invokevirtual 109, 3) := by decide +kernel
theorem dX6_passWeek_117 : decode cX6_passWeek 117 = .ok (.invokestatic 112, 3) := by decide +kernel
theorem dX6_passWeek_120 : decode cX6_passWeek 120 = .ok (.invokestatic 57, 3) := by decide +kernel
theorem dX6_passWeek_123 : decode cX6_passWeek 123 = .ok (.invokevirtual 115, 3) := by decide +kernel
theorem dX6_passWeek_126 : decode cX6_passWeek 126 = .ok (.aload_n 0, 1) := by decide +kernel
theorem dX6_passWeek_127 : decode cX6_passWeek 127 = .ok (.dup, 1) := by decide +kernel
theorem dX6_passWeek_128 : decode cX6_passWeek 128 = .ok (.getfield 34, 3) := by decide +kernel
theorem dX6_passWeek_131 : decode cX6_passWeek 131 = .ok (.iconst 1, 1) := by decide +kernel
theorem dX6_passWeek_132 : decode cX6_passWeek 132 = .ok (.iadd, 1) := by decide +kernel
theorem dX6_passWeek_133 : decode cX6_passWeek 133 = .ok (.putfield 34, 3) := by decide +kernel
theorem dX6_passWeek_136 : decode cX6_passWeek 136 = .ok (.return_, 1) := by decide +kernel
theorem dX6_toldBy_0 : decode cX6_toldBy 0 = .ok (.aload_n 1, 1) := by decide +kernel
theorem dX6_toldBy_1 : decode cX6_toldBy 1 = .ok (.getfield 78, 3) := by decide +kernel
theorem dX6_toldBy_4 : decode cX6_toldBy 4 = .ok (.iload_n 2, 1) := by decide +kernel
theorem dX6_toldBy_5 : decode cX6_toldBy 5 = .ok (.iaload, 1) := by decide +kernel
theorem dX6_toldBy_6 : decode cX6_toldBy 6 = .ok (.istore_n 3, 1) := by decide +kernel
theorem dX6_toldBy_7 : decode cX6_toldBy 7 = .ok (.aload_n 1, 1) := by decide +kernel
theorem dX6_toldBy_8 : decode cX6_toldBy 8 = .ok (.getfield 92, 3) := by decide +kernel
theorem dX6_toldBy_11 : decode cX6_toldBy 11 = .ok (.aload_n 0, 1) := by decide +kernel
theorem dX6_toldBy_12 : decode cX6_toldBy 12 = .ok (.getfield 34, 3) := by decide +kernel
theorem dX6_toldBy_15 : decode cX6_toldBy 15 = .ok (.aload_n 0, 1) := by decide +kernel
theorem dX6_toldBy_16 : decode cX6_toldBy 16 = .ok (.getfield 27, 3) := by decide +kernel
theorem dX6_toldBy_19 : decode cX6_toldBy 19 = .ok (.aload_n 0, 1) := by decide +kernel
theorem dX6_toldBy_20 : decode cX6_toldBy 20 = .ok (.getfield 31, 3) := by decide +kernel
theorem dX6_toldBy_23 : decode cX6_toldBy 23 = .ok (.aload_n 0, 1) := by decide +kernel
theorem dX6_toldBy_24 : decode cX6_toldBy 24 = .ok (.getfield 21, 3) := by decide +kernel
theorem dX6_toldBy_27 : decode cX6_toldBy 27 = .ok (.iload_n 3, 1) := by decide +kernel
theorem dX6_toldBy_28 : decode cX6_toldBy 28 = .ok (.iaload, 1) := by decide +kernel
theorem dX6_toldBy_29 : decode cX6_toldBy 29 = .ok (.aload_n 0, 1) := by decide +kernel
theorem dX6_toldBy_30 : decode cX6_toldBy 30 = .ok (.getfield 24, 3) := by decide +kernel
theorem dX6_toldBy_33 : decode cX6_toldBy 33 = .ok (.iload_n 3, 1) := by decide +kernel
theorem dX6_toldBy_34 : decode cX6_toldBy 34 = .ok (.iaload, 1) := by decide +kernel
theorem dX6_toldBy_35 : decode cX6_toldBy 35 = .ok (.invokevirtual 96, 3) := by decide +kernel
theorem dX6_toldBy_38 : decode cX6_toldBy 38 = .ok (.aload_n 1, 1) := by decide +kernel
theorem dX6_toldBy_39 : decode cX6_toldBy 39 = .ok (.getfield 92, 3) := by decide +kernel
theorem dX6_toldBy_42 : decode cX6_toldBy 42 = .ok (.aload_n 1, 1) := by decide +kernel
theorem dX6_toldBy_43 : decode cX6_toldBy 43 = .ok (.getfield 102, 3) := by decide +kernel
theorem dX6_toldBy_46 : decode cX6_toldBy 46 = .ok (.bipush 20, 2) := by decide +kernel
theorem dX6_toldBy_48 : decode cX6_toldBy 48 = .ok (.aload_n 0, 1) := by decide +kernel
theorem dX6_toldBy_49 : decode cX6_toldBy 49 = .ok (.getfield 34, 3) := by decide +kernel
theorem dX6_toldBy_52 : decode cX6_toldBy 52 = .ok (.imul, 1) := by decide +kernel
theorem dX6_toldBy_53 : decode cX6_toldBy 53 = .ok (.iload_n 2, 1) := by decide +kernel
theorem dX6_toldBy_54 : decode cX6_toldBy 54 = .ok (.iadd, 1) := by decide +kernel
theorem dX6_toldBy_55 : decode cX6_toldBy 55 = .ok (.invokevirtual 105, 3) := by decide +kernel
theorem dX6_toldBy_58 : decode cX6_toldBy 58 = .ok (.iconst 0, 1) := by decide +kernel
theorem dX6_toldBy_59 : decode cX6_toldBy 59 = .ok (.bipush 99, 2) := by decide +kernel
theorem dX6_toldBy_61 : decode cX6_toldBy 61 = .ok (.aload_n 1, 1) := by decide +kernel
theorem dX6_toldBy_62 : decode cX6_toldBy 62 = .ok (.getfield 92, 3) := by decide +kernel
theorem dX6_toldBy_65 : decode cX6_toldBy 65 = .ok (.aload_n 1, 1) := by decide +kernel
theorem dX6_toldBy_66 : decode cX6_toldBy 66 = .ok (.getfield 119, 3) := by decide +kernel
theorem dX6_toldBy_69 : decode cX6_toldBy 69 = .ok (.iload_n 2, 1) := by decide +kernel
theorem dX6_toldBy_70 : decode cX6_toldBy 70 = .ok (.iaload, 1) := by decide +kernel
theorem dX6_toldBy_71 : decode cX6_toldBy 71 = .ok (.invokevirtual 109, 3) := by decide +kernel
theorem dX6_toldBy_74 : decode cX6_toldBy 74 = .ok (.invokestatic 112, 3) := by decide +kernel
theorem dX6_toldBy_77 : decode cX6_toldBy 77 = .ok (.invokestatic 57, 3) := by decide +kernel
theorem dX6_toldBy_80 : decode cX6_toldBy 80 = .ok (.ireturn, 1) := by decide +kernel
theorem dX6_letIn_0 : decode cX6_letIn 0 = .ok (.aload_n 1, 1) := by decide +kernel
theorem dX6_letIn_1 : decode cX6_letIn 1 = .ok (.getfield 78, 3) := by decide +kernel
theorem dX6_letIn_4 : decode cX6_letIn 4 = .ok (.iload_n 2, 1) := by decide +kernel
theorem dX6_letIn_5 : decode cX6_letIn 5 = .ok (.iaload, 1) := by decide +kernel
theorem dX6_letIn_6 : decode cX6_letIn 6 = .ok (.istore 4, 2) := by decide +kernel
theorem dX6_letIn_8 : decode cX6_letIn 8 = .ok (.aload_n 1, 1) := by decide +kernel
theorem dX6_letIn_9 : decode cX6_letIn 9 = .ok (.getfield 122, 3) := by decide +kernel
theorem dX6_letIn_12 : decode cX6_letIn 12 = .ok (.iload_n 2, 1) := by decide +kernel
theorem dX6_letIn_13 : decode cX6_letIn 13 = .ok (.iaload, 1) := by decide +kernel
theorem dX6_letIn_14 : decode cX6_letIn 14 = .ok (.istore 5, 2) := by decide +kernel
theorem dX6_letIn_16 : decode cX6_letIn 16 = .ok (.iload_n 3, 1) := by decide +kernel
theorem dX6_letIn_17 : decode cX6_letIn 17 = .ok (.aload_n 1, 1) := by decide +kernel
theorem dX6_letIn_18 : decode cX6_letIn 18 = .ok (.getfield 125, 3) := by decide +kernel
theorem dX6_letIn_21 : decode cX6_letIn 21 = .ok (.aload_n 0, 1) := by decide +kernel
theorem dX6_letIn_22 : decode cX6_letIn 22 = .ok (.getfield 27, 3) := by decide +kernel
theorem dX6_letIn_25 : decode cX6_letIn 25 = .ok (.isub, 1) := by decide +kernel
theorem dX6_letIn_26 : decode cX6_letIn 26 = .ok (.invokestatic 112, 3) := by decide +kernel
theorem dX6_letIn_29 : decode cX6_letIn 29 = .ok (.istore 6, 2) := by decide +kernel
theorem dX6_letIn_31 : decode cX6_letIn 31 = .ok (.aload_n 0, 1) := by decide +kernel
theorem dX6_letIn_32 : decode cX6_letIn 32 = .ok (.getfield 18, 3) := by decide +kernel
theorem dX6_letIn_35 : decode cX6_letIn 35 = .ok (.iload 4, 2) := by decide +kernel
theorem dX6_letIn_37 : decode cX6_letIn 37 = .ok (.dup2, 1) := by decide +kernel
theorem dX6_letIn_38 : decode cX6_letIn 38 = .ok (.iaload, 1) := by decide +kernel
theorem dX6_letIn_39 : decode cX6_letIn 39 = .ok (.iload_n 3, 1) := by decide +kernel
theorem dX6_letIn_40 : decode cX6_letIn 40 = .ok (.iload 6, 2) := by decide +kernel
theorem dX6_letIn_42 : decode cX6_letIn 42 = .ok (.isub, 1) := by decide +kernel
theorem dX6_letIn_43 : decode cX6_letIn 43 = .ok (.iadd, 1) := by decide +kernel
theorem dX6_letIn_44 : decode cX6_letIn 44 = .ok (.iastore, 1) := by decide +kernel
theorem dX6_letIn_45 : decode cX6_letIn 45 = .ok (.aload_n 0, 1) := by decide +kernel
theorem dX6_letIn_46 : decode cX6_letIn 46 = .ok (.getfield 9, 3) := by decide +kernel
theorem dX6_letIn_49 : decode cX6_letIn 49 = .ok (.iload 4, 2) := by decide +kernel
theorem dX6_letIn_51 : decode cX6_letIn 51 = .ok (.iconst 5, 1) := by decide +kernel
theorem dX6_letIn_52 : decode cX6_letIn 52 = .ok (.imul, 1) := by decide +kernel
theorem dX6_letIn_53 : decode cX6_letIn 53 = .ok (.iload 5, 2) := by decide +kernel
theorem dX6_letIn_55 : decode cX6_letIn 55 = .ok (.iadd, 1) := by decide +kernel
theorem dX6_letIn_56 : decode cX6_letIn 56 = .ok (.dup2, 1) := by decide +kernel
theorem dX6_letIn_57 : decode cX6_letIn 57 = .ok (.iaload, 1) := by decide +kernel
theorem dX6_letIn_58 : decode cX6_letIn 58 = .ok (.iload 6, 2) := by decide +kernel
theorem dX6_letIn_60 : decode cX6_letIn 60 = .ok (.iadd, 1) := by decide +kernel
theorem dX6_letIn_61 : decode cX6_letIn 61 = .ok (.iastore, 1) := by decide +kernel
theorem dX6_letIn_62 : decode cX6_letIn 62 = .ok (.aload_n 0, 1) := by decide +kernel
theorem dX6_letIn_63 : decode cX6_letIn 63 = .ok (.getfield 24, 3) := by decide +kernel
theorem dX6_letIn_66 : decode cX6_letIn 66 = .ok (.iload 4, 2) := by decide +kernel
theorem dX6_letIn_68 : decode cX6_letIn 68 = .ok (.dup2, 1) := by decide +kernel
theorem dX6_letIn_69 : decode cX6_letIn 69 = .ok (.iaload, 1) := by decide +kernel
theorem dX6_letIn_70 : decode cX6_letIn 70 = .ok (.iload 6, 2) := by decide +kernel
theorem dX6_letIn_72 : decode cX6_letIn 72 = .ok (.iadd, 1) := by decide +kernel
theorem dX6_letIn_73 : decode cX6_letIn 73 = .ok (.iastore, 1) := by decide +kernel
theorem dX6_letIn_74 : decode cX6_letIn 74 = .ok (.aload_n 0, 1) := by decide +kernel
theorem dX6_letIn_75 : decode cX6_letIn 75 = .ok (.dup, 1) := by decide +kernel
theorem dX6_letIn_76 : decode cX6_letIn 76 = .ok (.getfield 27, 3) := by decide +kernel
theorem dX6_letIn_79 : decode cX6_letIn 79 = .ok (.iload 6, 2) := by decide +kernel
theorem dX6_letIn_81 : decode cX6_letIn 81 = .ok (.iadd, 1) := by decide +kernel
theorem dX6_letIn_82 : decode cX6_letIn 82 = .ok (.putfield 27, 3) := by decide +kernel
theorem dX6_letIn_85 : decode cX6_letIn 85 = .ok (.aload_n 0, 1) := by decide +kernel
theorem dX6_letIn_86 : decode cX6_letIn 86 = .ok (.ldc 128, 2) := by decide +kernel
theorem dX6_letIn_88 : decode cX6_letIn 88 = .ok (.aload_n 0, 1) := by decide +kernel
theorem dX6_letIn_89 : decode cX6_letIn 89 = .ok (.getfield 31, 3) := by decide +kernel
theorem dX6_letIn_92 : decode cX6_letIn 92 = .ok (.iload 6, 2) := by decide +kernel
theorem dX6_letIn_94 : decode cX6_letIn 94 = .ok (.aload_n 1, 1) := by decide +kernel
theorem dX6_letIn_95 : decode cX6_letIn 95 = .ok (.getfield 129, 3) := by decide +kernel
theorem dX6_letIn_98 : decode cX6_letIn 98 = .ok (.iload 5, 2) := by decide +kernel
theorem dX6_letIn_100 : decode cX6_letIn 100 = .ok (.iaload, 1) := by decide +kernel
theorem dX6_letIn_101 : decode cX6_letIn 101 = .ok (.imul, 1) := by decide +kernel
theorem dX6_letIn_102 : decode cX6_letIn 102 = .ok (.iadd, 1) := by decide +kernel
theorem dX6_letIn_103 : decode cX6_letIn 103 = .ok (.invokestatic 112, 3) := by decide +kernel
theorem dX6_letIn_106 : decode cX6_letIn 106 = .ok (.putfield 31, 3) := by decide +kernel
theorem dX6_letIn_109 : decode cX6_letIn 109 = .ok (.return_, 1) := by decide +kernel
theorem dX6_dryUp_0 : decode cX6_dryUp 0 = .ok (.aload_n 0, 1) := by decide +kernel
theorem dX6_dryUp_1 : decode cX6_dryUp 1 = .ok (.getfield 27, 3) := by decide +kernel
theorem dX6_dryUp_4 : decode cX6_dryUp 4 = .ok (.ifCond .le 7, 3) := by decide +kernel
theorem dX6_dryUp_7 : decode cX6_dryUp 7 = .ok (.iload_n 1, 1) := by decide +kernel
theorem dX6_dryUp_8 : decode cX6_dryUp 8 = .ok (.ifCond .gt 4, 3) := by decide +kernel
theorem dX6_dryUp_11 : decode cX6_dryUp 11 = .ok (.return_, 1) := by decide +kernel
theorem dX6_dryUp_12 : decode cX6_dryUp 12 = .ok (.iload_n 1, 1) := by decide +kernel
theorem dX6_dryUp_13 : decode cX6_dryUp 13 = .ok (.istore_n 2, 1) := by decide +kernel
theorem dX6_dryUp_14 : decode cX6_dryUp 14 = .ok (.iconst 0, 1) := by decide +kernel
theorem dX6_dryUp_15 : decode cX6_dryUp 15 = .ok (.istore_n 3, 1) := by decide +kernel
theorem dX6_dryUp_16 : decode cX6_dryUp 16 = .ok (.iload_n 3, 1) := by decide +kernel
theorem dX6_dryUp_17 : decode cX6_dryUp 17 = .ok (.bipush 40, 2) := by decide +kernel
theorem dX6_dryUp_19 : decode cX6_dryUp 19 = .ok (.if_icmp .ge 59, 3) := by decide +kernel
theorem dX6_dryUp_22 : decode cX6_dryUp 22 = .ok (.aload_n 0, 1) := by decide +kernel
theorem dX6_dryUp_23 : decode cX6_dryUp 23 = .ok (.getfield 9, 3) := by decide +kernel
theorem dX6_dryUp_26 : decode cX6_dryUp 26 = .ok (.iload_n 3, 1) := by decide +kernel
theorem dX6_dryUp_27 : decode cX6_dryUp 27 = .ok (.iaload, 1) := by decide +kernel
theorem dX6_dryUp_28 : decode cX6_dryUp 28 = .ok (.iload_n 1, 1) := by decide +kernel
theorem dX6_dryUp_29 : decode cX6_dryUp 29 = .ok (.imul, 1) := by decide +kernel
theorem dX6_dryUp_30 : decode cX6_dryUp 30 = .ok (.aload_n 0, 1) := by decide +kernel
theorem dX6_dryUp_31 : decode cX6_dryUp 31 = .ok (.getfield 27, 3) := by decide +kernel
theorem dX6_dryUp_34 : decode cX6_dryUp 34 = .ok (.idiv, 1) := by decide +kernel
theorem dX6_dryUp_35 : decode cX6_dryUp 35 = .ok (.istore 4, 2) := by decide +kernel
theorem dX6_dryUp_37 : decode cX6_dryUp 37 = .ok (.aload_n 0, 1) := by decide +kernel
theorem dX6_dryUp_38 : decode cX6_dryUp 38 = .ok (.getfield 15, 3) := by decide +kernel
theorem dX6_dryUp_41 : decode cX6_dryUp 41 = .ok (.iload_n 3, 1) := by decide +kernel
theorem dX6_dryUp_42 : decode cX6_dryUp 42 = .ok (.aload_n 0, 1) := by decide +kernel
theorem dX6_dryUp_43 : decode cX6_dryUp 43 = .ok (.getfield 9, 3) := by decide +kernel
theorem dX6_dryUp_46 : decode cX6_dryUp 46 = .ok (.iload_n 3, 1) := by decide +kernel
theorem dX6_dryUp_47 : decode cX6_dryUp 47 = .ok (.iaload, 1) := by decide +kernel
theorem dX6_dryUp_48 : decode cX6_dryUp 48 = .ok (.iload_n 1, 1) := by decide +kernel
theorem dX6_dryUp_49 : decode cX6_dryUp 49 = .ok (.imul, 1) := by decide +kernel
theorem dX6_dryUp_50 : decode cX6_dryUp 50 = .ok (.aload_n 0, 1) := by decide +kernel
theorem dX6_dryUp_51 : decode cX6_dryUp 51 = .ok (.getfield 27, 3) := by decide +kernel
theorem dX6_dryUp_54 : decode cX6_dryUp 54 = .ok (.irem, 1) := by decide +kernel
theorem dX6_dryUp_55 : decode cX6_dryUp 55 = .ok (.iastore, 1) := by decide +kernel
theorem dX6_dryUp_56 : decode cX6_dryUp 56 = .ok (.aload_n 0, 1) := by decide +kernel
theorem dX6_dryUp_57 : decode cX6_dryUp 57 = .ok (.getfield 9, 3) := by decide +kernel
theorem dX6_dryUp_60 : decode cX6_dryUp 60 = .ok (.iload_n 3, 1) := by decide +kernel
theorem dX6_dryUp_61 : decode cX6_dryUp 61 = .ok (.dup2, 1) := by decide +kernel
theorem dX6_dryUp_62 : decode cX6_dryUp 62 = .ok (.iaload, 1) := by decide +kernel
theorem dX6_dryUp_63 : decode cX6_dryUp 63 = .ok (.iload 4, 2) := by decide +kernel
theorem dX6_dryUp_65 : decode cX6_dryUp 65 = .ok (.isub, 1) := by decide +kernel
theorem dX6_dryUp_66 : decode cX6_dryUp 66 = .ok (.iastore, 1) := by decide +kernel
theorem dX6_dryUp_67 : decode cX6_dryUp 67 = .ok (.iload_n 2, 1) := by decide +kernel
theorem dX6_dryUp_68 : decode cX6_dryUp 68 = .ok (.iload 4, 2) := by decide +kernel
theorem dX6_dryUp_70 : decode cX6_dryUp 70 = .ok (.isub, 1) := by decide +kernel
theorem dX6_dryUp_71 : decode cX6_dryUp 71 = .ok (.istore_n 2, 1) := by decide +kernel
theorem dX6_dryUp_72 : decode cX6_dryUp 72 = .ok (.iinc 3 1, 3) := by decide +kernel
theorem dX6_dryUp_75 : decode cX6_dryUp 75 = .ok (.goto (-59), 3) := by decide +kernel
theorem dX6_dryUp_78 : decode cX6_dryUp 78 = .ok (.iconst 0, 1) := by decide +kernel
theorem dX6_dryUp_79 : decode cX6_dryUp 79 = .ok (.istore_n 3, 1) := by decide +kernel
theorem dX6_dryUp_80 : decode cX6_dryUp 80 = .ok (.iload_n 3, 1) := by decide +kernel
theorem dX6_dryUp_81 : decode cX6_dryUp 81 = .ok (.iload_n 2, 1) := by decide +kernel
theorem dX6_dryUp_82 : decode cX6_dryUp 82 = .ok (.if_icmp .ge 68, 3) := by decide +kernel
theorem dX6_dryUp_85 : decode cX6_dryUp 85 = .ok (.iconst 0, 1) := by decide +kernel
theorem dX6_dryUp_86 : decode cX6_dryUp 86 = .ok (.istore 4, 2) := by decide +kernel
theorem dX6_dryUp_88 : decode cX6_dryUp 88 = .ok (.iconst 1, 1) := by decide +kernel
theorem dX6_dryUp_89 : decode cX6_dryUp 89 = .ok (.istore 5, 2) := by decide +kernel
theorem dX6_dryUp_91 : decode cX6_dryUp 91 = .ok (.iload 5, 2) := by decide +kernel
theorem dX6_dryUp_93 : decode cX6_dryUp 93 = .ok (.bipush 40, 2) := by decide +kernel
theorem dX6_dryUp_95 : decode cX6_dryUp 95 = .ok (.if_icmp .ge 30, 3) := by decide +kernel
theorem dX6_dryUp_98 : decode cX6_dryUp 98 = .ok (.aload_n 0, 1) := by decide +kernel
theorem dX6_dryUp_99 : decode cX6_dryUp 99 = .ok (.getfield 15, 3) := by decide +kernel
theorem dX6_dryUp_102 : decode cX6_dryUp 102 = .ok (.iload 5, 2) := by decide +kernel
theorem dX6_dryUp_104 : decode cX6_dryUp 104 = .ok (.iaload, 1) := by decide +kernel
theorem dX6_dryUp_105 : decode cX6_dryUp 105 = .ok (.aload_n 0, 1) := by decide +kernel
theorem dX6_dryUp_106 : decode cX6_dryUp 106 = .ok (.getfield 15, 3) := by decide +kernel
theorem dX6_dryUp_109 : decode cX6_dryUp 109 = .ok (.iload 4, 2) := by decide +kernel
theorem dX6_dryUp_111 : decode cX6_dryUp 111 = .ok (.iaload, 1) := by decide +kernel
theorem dX6_dryUp_112 : decode cX6_dryUp 112 = .ok (.if_icmp .le 7, 3) := by decide +kernel
theorem dX6_dryUp_115 : decode cX6_dryUp 115 = .ok (.iload 5, 2) := by decide +kernel
theorem dX6_dryUp_117 : decode cX6_dryUp 117 = .ok (.istore 4, 2) := by decide +kernel
theorem dX6_dryUp_119 : decode cX6_dryUp 119 = .ok (.iinc 5 1, 3) := by decide +kernel
theorem dX6_dryUp_122 : decode cX6_dryUp 122 = .ok (.goto (-31), 3) := by decide +kernel
theorem dX6_dryUp_125 : decode cX6_dryUp 125 = .ok (.aload_n 0, 1) := by decide +kernel
theorem dX6_dryUp_126 : decode cX6_dryUp 126 = .ok (.getfield 9, 3) := by decide +kernel
theorem dX6_dryUp_129 : decode cX6_dryUp 129 = .ok (.iload 4, 2) := by decide +kernel
theorem dX6_dryUp_131 : decode cX6_dryUp 131 = .ok (.dup2, 1) := by decide +kernel
theorem dX6_dryUp_132 : decode cX6_dryUp 132 = .ok (.iaload, 1) := by decide +kernel

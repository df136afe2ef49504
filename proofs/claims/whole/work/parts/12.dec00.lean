theorem dX0_init_0 : decode cX0_init 0 = .ok (.aload_n 0, 1) := by decide +kernel
theorem dX0_init_1 : decode cX0_init 1 = .ok (.invokespecial 3, 3) := by decide +kernel
theorem dX0_init_4 : decode cX0_init 4 = .ok (.aload_n 0, 1) := by decide +kernel
theorem dX0_init_5 : decode cX0_init 5 = .ok (.bipush 8, 2) := by decide +kernel
theorem dX0_init_7 : decode cX0_init 7 = .ok (.newarray .int, 2) := by decide +kernel
theorem dX0_init_9 : decode cX0_init 9 = .ok (.putfield 9, 3) := by decide +kernel
theorem dX0_init_12 : decode cX0_init 12 = .ok (.aload_n 0, 1) := by decide +kernel
theorem dX0_init_13 : decode cX0_init 13 = .ok (.bipush 8, 2) := by decide +kernel
theorem dX0_init_15 : decode cX0_init 15 = .ok (.newarray .int, 2) := by decide +kernel
theorem dX0_init_17 : decode cX0_init 17 = .ok (.putfield 15, 3) := by decide +kernel
theorem dX0_init_20 : decode cX0_init 20 = .ok (.aload_n 0, 1) := by decide +kernel
theorem dX0_init_21 : decode cX0_init 21 = .ok (.iconst (-1), 1) := by decide +kernel
theorem dX0_init_22 : decode cX0_init 22 = .ok (.putfield 18, 3) := by decide +kernel
theorem dX0_init_25 : decode cX0_init 25 = .ok (.aload_n 0, 1) := by decide +kernel
theorem dX0_init_26 : decode cX0_init 26 = .ok (.iconst 0, 1) := by decide +kernel
theorem dX0_init_27 : decode cX0_init 27 = .ok (.putfield 22, 3) := by decide +kernel
theorem dX0_init_30 : decode cX0_init 30 = .ok (.return_, 1) := by decide +kernel
theorem dX0_search_0 : decode cX0_search 0 = .ok (.aload_n 0, 1) := by decide +kernel
theorem dX0_search_1 : decode cX0_search 1 = .ok (.aload_n 1, 1) := by decide +kernel
theorem dX0_search_2 : decode cX0_search 2 = .ok (.invokevirtual 25, 3) := by decide +kernel
theorem dX0_search_5 : decode cX0_search 5 = .ok (.aload_n 0, 1) := by decide +kernel
theorem dX0_search_6 : decode cX0_search 6 = .ok (.iconst (-1), 1) := by decide +kernel
theorem dX0_search_7 : decode cX0_search 7 = .ok (.putfield 18, 3) := by decide +kernel
theorem dX0_search_10 : decode cX0_search 10 = .ok (.aload_n 0, 1) := by decide +kernel
theorem dX0_search_11 : decode cX0_search 11 = .ok (.iconst 0, 1) := by decide +kernel
theorem dX0_search_12 : decode cX0_search 12 = .ok (.putfield 22, 3) := by decide +kernel
theorem dX0_search_15 : decode cX0_search 15 = .ok (.iconst 1, 1) := by decide +kernel
theorem dX0_search_16 : decode cX0_search 16 = .ok (.istore_n 3, 1) := by decide +kernel
theorem dX0_search_17 : decode cX0_search 17 = .ok (.iload_n 3, 1) := by decide +kernel
theorem dX0_search_18 : decode cX0_search 18 = .ok (.iconst 1, 1) := by decide +kernel
theorem dX0_search_19 : decode cX0_search 19 = .ok (.aload_n 1, 1) := by decide +kernel
theorem dX0_search_20 : decode cX0_search 20 = .ok (.getfield 29, 3) := by decide +kernel
theorem dX0_search_23 : decode cX0_search 23 = .ok (.ishl, 1) := by decide +kernel
theorem dX0_search_24 : decode cX0_search 24 = .ok (.if_icmp .ge 52, 3) := by decide +kernel
theorem dX0_search_27 : decode cX0_search 27 = .ok (.aload_n 0, 1) := by decide +kernel
theorem dX0_search_28 : decode cX0_search 28 = .ok (.aload_n 1, 1) := by decide +kernel
theorem dX0_search_29 : decode cX0_search 29 = .ok (.iload_n 2, 1) := by decide +kernel
theorem dX0_search_30 : decode cX0_search 30 = .ok (.iload_n 3, 1) := by decide +kernel
theorem dX0_search_31 : decode cX0_search 31 = .ok (.invokevirtual 34, 3) := by decide +kernel
theorem dX0_search_34 : decode cX0_search 34 = .ok (.istore 4, 2) := by decide +kernel
theorem dX0_search_36 : decode cX0_search 36 = .ok (.iload 4, 2) := by decide +kernel
theorem dX0_search_38 : decode cX0_search 38 = .ok (.iconst (-1), 1) := by decide +kernel
theorem dX0_search_39 : decode cX0_search 39 = .ok (.if_icmp .eq 31, 3) := by decide +kernel
theorem dX0_search_42 : decode cX0_search 42 = .ok (.aload_n 0, 1) := by decide +kernel
theorem dX0_search_43 : decode cX0_search 43 = .ok (.getfield 18, 3) := by decide +kernel
theorem dX0_search_46 : decode cX0_search 46 = .ok (.iconst (-1), 1) := by decide +kernel
theorem dX0_search_47 : decode cX0_search 47 = .ok (.if_icmp .eq 12, 3) := by decide +kernel
theorem dX0_search_50 : decode cX0_search 50 = .ok (.iload 4, 2) := by decide +kernel
theorem dX0_search_52 : decode cX0_search 52 = .ok (.aload_n 0, 1) := by decide +kernel
theorem dX0_search_53 : decode cX0_search 53 = .ok (.getfield 18, 3) := by decide +kernel
theorem dX0_search_56 : decode cX0_search 56 = .ok (.if_icmp .ge 14, 3) := by decide +kernel
theorem dX0_search_59 : decode cX0_search 59 = .ok (.aload_n 0, 1) := by decide +kernel
theorem dX0_search_60 : decode cX0_search 60 = .ok (.iload 4, 2) := by decide +kernel
theorem dX0_search_62 : decode cX0_search 62 = .ok (.putfield 18, 3) := by decide +kernel
theorem dX0_search_65 : decode cX0_search 65 = .ok (.aload_n 0, 1) := by decide +kernel
theorem dX0_search_66 : decode cX0_search 66 = .ok (.iload_n 3, 1) := by decide +kernel
theorem dX0_search_67 : decode cX0_search 67 = .ok (.putfield 22, 3) := by decide +kernel
theorem dX0_search_70 : decode cX0_search 70 = .ok (.iinc 3 1, 3) := by decide +kernel
theorem dX0_search_73 : decode cX0_search 73 = .ok (.goto (-56), 3) := by decide +kernel
theorem dX0_search_76 : decode cX0_search 76 = .ok (.aload_n 0, 1) := by decide +kernel
theorem dX0_search_77 : decode cX0_search 77 = .ok (.aload_n 1, 1) := by decide +kernel
theorem dX0_search_78 : decode cX0_search 78 = .ok (.iload_n 2, 1) := by decide +kernel
theorem dX0_search_79 : decode cX0_search 79 = .ok (.aload_n 0, 1) := by decide +kernel
theorem dX0_search_80 : decode cX0_search 80 = .ok (.getfield 22, 3) := by decide +kernel
theorem dX0_search_83 : decode cX0_search 83 = .ok (.invokevirtual 34, 3) := by decide +kernel
theorem dX0_search_86 : decode cX0_search 86 = .ok (.pop, 1) := by decide +kernel
theorem dX0_search_87 : decode cX0_search 87 = .ok (.return_, 1) := by decide +kernel
theorem dX0_spread_0 : decode cX0_spread 0 = .ok (.iconst 0, 1) := by decide +kernel
theorem dX0_spread_1 : decode cX0_spread 1 = .ok (.istore 4, 2) := by decide +kernel
theorem dX0_spread_3 : decode cX0_spread 3 = .ok (.iload_n 2, 1) := by decide +kernel
theorem dX0_spread_4 : decode cX0_spread 4 = .ok (.istore 5, 2) := by decide +kernel
theorem dX0_spread_6 : decode cX0_spread 6 = .ok (.iconst 0, 1) := by decide +kernel
theorem dX0_spread_7 : decode cX0_spread 7 = .ok (.istore 6, 2) := by decide +kernel
theorem dX0_spread_9 : decode cX0_spread 9 = .ok (.iload 6, 2) := by decide +kernel
theorem dX0_spread_11 : decode cX0_spread 11 = .ok (.aload_n 1, 1) := by decide +kernel
theorem dX0_spread_12 : decode cX0_spread 12 = .ok (.getfield 29, 3) := by decide +kernel
theorem dX0_spread_15 : decode cX0_spread 15 = .ok (.if_icmp .ge 93, 3) := by decide +kernel
theorem dX0_spread_18 : decode cX0_spread 18 = .ok (.aload_n 0, 1) := by decide +kernel
theorem dX0_spread_19 : decode cX0_spread 19 = .ok (.getfield 9, 3) := by decide +kernel
theorem dX0_spread_22 : decode cX0_spread 22 = .ok (.iload 6, 2) := by decide +kernel
theorem dX0_spread_24 : decode cX0_spread 24 = .ok (.iaload, 1) := by decide +kernel
theorem dX0_spread_25 : decode cX0_spread 25 = .ok (.istore 7, 2) := by decide +kernel
theorem dX0_spread_27 : decode cX0_spread 27 = .ok (.iload_n 3, 1) := by decide +kernel
theorem dX0_spread_28 : decode cX0_spread 28 = .ok (.iload 7, 2) := by decide +kernel
theorem dX0_spread_30 : decode cX0_spread 30 = .ok (.ishr, 1) := by decide +kernel
theorem dX0_spread_31 : decode cX0_spread 31 = .ok (.iconst 1, 1) := by decide +kernel
theorem dX0_spread_32 : decode cX0_spread 32 = .ok (.iand, 1) := by decide +kernel
theorem dX0_spread_33 : decode cX0_spread 33 = .ok (.ifCond .eq 18, 3) := by decide +kernel
theorem dX0_spread_36 : decode cX0_spread 36 = .ok (.iload 5, 2) := by decide +kernel
theorem dX0_spread_38 : decode cX0_spread 38 = .ok (.aload_n 1, 1) := by decide +kernel
theorem dX0_spread_39 : decode cX0_spread 39 = .ok (.getfield 38, 3) := by decide +kernel
theorem dX0_spread_42 : decode cX0_spread 42 = .ok (.iload 7, 2) := by decide +kernel
theorem dX0_spread_44 : decode cX0_spread 44 = .ok (.iaload, 1) := by decide +kernel
theorem dX0_spread_45 : decode cX0_spread 45 = .ok (.invokestatic 41, 3) := by decide +kernel
theorem dX0_spread_48 : decode cX0_spread 48 = .ok (.goto 4, 3) := by decide +kernel
theorem dX0_spread_51 : decode cX0_spread 51 = .ok (.iconst 0, 1) := by decide +kernel
theorem dX0_spread_52 : decode cX0_spread 52 = .ok (.istore 8, 2) := by decide +kernel
theorem dX0_spread_54 : decode cX0_spread 54 = .ok (.aload_n 0, 1) := by decide +kernel
theorem dX0_spread_55 : decode cX0_spread 55 = .ok (.getfield 15, 3) := by decide +kernel
theorem dX0_spread_58 : decode cX0_spread 58 = .ok (.iload 7, 2) := by decide +kernel
theorem dX0_spread_60 : decode cX0_spread 60 = .ok (.iload 8, 2) := by decide +kernel
theorem dX0_spread_62 : decode cX0_spread 62 = .ok (.iastore, 1) := by decide +kernel
theorem dX0_spread_63 : decode cX0_spread 63 = .ok (.iload 5, 2) := by decide +kernel
theorem dX0_spread_65 : decode cX0_spread 65 = .ok (.iload 8, 2) := by decide +kernel
theorem dX0_spread_67 : decode cX0_spread 67 = .ok (.isub, 1) := by decide +kernel
theorem dX0_spread_68 : decode cX0_spread 68 = .ok (.istore 5, 2) := by decide +kernel
theorem dX0_spread_70 : decode cX0_spread 70 = .ok (.iload 4, 2) := by decide +kernel
theorem dX0_spread_72 : decode cX0_spread 72 = .ok (.iload 8, 2) := by decide +kernel
theorem dX0_spread_74 : decode cX0_spread 74 = .ok (.ifCond .le 24, 3) := by decide +kernel
theorem dX0_spread_77 : decode cX0_spread 77 = .ok (.iload 8, 2) := by decide +kernel
theorem dX0_spread_79 : decode cX0_spread 79 = .ok (.aload_n 1, 1) := by decide +kernel
theorem dX0_spread_80 : decode cX0_spread 80 = .ok (.getfield 47, 3) := by decide +kernel
theorem dX0_spread_83 : decode cX0_spread 83 = .ok (.iload 7, 2) := by decide +kernel
theorem dX0_spread_85 : decode cX0_spread 85 = .ok (.iaload, 1) := by decide +kernel
theorem dX0_spread_86 : decode cX0_spread 86 = .ok (.imul, 1) := by decide +kernel
theorem dX0_spread_87 : decode cX0_spread 87 = .ok (.aload_n 1, 1) := by decide +kernel
theorem dX0_spread_88 : decode cX0_spread 88 = .ok (.getfield 50, 3) := by decide +kernel
theorem dX0_spread_91 : decode cX0_spread 91 = .ok (.iload 7, 2) := by decide +kernel
theorem dX0_spread_93 : decode cX0_spread 93 = .ok (.iaload, 1) := by decide +kernel
theorem dX0_spread_94 : decode cX0_spread 94 = .ok (.iadd, 1) := by decide +kernel
theorem dX0_spread_95 : decode cX0_spread 95 = .ok (.goto 4, 3) := by decide +kernel
theorem dX0_spread_98 : decode cX0_spread 98 = .ok (.iconst 0, 1) := by decide +kernel
theorem dX0_spread_99 : decode cX0_spread 99 = .ok (.iadd, 1) := by decide +kernel
theorem dX0_spread_100 : decode cX0_spread 100 = .ok (.istore 4, 2) := by decide +kernel
theorem dX0_spread_102 : decode cX0_spread 102 = .ok (.iinc 6 1, 3) := by decide +kernel
theorem dX0_spread_105 : decode cX0_spread 105 = .ok (.goto (-96), 3) := by decide +kernel
theorem dX0_spread_108 : decode cX0_spread 108 = .ok (.iload 5, 2) := by decide +kernel
theorem dX0_spread_110 : decode cX0_spread 110 = .ok (.ifCond .ne 8, 3) := by decide +kernel
theorem dX0_spread_113 : decode cX0_spread 113 = .ok (.iload 4, 2) := by decide +kernel
theorem dX0_spread_115 : decode cX0_spread 115 = .ok (.goto 4, 3) := by decide +kernel
theorem dX0_spread_118 : decode cX0_spread 118 = .ok (.iconst (-1), 1) := by decide +kernel
theorem dX0_spread_119 : decode cX0_spread 119 = .ok (.ireturn, 1) := by decide +kernel
theorem dX0_sortByPrice_0 : decode cX0_sortByPrice 0 = .ok (.iconst 0, 1) := by decide +kernel
theorem dX0_sortByPrice_1 : decode cX0_sortByPrice 1 = .ok (.istore_n 2, 1) := by decide +kernel
theorem dX0_sortByPrice_2 : decode cX0_sortByPrice 2 = .ok (.iload_n 2, 1) := by decide +kernel
theorem dX0_sortByPrice_3 : decode cX0_sortByPrice 3 = .ok (.aload_n 1, 1) := by decide +kernel
theorem dX0_sortByPrice_4 : decode cX0_sortByPrice 4 = .ok (.getfield 29, 3) := by decide +kernel
theorem dX0_sortByPrice_7 : decode cX0_sortByPrice 7 = .ok (.if_icmp .ge 64, 3) := by decide +kernel
theorem dX0_sortByPrice_10 : decode cX0_sortByPrice 10 = .ok (.iload_n 2, 1) := by decide +kernel
theorem dX0_sortByPrice_11 : decode cX0_sortByPrice 11 = .ok (.istore_n 3, 1) := by decide +kernel
theorem dX0_sortByPrice_12 : decode cX0_sortByPrice 12 = .ok (.iload_n 3, 1) := by decide +kernel
theorem dX0_sortByPrice_13 : decode cX0_sortByPrice 13 = .ok (.ifCond .le 45, 3) := by decide +kernel
theorem dX0_sortByPrice_16 : decode cX0_sortByPrice 16 = .ok (.aload_n 1, 1) := by decide +kernel
theorem dX0_sortByPrice_17 : decode cX0_sortByPrice 17 = .ok (.getfield 47, 3) := by decide +kernel
theorem dX0_sortByPrice_20 : decode cX0_sortByPrice 20 = .ok (.aload_n 0, 1) := by decide +kernel
theorem dX0_sortByPrice_21 : decode cX0_sortByPrice 21 = .ok (.getfield 9, 3) := by decide +kernel
theorem dX0_sortByPrice_24 : decode cX0_sortByPrice 24 = .ok (.iload_n 3, 1) := by decide +kernel
theorem dX0_sortByPrice_25 : decode cX0_sortByPrice 25 = .ok (.iconst 1, 1) := by decide +kernel
theorem dX0_sortByPrice_26 : decode cX0_sortByPrice 26 = .ok (.isub, 1) := by decide +kernel
theorem dX0_sortByPrice_27 : decode cX0_sortByPrice 27 = .ok (.iaload, 1) := by decide +kernel
theorem dX0_sortByPrice_28 : decode cX0_sortByPrice 28 = .ok (.iaload, 1) := by decide +kernel
theorem dX0_sortByPrice_29 : decode cX0_sortByPrice 29 = .ok (.aload_n 1, 1) := by decide +kernel
theorem dX0_sortByPrice_30 : decode cX0_sortByPrice 30 = .ok (.getfield 47, 3) := by decide +kernel
theorem dX0_sortByPrice_33 : decode cX0_sortByPrice 33 = .ok (.iload_n 2, 1) := by decide +kernel
theorem dX0_sortByPrice_34 : decode cX0_sortByPrice 34 = .ok (.iaload, 1) := by decide +kernel
theorem dX0_sortByPrice_35 : decode cX0_sortByPrice 35 = .ok (.if_icmp .le 23, 3) := by decide +kernel
theorem dX0_sortByPrice_38 : decode cX0_sortByPrice 38 = .ok (.aload_n 0, 1) := by decide +kernel
theorem dX0_sortByPrice_39 : decode cX0_sortByPrice 39 = .ok (.getfield 9, 3) := by decide +kernel
theorem dX0_sortByPrice_42 : decode cX0_sortByPrice 42 = .ok (.iload_n 3, 1) := by decide +kernel
theorem dX0_sortByPrice_43 : decode cX0_sortByPrice 43 = .ok (.aload_n 0, 1) := by decide +kernel
theorem dX0_sortByPrice_44 : decode cX0_sortByPrice 44 = .ok (.getfield 9, 3) := by decide +kernel
theorem dX0_sortByPrice_47 : decode cX0_sortByPrice 47 = .ok (.iload_n 3, 1) := by decide +kernel
theorem dX0_sortByPrice_48 : decode cX0_sortByPrice 48 = .ok (.iconst 1, 1) := by decide +kernel
theorem dX0_sortByPrice_49 : decode cX0_sortByPrice 49 = .ok (.isub, 1) := by decide +kernel
theorem dX0_sortByPrice_50 : decode cX0_sortByPrice 50 = .ok (.iaload, 1) := by decide +kernel
theorem dX0_sortByPrice_51 : decode cX0_sortByPrice 51 = .ok (.iastore, 1) := by decide +kernel
theorem dX0_sortByPrice_52 : decode cX0_sortByPrice 52 = .ok (.iinc 3 (-1), 3) := by decide +kernel
theorem dX0_sortByPrice_55 : decode cX0_sortByPrice 55 = .ok (.goto (-43), 3) := by decide +kernel
theorem dX0_sortByPrice_58 : decode cX0_sortByPrice 58 = .ok (.aload_n 0, 1) := by decide +kernel
theorem dX0_sortByPrice_59 : decode cX0_sortByPrice 59 = .ok (.getfield 9, 3) := by decide +kernel
theorem dX0_sortByPrice_62 : decode cX0_sortByPrice 62 = .ok (.iload_n 3, 1) := by decide +kernel
theorem dX0_sortByPrice_63 : decode cX0_sortByPrice 63 = .ok (.iload_n 2, 1) := by decide +kernel
theorem dX0_sortByPrice_64 : decode cX0_sortByPrice 64 = .ok (.iastore, 1) := by decide +kernel
theorem dX0_sortByPrice_65 : decode cX0_sortByPrice 65 = .ok (.iinc 2 1, 3) := by decide +kernel
theorem dX0_sortByPrice_68 : decode cX0_sortByPrice 68 = .ok (.goto (-66), 3) := by decide +kernel
theorem dX0_sortByPrice_71 : decode cX0_sortByPrice 71 = .ok (.return_, 1) := by decide +kernel
theorem dX1_init_0 : decode cX1_init 0 = .ok (.aload_n 0, 1) := by decide +kernel
theorem dX1_init_1 : decode cX1_init 1 = .ok (.invokespecial 3, 3) := by decide +kernel
theorem dX1_init_4 : decode cX1_init 4 = .ok (.aload_n 0, 1) := by decide +kernel
theorem dX1_init_5 : decode cX1_init 5 = .ok (.sipush 802, 3) := by decide +kernel
theorem dX1_init_8 : decode cX1_init 8 = .ok (.newarray .int, 2) := by decide +kernel
theorem dX1_init_10 : decode cX1_init 10 = .ok (.putfield 11, 3) := by decide +kernel
theorem dX1_init_13 : decode cX1_init 13 = .ok (.aload_n 0, 1) := by decide +kernel
theorem dX1_init_14 : decode cX1_init 14 = .ok (.bipush 32, 2) := by decide +kernel
theorem dX1_init_16 : decode cX1_init 16 = .ok (.newarray .int, 2) := by decide +kernel
theorem dX1_init_18 : decode cX1_init 18 = .ok (.putfield 15, 3) := by decide +kernel
theorem dX1_init_21 : decode cX1_init 21 = .ok (.aload_n 0, 1) := by decide +kernel
theorem dX1_init_22 : decode cX1_init 22 = .ok (.iconst 5, 1) := by decide +kernel
theorem dX1_init_23 : decode cX1_init 23 = .ok (.newarray .int, 2) := by decide +kernel
theorem dX1_init_25 : decode cX1_init 25 = .ok (.putfield 18, 3) := by decide +kernel
theorem dX1_init_28 : decode cX1_init 28 = .ok (.aload_n 0, 1) := by decide +kernel
theorem dX1_init_29 : decode cX1_init 29 = .ok (.iconst 0, 1) := by decide +kernel
theorem dX1_init_30 : decode cX1_init 30 = .ok (.putfield 21, 3) := by decide +kernel
theorem dX1_init_33 : decode cX1_init 33 = .ok (.aload_n 0, 1) := by decide +kernel
theorem dX1_init_34 : decode cX1_init 34 = .ok (.iconst 0, 1) := by decide +kernel
theorem dX1_init_35 : decode cX1_init 35 = .ok (.putfield 25, 3) := by decide +kernel
theorem dX1_init_38 : decode cX1_init 38 = .ok (.aload_n 0, 1) := by decide +kernel
theorem dX1_init_39 : decode cX1_init 39 = .ok (.iconst 0, 1) := by decide +kernel
theorem dX1_init_40 : decode cX1_init 40 = .ok (.putfield 28, 3) := by decide +kernel
theorem dX1_init_43 : decode cX1_init 43 = .ok (.aload_n 0, 1) := by decide +kernel
theorem dX1_init_44 : decode cX1_init 44 = .ok (.iconst 0, 1) := by decide +kernel
theorem dX1_init_45 : decode cX1_init 45 = .ok (.putfield 31, 3) := by decide +kernel
theorem dX1_init_48 : decode cX1_init 48 = .ok (.return_, 1) := by decide +kernel
theorem dX1_emit_0 : decode cX1_emit 0 = .ok (.aload_n 0, 1) := by decide +kernel
theorem dX1_emit_1 : decode cX1_emit 1 = .ok (.getfield 31, 3) := by decide +kernel
theorem dX1_emit_4 : decode cX1_emit 4 = .ok (.sipush 802, 3) := by decide +kernel
theorem dX1_emit_7 : decode cX1_emit 7 = .ok (.if_icmp .ge 23, 3) := by decide +kernel
theorem dX1_emit_10 : decode cX1_emit 10 = .ok (.aload_n 0, 1) := by decide +kernel
theorem dX1_emit_11 : decode cX1_emit 11 = .ok (.getfield 11, 3) := by decide +kernel
theorem dX1_emit_14 : decode cX1_emit 14 = .ok (.aload_n 0, 1) := by decide +kernel
theorem dX1_emit_15 : decode cX1_emit 15 = .ok (.getfield 31, 3) := by decide +kernel
theorem dX1_emit_18 : decode cX1_emit 18 = .ok (.iload_n 1, 1) := by decide +kernel
theorem dX1_emit_19 : decode cX1_emit 19 = .ok (.iastore, 1) := by decide +kernel
theorem dX1_emit_20 : decode cX1_emit 20 = .ok (.aload_n 0, 1) := by decide +kernel
theorem dX1_emit_21 : decode cX1_emit 21 = .ok (.dup, 1) := by decide +kernel
theorem dX1_emit_22 : decode cX1_emit 22 = .ok (.getfield 31, 3) := by decide +kernel
theorem dX1_emit_25 : decode cX1_emit 25 = .ok (.iconst 1, 1) := by decide +kernel
theorem dX1_emit_26 : decode cX1_emit 26 = .ok (.iadd, 1) := by decide +kernel
theorem dX1_emit_27 : decode cX1_emit 27 = .ok (.putfield 31, 3) := by decide +kernel
theorem dX1_emit_30 : decode cX1_emit 30 = .ok (.return_, 1) := by decide +kernel
theorem dX1_emitSign_0 : decode cX1_emitSign 0 = .ok (.iload_n 1, 1) := by decide +kernel
theorem dX1_emitSign_1 : decode cX1_emitSign 1 = .ok (.tableswitch 75 42 47 #[57, 39, 75, 48, 75, 66], 39) := by decide +kernel
theorem dX1_emitSign_40 : decode cX1_emitSign 40 = .ok (.aload_n 0, 1) := by decide +kernel
theorem dX1_emitSign_41 : decode cX1_emitSign 41 = .ok (.bipush (-7), 2) := by decide +kernel
theorem dX1_emitSign_43 : decode cX1_emitSign 43 = .ok (.invokevirtual 34, 3) := by decide +kernel
theorem dX1_emitSign_46 : decode cX1_emitSign 46 = .ok (.goto 30, 3) := by decide +kernel
theorem dX1_emitSign_49 : decode cX1_emitSign 49 = .ok (.aload_n 0, 1) := by decide +kernel
theorem dX1_emitSign_50 : decode cX1_emitSign 50 = .ok (.bipush (-8), 2) := by decide +kernel
theorem dX1_emitSign_52 : decode cX1_emitSign 52 = .ok (.invokevirtual 34, 3) := by decide +kernel
theorem dX1_emitSign_55 : decode cX1_emitSign 55 = .ok (.goto 21, 3) := by decide +kernel
theorem dX1_emitSign_58 : decode cX1_emitSign 58 = .ok (.aload_n 0, 1) := by decide +kernel
theorem dX1_emitSign_59 : decode cX1_emitSign 59 = .ok (.bipush (-9), 2) := by decide +kernel
theorem dX1_emitSign_61 : decode cX1_emitSign 61 = .ok (.invokevirtual 34, 3) := by decide +kernel
theorem dX1_emitSign_64 : decode cX1_emitSign 64 = .ok (.goto 12, 3) := by decide +kernel
theorem dX1_emitSign_67 : decode cX1_emitSign 67 = .ok (.aload_n 0, 1) := by decide +kernel
theorem dX1_emitSign_68 : decode cX1_emitSign 68 = .ok (.bipush (-10), 2) := by decide +kernel
theorem dX1_emitSign_70 : decode cX1_emitSign 70 = .ok (.invokevirtual 34, 3) := by decide +kernel
theorem dX1_emitSign_73 : decode cX1_emitSign 73 = .ok (.goto 3, 3) := by decide +kernel
theorem dX1_emitSign_76 : decode cX1_emitSign 76 = .ok (.return_, 1) := by decide +kernel
theorem dX1_fill_0 : decode cX1_fill 0 = .ok (.iload_n 1, 1) := by decide +kernel
theorem dX1_fill_1 : decode cX1_fill 1 = .ok (.ifCond .lt 18, 3) := by decide +kernel
theorem dX1_fill_4 : decode cX1_fill 4 = .ok (.iload_n 1, 1) := by decide +kernel
theorem dX1_fill_5 : decode cX1_fill 5 = .ok (.aload_n 0, 1) := by decide +kernel
theorem dX1_fill_6 : decode cX1_fill 6 = .ok (.getfield 31, 3) := by decide +kernel
theorem dX1_fill_9 : decode cX1_fill 9 = .ok (.if_icmp .ge 10, 3) := by decide +kernel
theorem dX1_fill_12 : decode cX1_fill 12 = .ok (.aload_n 0, 1) := by decide +kernel
theorem dX1_fill_13 : decode cX1_fill 13 = .ok (.getfield 11, 3) := by decide +kernel
theorem dX1_fill_16 : decode cX1_fill 16 = .ok (.iload_n 1, 1) := by decide +kernel
theorem dX1_fill_17 : decode cX1_fill 17 = .ok (.iload_n 2, 1) := by decide +kernel
theorem dX1_fill_18 : decode cX1_fill 18 = .ok (.iastore, 1) := by decide +kernel
theorem dX1_fill_19 : decode cX1_fill 19 = .ok (.return_, 1) := by decide +kernel
theorem dX1_look_0 : decode cX1_look 0 = .ok (.aload_n 0, 1) := by decide +kernel
theorem dX1_look_1 : decode cX1_look 1 = .ok (.getfield 18, 3) := by decide +kernel
theorem dX1_look_4 : decode cX1_look 4 = .ok (.iconst 0, 1) := by decide +kernel
theorem dX1_look_5 : decode cX1_look 5 = .ok (.iload_n 1, 1) := by decide +kernel
theorem dX1_look_6 : decode cX1_look 6 = .ok (.iastore, 1) := by decide +kernel
theorem dX1_look_7 : decode cX1_look 7 = .ok (.aload_n 0, 1) := by decide +kernel
theorem dX1_look_8 : decode cX1_look 8 = .ok (.getfield 18, 3) := by decide +kernel
theorem dX1_look_11 : decode cX1_look 11 = .ok (.iconst 1, 1) := by decide +kernel
theorem dX1_look_12 : decode cX1_look 12 = .ok (.iload_n 2, 1) := by decide +kernel
theorem dX1_look_13 : decode cX1_look 13 = .ok (.iastore, 1) := by decide +kernel
theorem dX1_look_14 : decode cX1_look 14 = .ok (.aload_n 0, 1) := by decide +kernel
theorem dX1_look_15 : decode cX1_look 15 = .ok (.getfield 18, 3) := by decide +kernel
theorem dX1_look_18 : decode cX1_look 18 = .ok (.iconst 2, 1) := by decide +kernel
theorem dX1_look_19 : decode cX1_look 19 = .ok (.iload_n 3, 1) := by decide +kernel
theorem dX1_look_20 : decode cX1_look 20 = .ok (.iastore, 1) := by decide +kernel
theorem dX1_look_21 : decode cX1_look 21 = .ok (.aload_n 0, 1) := by decide +kernel
theorem dX1_look_22 : decode cX1_look 22 = .ok (.getfield 18, 3) := by decide +kernel
theorem dX1_look_25 : decode cX1_look 25 = .ok (.iconst 3, 1) := by decide +kernel
theorem dX1_look_26 : decode cX1_look 26 = .ok (.iload 4, 2) := by decide +kernel
theorem dX1_look_28 : decode cX1_look 28 = .ok (.iastore, 1) := by decide +kernel
theorem dX1_look_29 : decode cX1_look 29 = .ok (.aload_n 0, 1) := by decide +kernel
theorem dX1_look_30 : decode cX1_look 30 = .ok (.getfield 18, 3) := by decide +kernel
theorem dX1_look_33 : decode cX1_look 33 = .ok (.iconst 4, 1) := by decide +kernel
theorem dX1_look_34 : decode cX1_look 34 = .ok (.iload 5, 2) := by decide +kernel
theorem dX1_look_36 : decode cX1_look 36 = .ok (.iastore, 1) := by decide +kernel
theorem dX1_look_37 : decode cX1_look 37 = .ok (.return_, 1) := by decide +kernel
theorem dX1_drawFrom_0 : decode cX1_drawFrom 0 = .ok (.aload_n 0, 1) := by decide +kernel
theorem dX1_drawFrom_1 : decode cX1_drawFrom 1 = .ok (.iload_n 1, 1) := by decide +kernel
theorem dX1_drawFrom_2 : decode cX1_drawFrom 2 = .ok (.putfield 25, 3) := by decide +kernel
theorem dX1_drawFrom_5 : decode cX1_drawFrom 5 = .ok (.aload_n 0, 1) := by decide +kernel
theorem dX1_drawFrom_6 : decode cX1_drawFrom 6 = .ok (.iload_n 2, 1) := by decide +kernel
theorem dX1_drawFrom_7 : decode cX1_drawFrom 7 = .ok (.putfield 28, 3) := by decide +kernel
theorem dX1_drawFrom_10 : decode cX1_drawFrom 10 = .ok (.return_, 1) := by decide +kernel
theorem dX1_value_0 : decode cX1_value 0 = .ok (.iload_n 1, 1) := by decide +kernel
theorem dX1_value_1 : decode cX1_value 1 = .ok (.istore_n 2, 1) := by decide +kernel
theorem dX1_value_2 : decode cX1_value 2 = .ok (.aload_n 0, 1) := by decide +kernel
theorem dX1_value_3 : decode cX1_value 3 = .ok (.iconst 0, 1) := by decide +kernel
theorem dX1_value_4 : decode cX1_value 4 = .ok (.putfield 21, 3) := by decide +kernel
theorem dX1_value_7 : decode cX1_value 7 = .ok (.iconst 0, 1) := by decide +kernel
theorem dX1_value_8 : decode cX1_value 8 = .ok (.istore_n 3, 1) := by decide +kernel
theorem dX1_value_9 : decode cX1_value 9 = .ok (.iload_n 3, 1) := by decide +kernel
theorem dX1_value_10 : decode cX1_value 10 = .ok (.sipush 802, 3) := by decide +kernel
theorem dX1_value_13 : decode cX1_value 13 = .ok (.if_icmp .ge 129, 3) := by decide +kernel
theorem dX1_value_16 : decode cX1_value 16 = .ok (.iload_n 2, 1) := by decide +kernel
theorem dX1_value_17 : decode cX1_value 17 = .ok (.ifCond .lt 125, 3) := by decide +kernel
theorem dX1_value_20 : decode cX1_value 20 = .ok (.iload_n 2, 1) := by decide +kernel
theorem dX1_value_21 : decode cX1_value 21 = .ok (.aload_n 0, 1) := by decide +kernel
theorem dX1_value_22 : decode cX1_value 22 = .ok (.getfield 31, 3) := by decide +kernel
theorem dX1_value_25 : decode cX1_value 25 = .ok (.if_icmp .ge 117, 3) := by decide +kernel
theorem dX1_value_28 : decode cX1_value 28 = .ok (.aload_n 0, 1) := by decide +kernel
theorem dX1_value_29 : decode cX1_value 29 = .ok (.getfield 11, 3) := by decide +kernel
theorem dX1_value_32 : decode cX1_value 32 = .ok (.iload_n 2, 1) := by decide +kernel
theorem dX1_value_33 : decode cX1_value 33 = .ok (.iaload, 1) := by decide +kernel
theorem dX1_value_34 : decode cX1_value 34 = .ok (.istore 4, 2) := by decide +kernel
theorem dX1_value_36 : decode cX1_value 36 = .ok (.iinc 2 1, 3) := by decide +kernel
theorem dX1_value_39 : decode cX1_value 39 = .ok (.iload 4, 2) := by decide +kernel
theorem dX1_value_41 : decode cX1_value 41 = .ok (.bipush (-12), 2) := by decide +kernel
theorem dX1_value_43 : decode cX1_value 43 = .ok (.if_icmp .ne 8, 3) := by decide +kernel
theorem dX1_value_46 : decode cX1_value 46 = .ok (.aload_n 0, 1) := by decide +kernel
theorem dX1_value_47 : decode cX1_value 47 = .ok (.invokevirtual 38, 3) := by decide +kernel
theorem dX1_value_50 : decode cX1_value 50 = .ok (.ireturn, 1) := by decide +kernel
theorem dX1_value_51 : decode cX1_value 51 = .ok (.iload 4, 2) := by decide +kernel
theorem dX1_value_53 : decode cX1_value 53 = .ok (.bipush (-11), 2) := by decide +kernel
theorem dX1_value_55 : decode cX1_value 55 = .ok (.if_icmp .ne 37, 3) := by decide +kernel
theorem dX1_value_58 : decode cX1_value 58 = .ok (.aload_n 0, 1) := by decide +kernel
theorem dX1_value_59 : decode cX1_value 59 = .ok (.invokevirtual 38, 3) := by decide +kernel
theorem dX1_value_62 : decode cX1_value 62 = .ok (.istore 5, 2) := by decide +kernel
theorem dX1_value_64 : decode cX1_value 64 = .ok (.aload_n 0, 1) := by decide +kernel
theorem dX1_value_65 : decode cX1_value 65 = .ok (.invokevirtual 38, 3) := by decide +kernel
theorem dX1_value_68 : decode cX1_value 68 = .ok (.istore 6, 2) := by decide +kernel
theorem dX1_value_70 : decode cX1_value 70 = .ok (.iload 6, 2) := by decide +kernel
theorem dX1_value_72 : decode cX1_value 72 = .ok (.iload 5, 2) := by decide +kernel
theorem dX1_value_74 : decode cX1_value 74 = .ok (.if_icmp .ge 9, 3) := by decide +kernel
theorem dX1_value_77 : decode cX1_value 77 = .ok (.iload_n 2, 1) := by decide +kernel
theorem dX1_value_78 : decode cX1_value 78 = .ok (.iconst 1, 1) := by decide +kernel
theorem dX1_value_79 : decode cX1_value 79 = .ok (.iadd, 1) := by decide +kernel
theorem dX1_value_80 : decode cX1_value 80 = .ok (.goto 8, 3) := by decide +kernel
theorem dX1_value_83 : decode cX1_value 83 = .ok (.aload_n 0, 1) := by decide +kernel
theorem dX1_value_84 : decode cX1_value 84 = .ok (.iload_n 2, 1) := by decide +kernel
theorem dX1_value_85 : decode cX1_value 85 = .ok (.invokevirtual 42, 3) := by decide +kernel
theorem dX1_value_88 : decode cX1_value 88 = .ok (.istore_n 2, 1) := by decide +kernel
theorem dX1_value_89 : decode cX1_value 89 = .ok (.goto 47, 3) := by decide +kernel
theorem dX1_value_92 : decode cX1_value 92 = .ok (.iload 4, 2) := by decide +kernel
theorem dX1_value_94 : decode cX1_value 94 = .ok (.bipush (-6), 2) := by decide +kernel
theorem dX1_value_96 : decode cX1_value 96 = .ok (.if_icmp .lt 12, 3) := by decide +kernel
theorem dX1_value_99 : decode cX1_value 99 = .ok (.aload_n 0, 1) := by decide +kernel
theorem dX1_value_100 : decode cX1_value 100 = .ok (.iload 4, 2) := by decide +kernel
theorem dX1_value_102 : decode cX1_value 102 = .ok (.invokevirtual 46, 3) := by decide +kernel
theorem dX1_value_105 : decode cX1_value 105 = .ok (.goto 31, 3) := by decide +kernel
theorem dX1_value_108 : decode cX1_value 108 = .ok (.aload_n 0, 1) := by decide +kernel
theorem dX1_value_109 : decode cX1_value 109 = .ok (.invokevirtual 38, 3) := by decide +kernel
theorem dX1_value_112 : decode cX1_value 112 = .ok (.istore 5, 2) := by decide +kernel
theorem dX1_value_114 : decode cX1_value 114 = .ok (.iload 4, 2) := by decide +kernel
theorem dX1_value_116 : decode cX1_value 116 = .ok (.bipush (-10), 2) := by decide +kernel
theorem dX1_value_118 : decode cX1_value 118 = .ok (.if_icmp .ne 10, 3) := by decide +kernel
theorem dX1_value_121 : decode cX1_value 121 = .ok (.iload 5, 2) := by decide +kernel
theorem dX1_value_123 : decode cX1_value 123 = .ok (.ifCond .ne 5, 3) := by decide +kernel
theorem dX1_value_126 : decode cX1_value 126 = .ok (.iconst 0, 1) := by decide +kernel
theorem dX1_value_127 : decode cX1_value 127 = .ok (.ireturn, 1) := by decide +kernel
theorem dX1_value_128 : decode cX1_value 128 = .ok (.aload_n 0, 1) := by decide +kernel
theorem dX1_value_129 : decode cX1_value 129 = .ok (.iload 4, 2) := by decide +kernel
theorem dX1_value_131 : decode cX1_value 131 = .ok (.iload 5, 2) := by decide +kernel
theorem dX1_value_133 : decode cX1_value 133 = .ok (.invokevirtual 49, 3) := by decide +kernel
theorem dX1_value_136 : decode cX1_value 136 = .ok (.iinc 3 1, 3) := by decide +kernel
theorem dX1_value_139 : decode cX1_value 139 = .ok (.goto (-130), 3) := by decide +kernel
theorem dX1_value_142 : decode cX1_value 142 = .ok (.iconst 0, 1) := by decide +kernel
theorem dX1_value_143 : decode cX1_value 143 = .ok (.ireturn, 1) := by decide +kernel
theorem dX1_target_0 : decode cX1_target 0 = .ok (.iload_n 1, 1) := by decide +kernel
theorem dX1_target_1 : decode cX1_target 1 = .ok (.aload_n 0, 1) := by decide +kernel
theorem dX1_target_2 : decode cX1_target 2 = .ok (.getfield 31, 3) := by decide +kernel
theorem dX1_target_5 : decode cX1_target 5 = .ok (.if_icmp .ge 12, 3) := by decide +kernel
theorem dX1_target_8 : decode cX1_target 8 = .ok (.aload_n 0, 1) := by decide +kernel
theorem dX1_target_9 : decode cX1_target 9 = .ok (.getfield 11, 3) := by decide +kernel
theorem dX1_target_12 : decode cX1_target 12 = .ok (.iload_n 1, 1) := by decide +kernel
theorem dX1_target_13 : decode cX1_target 13 = .ok (.iaload, 1) := by decide +kernel
theorem dX1_target_14 : decode cX1_target 14 = .ok (.goto 4, 3) := by decide +kernel
theorem dX1_target_17 : decode cX1_target 17 = .ok (.iconst (-1), 1) := by decide +kernel
theorem dX1_target_18 : decode cX1_target 18 = .ok (.ireturn, 1) := by decide +kernel
theorem dX1_push_0 : decode cX1_push 0 = .ok (.iload_n 1, 1) := by decide +kernel
theorem dX1_push_1 : decode cX1_push 1 = .ok (.istore_n 2, 1) := by decide +kernel
theorem dX1_push_2 : decode cX1_push 2 = .ok (.iload_n 1, 1) := by decide +kernel
theorem dX1_push_3 : decode cX1_push 3 = .ok (.bipush (-6), 2) := by decide +kernel
theorem dX1_push_5 : decode cX1_push 5 = .ok (.if_icmp .ne 29, 3) := by decide +kernel
theorem dX1_push_8 : decode cX1_push 8 = .ok (.aload_n 0, 1) := by decide +kernel
theorem dX1_push_9 : decode cX1_push 9 = .ok (.getfield 25, 3) := by decide +kernel
theorem dX1_push_12 : decode cX1_push 12 = .ok (.bipush 24, 2) := by decide +kernel
theorem dX1_push_14 : decode cX1_push 14 = .ok (.invokestatic 53, 3) := by decide +kernel
theorem dX1_push_17 : decode cX1_push 17 = .ok (.aload_n 0, 1) := by decide +kernel
theorem dX1_push_18 : decode cX1_push 18 = .ok (.getfield 28, 3) := by decide +kernel
theorem dX1_push_21 : decode cX1_push 21 = .ok (.invokestatic 53, 3) := by decide +kernel
theorem dX1_push_24 : decode cX1_push 24 = .ok (.iconst 1, 1) := by decide +kernel
theorem dX1_push_25 : decode cX1_push 25 = .ok (.iushr, 1) := by decide +kernel
theorem dX1_push_26 : decode cX1_push 26 = .ok (.sipush 1000, 3) := by decide +kernel
theorem dX1_push_29 : decode cX1_push 29 = .ok (.irem, 1) := by decide +kernel
theorem dX1_push_30 : decode cX1_push 30 = .ok (.istore_n 2, 1) := by decide +kernel
theorem dX1_push_31 : decode cX1_push 31 = .ok (.goto 16, 3) := by decide +kernel
theorem dX1_push_34 : decode cX1_push 34 = .ok (.iload_n 1, 1) := by decide +kernel
theorem dX1_push_35 : decode cX1_push 35 = .ok (.ifCond .ge 12, 3) := by decide +kernel
theorem dX1_push_38 : decode cX1_push 38 = .ok (.aload_n 0, 1) := by decide +kernel
theorem dX1_push_39 : decode cX1_push 39 = .ok (.getfield 18, 3) := by decide +kernel
theorem dX1_push_42 : decode cX1_push 42 = .ok (.iconst (-1), 1) := by decide +kernel
theorem dX1_push_43 : decode cX1_push 43 = .ok (.iload_n 1, 1) := by decide +kernel
theorem dX1_push_44 : decode cX1_push 44 = .ok (.isub, 1) := by decide +kernel
theorem dX1_push_45 : decode cX1_push 45 = .ok (.iaload, 1) := by decide +kernel
theorem dX1_push_46 : decode cX1_push 46 = .ok (.istore_n 2, 1) := by decide +kernel
theorem dX1_push_47 : decode cX1_push 47 = .ok (.aload_n 0, 1) := by decide +kernel
theorem dX1_push_48 : decode cX1_push 48 = .ok (.iload_n 2, 1) := by decide +kernel
theorem dX1_push_49 : decode cX1_push 49 = .ok (.invokevirtual 57, 3) := by decide +kernel
theorem dX1_push_52 : decode cX1_push 52 = .ok (.return_, 1) := by decide +kernel
theorem dX1_operate_0 : decode cX1_operate 0 = .ok (.aload_n 0, 1) := by decide +kernel
theorem dX1_operate_1 : decode cX1_operate 1 = .ok (.invokevirtual 38, 3) := by decide +kernel
theorem dX1_operate_4 : decode cX1_operate 4 = .ok (.istore_n 3, 1) := by decide +kernel
theorem dX1_operate_5 : decode cX1_operate 5 = .ok (.iload_n 1, 1) := by decide +kernel
theorem dX1_operate_6 : decode cX1_operate 6 = .ok (.bipush (-7), 2) := by decide +kernel
theorem dX1_operate_8 : decode cX1_operate 8 = .ok (.if_icmp .ne 13, 3) := by decide +kernel
theorem dX1_operate_11 : decode cX1_operate 11 = .ok (.aload_n 0, 1) := by decide +kernel
theorem dX1_operate_12 : decode cX1_operate 12 = .ok (.iload_n 3, 1) := by decide +kernel
theorem dX1_operate_13 : decode cX1_operate 13 = .ok (.iload_n 2, 1) := by decide +kernel
theorem dX1_operate_14 : decode cX1_operate 14 = .ok (.iadd, 1) := by decide +kernel
theorem dX1_operate_15 : decode cX1_operate 15 = .ok (.invokevirtual 57, 3) := by decide +kernel
theorem dX1_operate_18 : decode cX1_operate 18 = .ok (.goto 46, 3) := by decide +kernel
theorem dX1_operate_21 : decode cX1_operate 21 = .ok (.iload_n 1, 1) := by decide +kernel
theorem dX1_operate_22 : decode cX1_operate 22 = .ok (.bipush (-8), 2) := by decide +kernel
theorem dX1_operate_24 : decode cX1_operate 24 = .ok (.if_icmp .ne 13, 3) := by decide +kernel
theorem dX1_operate_27 : decode cX1_operate 27 = .ok (.aload_n 0, 1) := by decide +kernel
theorem dX1_operate_28 : decode cX1_operate 28 = .ok (.iload_n 3, 1) := by decide +kernel
theorem dX1_operate_29 : decode cX1_operate 29 = .ok (.iload_n 2, 1) := by decide +kernel
theorem dX1_operate_30 : decode cX1_operate 30 = .ok (.isub, 1) := by decide +kernel
theorem dX1_operate_31 : decode cX1_operate 31 = .ok (.invokevirtual 57, 3) := by decide +kernel
theorem dX1_operate_34 : decode cX1_operate 34 = .ok (.goto 30, 3) := by decide +kernel
theorem dX1_operate_37 : decode cX1_operate 37 = .ok (.iload_n 1, 1) := by decide +kernel
theorem dX1_operate_38 : decode cX1_operate 38 = .ok (.bipush (-9), 2) := by decide +kernel
theorem dX1_operate_40 : decode cX1_operate 40 = .ok (.if_icmp .ne 13, 3) := by decide +kernel
theorem dX1_operate_43 : decode cX1_operate 43 = .ok (.aload_n 0, 1) := by decide +kernel
theorem dX1_operate_44 : decode cX1_operate 44 = .ok (.iload_n 3, 1) := by decide +kernel
theorem dX1_operate_45 : decode cX1_operate 45 = .ok (.iload_n 2, 1) := by decide +kernel
theorem dX1_operate_46 : decode cX1_operate 46 = .ok (.imul, 1) := by decide +kernel
theorem dX1_operate_47 : decode cX1_operate 47 = .ok (.invokevirtual 57, 3) := by decide +kernel
theorem dX1_operate_50 : decode cX1_operate 50 = .ok (.goto 14, 3) := by decide +kernel
theorem dX1_operate_53 : decode cX1_operate 53 = .ok (.iload_n 2, 1) := by decide +kernel
theorem dX1_operate_54 : decode cX1_operate 54 = .ok (.ifCond .eq 10, 3) := by decide +kernel
theorem dX1_operate_57 : decode cX1_operate 57 = .ok (.aload_n 0, 1) := by decide +kernel
theorem dX1_operate_58 : decode cX1_operate 58 = .ok (.iload_n 3, 1) := by decide +kernel
theorem dX1_operate_59 : decode cX1_operate 59 = .ok (.iload_n 2, 1) := by decide +kernel
theorem dX1_operate_60 : decode cX1_operate 60 = .ok (.idiv, 1) := by decide +kernel
theorem dX1_operate_61 : decode cX1_operate 61 = .ok (.invokevirtual 57, 3) := by decide +kernel
theorem dX1_operate_64 : decode cX1_operate 64 = .ok (.return_, 1) := by decide +kernel
theorem dX1_put_0 : decode cX1_put 0 = .ok (.aload_n 0, 1) := by decide +kernel
theorem dX1_put_1 : decode cX1_put 1 = .ok (.getfield 21, 3) := by decide +kernel
theorem dX1_put_4 : decode cX1_put 4 = .ok (.bipush 32, 2) := by decide +kernel
theorem dX1_put_6 : decode cX1_put 6 = .ok (.if_icmp .ge 23, 3) := by decide +kernel
theorem dX1_put_9 : decode cX1_put 9 = .ok (.aload_n 0, 1) := by decide +kernel
theorem dX1_put_10 : decode cX1_put 10 = .ok (.getfield 15, 3) := by decide +kernel
theorem dX1_put_13 : decode cX1_put 13 = .ok (.aload_n 0, 1) := by decide +kernel
theorem dX1_put_14 : decode cX1_put 14 = .ok (.getfield 21, 3) := by decide +kernel
theorem dX1_put_17 : decode cX1_put 17 = .ok (.iload_n 1, 1) := by decide +kernel
theorem dX1_put_18 : decode cX1_put 18 = .ok (.iastore, 1) := by decide +kernel
theorem dX1_put_19 : decode cX1_put 19 = .ok (.aload_n 0, 1) := by decide +kernel
theorem dX1_put_20 : decode cX1_put 20 = .ok (.dup, 1) := by decide +kernel
theorem dX1_put_21 : decode cX1_put 21 = .ok (.getfield 21, 3) := by decide +kernel
theorem dX1_put_24 : decode cX1_put 24 = .ok (.iconst 1, 1) := by decide +kernel
theorem dX1_put_25 : decode cX1_put 25 = .ok (.iadd, 1) := by decide +kernel
theorem dX1_put_26 : decode cX1_put 26 = .ok (.putfield 21, 3) := by decide +kernel
theorem dX1_put_29 : decode cX1_put 29 = .ok (.return_, 1) := by decide +kernel
theorem dX1_pop_0 : decode cX1_pop 0 = .ok (.aload_n 0, 1) := by decide +kernel
theorem dX1_pop_1 : decode cX1_pop 1 = .ok (.getfield 21, 3) := by decide +kernel
theorem dX1_pop_4 : decode cX1_pop 4 = .ok (.ifCond .gt 5, 3) := by decide +kernel
theorem dX1_pop_7 : decode cX1_pop 7 = .ok (.iconst 0, 1) := by decide +kernel
theorem dX1_pop_8 : decode cX1_pop 8 = .ok (.ireturn, 1) := by decide +kernel
theorem dX1_pop_9 : decode cX1_pop 9 = .ok (.aload_n 0, 1) := by decide +kernel
theorem dX1_pop_10 : decode cX1_pop 10 = .ok (.dup, 1) := by decide +kernel
theorem dX1_pop_11 : decode cX1_pop 11 = .ok (.getfield 21, 3) := by decide +kernel
theorem dX1_pop_14 : decode cX1_pop 14 = .ok (.iconst 1, 1) := by decide +kernel
theorem dX1_pop_15 : decode cX1_pop 15 = .ok (.isub, 1) := by decide +kernel
theorem dX1_pop_16 : decode cX1_pop 16 = .ok (.putfield 21, 3) := by decide +kernel
theorem dX1_pop_19 : decode cX1_pop 19 = .ok (.aload_n 0, 1) := by decide +kernel
theorem dX1_pop_20 : decode cX1_pop 20 = .ok (.getfield 15, 3) := by decide +kernel
theorem dX1_pop_23 : decode cX1_pop 23 = .ok (.aload_n 0, 1) := by decide +kernel
theorem dX1_pop_24 : decode cX1_pop 24 = .ok (.getfield 21, 3) := by decide +kernel
theorem dX1_pop_27 : decode cX1_pop 27 = .ok (.iaload, 1) := by decide +kernel
theorem dX1_pop_28 : decode cX1_pop 28 = .ok (.ireturn, 1) := by decide +kernel
theorem dX1_mixed_0 : decode cX1_mixed 0 = .ok (.iload_n 0, 1) := by decide +kernel
theorem dX1_mixed_1 : decode cX1_mixed 1 = .ok (.iload_n 1, 1) := by decide +kernel
theorem dX1_mixed_2 : decode cX1_mixed 2 = .ok (.ixor, 1) := by decide +kernel
theorem dX1_mixed_3 : decode cX1_mixed 3 = .ok (.ldc 60, 2) := by decide +kernel
theorem dX1_mixed_5 : decode cX1_mixed 5 = .ok (.imul, 1) := by decide +kernel
theorem dX1_mixed_6 : decode cX1_mixed 6 = .ok (.sipush 12345, 3) := by decide +kernel
theorem dX1_mixed_9 : decode cX1_mixed 9 = .ok (.iadd, 1) := by decide +kernel
theorem dX1_mixed_10 : decode cX1_mixed 10 = .ok (.istore_n 2, 1) := by decide +kernel
theorem dX1_mixed_11 : decode cX1_mixed 11 = .ok (.iload_n 2, 1) := by decide +kernel
theorem dX1_mixed_12 : decode cX1_mixed 12 = .ok (.iload_n 2, 1) := by decide +kernel
theorem dX1_mixed_13 : decode cX1_mixed 13 = .ok (.bipush 15, 2) := by decide +kernel
theorem dX1_mixed_15 : decode cX1_mixed 15 = .ok (.iushr, 1) := by decide +kernel
theorem dX1_mixed_16 : decode cX1_mixed 16 = .ok (.ixor, 1) := by decide +kernel
theorem dX1_mixed_17 : decode cX1_mixed 17 = .ok (.ireturn, 1) := by decide +kernel
theorem dX2_init_0 : decode cX2_init 0 = .ok (.aload_n 0, 1) := by decide +kernel
theorem dX2_init_1 : decode cX2_init 1 = .ok (.invokespecial 3, 3) := by decide +kernel
theorem dX2_init_4 : decode cX2_init 4 = .ok (.aload_n 0, 1) := by decide +kernel
theorem dX2_init_5 : decode cX2_init 5 = .ok (.bipush 30, 2) := by decide +kernel
theorem dX2_init_7 : decode cX2_init 7 = .ok (.anewarray 9, 3) := by decide +kernel
theorem dX2_init_10 : decode cX2_init 10 = .ok (.putfield 11, 3) := by decide +kernel
theorem dX2_init_13 : decode cX2_init 13 = .ok (.aload_n 0, 1) := by decide +kernel
theorem dX2_init_14 : decode cX2_init 14 = .ok (.iconst 3, 1) := by decide +kernel
theorem dX2_init_15 : decode cX2_init 15 = .ok (.anewarray 9, 3) := by decide +kernel
theorem dX2_init_18 : decode cX2_init 18 = .ok (.putfield 17, 3) := by decide +kernel
theorem dX2_init_21 : decode cX2_init 21 = .ok (.aload_n 0, 1) := by decide +kernel
theorem dX2_init_22 : decode cX2_init 22 = .ok (.iconst 3, 1) := by decide +kernel
theorem dX2_init_23 : decode cX2_init 23 = .ok (.newarray .boolean, 2) := by decide +kernel
theorem dX2_init_25 : decode cX2_init 25 = .ok (.putfield 20, 3) := by decide +kernel
theorem dX2_init_28 : decode cX2_init 28 = .ok (.aload_n 0, 1) := by decide +kernel
theorem dX2_init_29 : decode cX2_init 29 = .ok (.iconst 0, 1) := by decide +kernel
theorem dX2_init_30 : decode cX2_init 30 = .ok (.putfield 24, 3) := by decide +kernel
theorem dX2_init_33 : decode cX2_init 33 = .ok (.aload_n 0, 1) := by decide +kernel
theorem dX2_init_34 : decode cX2_init 34 = .ok (.iconst 0, 1) := by decide +kernel
theorem dX2_init_35 : decode cX2_init 35 = .ok (.putfield 28, 3) := by decide +kernel
theorem dX2_init_38 : decode cX2_init 38 = .ok (.iconst 0, 1) := by decide +kernel
theorem dX2_init_39 : decode cX2_init 39 = .ok (.istore_n 1, 1) := by decide +kernel
theorem dX2_init_40 : decode cX2_init 40 = .ok (.iload_n 1, 1) := by decide +kernel
theorem dX2_init_41 : decode cX2_init 41 = .ok (.bipush 30, 2) := by decide +kernel
theorem dX2_init_43 : decode cX2_init 43 = .ok (.if_icmp .ge 22, 3) := by decide +kernel
theorem dX2_init_46 : decode cX2_init 46 = .ok (.aload_n 0, 1) := by decide +kernel
theorem dX2_init_47 : decode cX2_init 47 = .ok (.getfield 11, 3) := by decide +kernel
theorem dX2_init_50 : decode cX2_init 50 = .ok (.iload_n 1, 1) := by decide +kernel
theorem dX2_init_51 : decode cX2_init 51 = .ok (.new 9, 3) := by decide +kernel
theorem dX2_init_54 : decode cX2_init 54 = .ok (.dup, 1) := by decide +kernel
theorem dX2_init_55 : decode cX2_init 55 = .ok (.invokespecial 31, 3) := by decide +kernel
theorem dX2_init_58 : decode cX2_init 58 = .ok (.aastore, 1) := by decide +kernel
theorem dX2_init_59 : decode cX2_init 59 = .ok (.iinc 1 1, 3) := by decide +kernel
theorem dX2_init_62 : decode cX2_init 62 = .ok (.goto (-22), 3) := by decide +kernel
theorem dX2_init_65 : decode cX2_init 65 = .ok (.iconst 0, 1) := by decide +kernel
theorem dX2_init_66 : decode cX2_init 66 = .ok (.istore_n 1, 1) := by decide +kernel
theorem dX2_init_67 : decode cX2_init 67 = .ok (.iload_n 1, 1) := by decide +kernel
theorem dX2_init_68 : decode cX2_init 68 = .ok (.iconst 3, 1) := by decide +kernel
theorem dX2_init_69 : decode cX2_init 69 = .ok (.if_icmp .ge 22, 3) := by decide +kernel
theorem dX2_init_72 : decode cX2_init 72 = .ok (.aload_n 0, 1) := by decide +kernel
theorem dX2_init_73 : decode cX2_init 73 = .ok (.getfield 17, 3) := by decide +kernel
theorem dX2_init_76 : decode cX2_init 76 = .ok (.iload_n 1, 1) := by decide +kernel
theorem dX2_init_77 : decode cX2_init 77 = .ok (.new 9, 3) := by decide +kernel
theorem dX2_init_80 : decode cX2_init 80 = .ok (.dup, 1) := by decide +kernel
theorem dX2_init_81 : decode cX2_init 81 = .ok (.invokespecial 31, 3) := by decide +kernel
theorem dX2_init_84 : decode cX2_init 84 = .ok (.aastore, 1) := by decide +kernel
theorem dX2_init_85 : decode cX2_init 85 = .ok (.iinc 1 1, 3) := by decide +kernel
theorem dX2_init_88 : decode cX2_init 88 = .ok (.goto (-21), 3) := by decide +kernel
theorem dX2_init_91 : decode cX2_init 91 = .ok (.return_, 1) := by decide +kernel
theorem dX2_clear_0 : decode cX2_clear 0 = .ok (.aload_n 0, 1) := by decide +kernel
theorem dX2_clear_1 : decode cX2_clear 1 = .ok (.iconst 0, 1) := by decide +kernel
theorem dX2_clear_2 : decode cX2_clear 2 = .ok (.putfield 28, 3) := by decide +kernel
theorem dX2_clear_5 : decode cX2_clear 5 = .ok (.iconst 0, 1) := by decide +kernel
theorem dX2_clear_6 : decode cX2_clear 6 = .ok (.istore_n 1, 1) := by decide +kernel
theorem dX2_clear_7 : decode cX2_clear 7 = .ok (.iload_n 1, 1) := by decide +kernel
theorem dX2_clear_8 : decode cX2_clear 8 = .ok (.iconst 3, 1) := by decide +kernel
theorem dX2_clear_9 : decode cX2_clear 9 = .ok (.if_icmp .ge 16, 3) := by decide +kernel
theorem dX2_clear_12 : decode cX2_clear 12 = .ok (.aload_n 0, 1) := by decide +kernel
theorem dX2_clear_13 : decode cX2_clear 13 = .ok (.getfield 20, 3) := by decide +kernel
theorem dX2_clear_16 : decode cX2_clear 16 = .ok (.iload_n 1, 1) := by decide +kernel
theorem dX2_clear_17 : decode cX2_clear 17 = .ok (.iconst 0, 1) := by decide +kernel
theorem dX2_clear_18 : decode cX2_clear 18 = .ok (.bastore, 1) := by decide +kernel
theorem dX2_clear_19 : decode cX2_clear 19 = .ok (.iinc 1 1, 3) := by decide +kernel
theorem dX2_clear_22 : decode cX2_clear 22 = .ok (.goto (-15), 3) := by decide +kernel
theorem dX2_clear_25 : decode cX2_clear 25 = .ok (.return_, 1) := by decide +kernel
theorem dX2_remember_0 : decode cX2_remember 0 = .ok (.aload_n 0, 1) := by decide +kernel
theorem dX2_remember_1 : decode cX2_remember 1 = .ok (.getfield 11, 3) := by decide +kernel
theorem dX2_remember_4 : decode cX2_remember 4 = .ok (.aload_n 0, 1) := by decide +kernel
theorem dX2_remember_5 : decode cX2_remember 5 = .ok (.getfield 24, 3) := by decide +kernel
theorem dX2_remember_8 : decode cX2_remember 8 = .ok (.aaload, 1) := by decide +kernel
theorem dX2_remember_9 : decode cX2_remember 9 = .ok (.aload_n 1, 1) := by decide +kernel
theorem dX2_remember_10 : decode cX2_remember 10 = .ok (.invokevirtual 32, 3) := by decide +kernel
theorem dX2_remember_13 : decode cX2_remember 13 = .ok (.aload_n 0, 1) := by decide +kernel
theorem dX2_remember_14 : decode cX2_remember 14 = .ok (.aload_n 0, 1) := by decide +kernel
theorem dX2_remember_15 : decode cX2_remember 15 = .ok (.getfield 24, 3) := by decide +kernel
theorem dX2_remember_18 : decode cX2_remember 18 = .ok (.iconst 1, 1) := by decide +kernel
theorem dX2_remember_19 : decode cX2_remember 19 = .ok (.iadd, 1) := by decide +kernel
theorem dX2_remember_20 : decode cX2_remember 20 = .ok (.bipush 30, 2) := by decide +kernel
theorem dX2_remember_22 : decode cX2_remember 22 = .ok (.irem, 1) := by decide +kernel
theorem dX2_remember_23 : decode cX2_remember 23 = .ok (.putfield 24, 3) := by decide +kernel
theorem dX2_remember_26 : decode cX2_remember 26 = .ok (.aload_n 0, 1) := by decide +kernel
theorem dX2_remember_27 : decode cX2_remember 27 = .ok (.bipush 30, 2) := by decide +kernel
theorem dX2_remember_29 : decode cX2_remember 29 = .ok (.aload_n 0, 1) := by decide +kernel
theorem dX2_remember_30 : decode cX2_remember 30 = .ok (.getfield 28, 3) := by decide +kernel
theorem dX2_remember_33 : decode cX2_remember 33 = .ok (.iconst 1, 1) := by decide +kernel
theorem dX2_remember_34 : decode cX2_remember 34 = .ok (.iadd, 1) := by decide +kernel
theorem dX2_remember_35 : decode cX2_remember 35 = .ok (.invokestatic 36, 3) := by decide +kernel
theorem dX2_remember_38 : decode cX2_remember 38 = .ok (.putfield 28, 3) := by decide +kernel
theorem dX2_remember_41 : decode cX2_remember 41 = .ok (.return_, 1) := by decide +kernel
theorem dX2_recall_0 : decode cX2_recall 0 = .ok (.aload_n 0, 1) := by decide +kernel
theorem dX2_recall_1 : decode cX2_recall 1 = .ok (.getfield 28, 3) := by decide +kernel
theorem dX2_recall_4 : decode cX2_recall 4 = .ok (.ifCond .ne 5, 3) := by decide +kernel
theorem dX2_recall_7 : decode cX2_recall 7 = .ok (.iconst 0, 1) := by decide +kernel
theorem dX2_recall_8 : decode cX2_recall 8 = .ok (.ireturn, 1) := by decide +kernel
theorem dX2_recall_9 : decode cX2_recall 9 = .ok (.aload_n 0, 1) := by decide +kernel
theorem dX2_recall_10 : decode cX2_recall 10 = .ok (.aload_n 0, 1) := by decide +kernel
theorem dX2_recall_11 : decode cX2_recall 11 = .ok (.getfield 24, 3) := by decide +kernel
theorem dX2_recall_14 : decode cX2_recall 14 = .ok (.bipush 30, 2) := by decide +kernel
theorem dX2_recall_16 : decode cX2_recall 16 = .ok (.iadd, 1) := by decide +kernel
theorem dX2_recall_17 : decode cX2_recall 17 = .ok (.iconst 1, 1) := by decide +kernel
theorem dX2_recall_18 : decode cX2_recall 18 = .ok (.isub, 1) := by decide +kernel
theorem dX2_recall_19 : decode cX2_recall 19 = .ok (.bipush 30, 2) := by decide +kernel
theorem dX2_recall_21 : decode cX2_recall 21 = .ok (.irem, 1) := by decide +kernel
theorem dX2_recall_22 : decode cX2_recall 22 = .ok (.putfield 24, 3) := by decide +kernel
theorem dX2_recall_25 : decode cX2_recall 25 = .ok (.aload_n 0, 1) := by decide +kernel
theorem dX2_recall_26 : decode cX2_recall 26 = .ok (.dup, 1) := by decide +kernel
theorem dX2_recall_27 : decode cX2_recall 27 = .ok (.getfield 28, 3) := by decide +kernel
theorem dX2_recall_30 : decode cX2_recall 30 = .ok (.iconst 1, 1) := by decide +kernel
theorem dX2_recall_31 : decode cX2_recall 31 = .ok (.isub, 1) := by decide +kernel
theorem dX2_recall_32 : decode cX2_recall 32 = .ok (.putfield 28, 3) := by decide +kernel
theorem dX2_recall_35 : decode cX2_recall 35 = .ok (.aload_n 1, 1) := by decide +kernel
theorem dX2_recall_36 : decode cX2_recall 36 = .ok (.aload_n 0, 1) := by decide +kernel
theorem dX2_recall_37 : decode cX2_recall 37 = .ok (.getfield 11, 3) := by decide +kernel
theorem dX2_recall_40 : decode cX2_recall 40 = .ok (.aload_n 0, 1) := by decide +kernel
theorem dX2_recall_41 : decode cX2_recall 41 = .ok (.getfield 24, 3) := by decide +kernel
theorem dX2_recall_44 : decode cX2_recall 44 = .ok (.aaload, 1) := by decide +kernel
theorem dX2_recall_45 : decode cX2_recall 45 = .ok (.invokevirtual 32, 3) := by decide +kernel
theorem dX2_recall_48 : decode cX2_recall 48 = .ok (.iconst 1, 1) := by decide +kernel
theorem dX2_recall_49 : decode cX2_recall 49 = .ok (.ireturn, 1) := by decide +kernel
theorem dX2_keep_0 : decode cX2_keep 0 = .ok (.iload_n 1, 1) := by decide +kernel
theorem dX2_keep_1 : decode cX2_keep 1 = .ok (.ifCond .lt 8, 3) := by decide +kernel
theorem dX2_keep_4 : decode cX2_keep 4 = .ok (.iload_n 1, 1) := by decide +kernel
theorem dX2_keep_5 : decode cX2_keep 5 = .ok (.iconst 3, 1) := by decide +kernel
theorem dX2_keep_6 : decode cX2_keep 6 = .ok (.if_icmp .lt 5, 3) := by decide +kernel
theorem dX2_keep_9 : decode cX2_keep 9 = .ok (.iconst 0, 1) := by decide +kernel
theorem dX2_keep_10 : decode cX2_keep 10 = .ok (.ireturn, 1) := by decide +kernel
theorem dX2_keep_11 : decode cX2_keep 11 = .ok (.aload_n 0, 1) := by decide +kernel
theorem dX2_keep_12 : decode cX2_keep 12 = .ok (.getfield 17, 3) := by decide +kernel
theorem dX2_keep_15 : decode cX2_keep 15 = .ok (.iload_n 1, 1) := by decide +kernel
theorem dX2_keep_16 : decode cX2_keep 16 = .ok (.aaload, 1) := by decide +kernel
theorem dX2_keep_17 : decode cX2_keep 17 = .ok (.aload_n 2, 1) := by decide +kernel
theorem dX2_keep_18 : decode cX2_keep 18 = .ok (.invokevirtual 32, 3) := by decide +kernel
theorem dX2_keep_21 : decode cX2_keep 21 = .ok (.aload_n 0, 1) := by decide +kernel
theorem dX2_keep_22 : decode cX2_keep 22 = .ok (.getfield 20, 3) := by decide +kernel
theorem dX2_keep_25 : decode cX2_keep 25 = .ok (.iload_n 1, 1) := by decide +kernel
theorem dX2_keep_26 : decode cX2_keep 26 = .ok (.iconst 1, 1) := by decide +kernel
theorem dX2_keep_27 : decode cX2_keep 27 = .ok (.bastore, 1) := by decide +kernel
theorem dX2_keep_28 : decode cX2_keep 28 = .ok (.iconst 1, 1) := by decide +kernel
theorem dX2_keep_29 : decode cX2_keep 29 = .ok (.ireturn, 1) := by decide +kernel
theorem dX2_bring_0 : decode cX2_bring 0 = .ok (.iload_n 1, 1) := by decide +kernel
theorem dX2_bring_1 : decode cX2_bring 1 = .ok (.ifCond .lt 17, 3) := by decide +kernel
theorem dX2_bring_4 : decode cX2_bring 4 = .ok (.iload_n 1, 1) := by decide +kernel
theorem dX2_bring_5 : decode cX2_bring 5 = .ok (.iconst 3, 1) := by decide +kernel
theorem dX2_bring_6 : decode cX2_bring 6 = .ok (.if_icmp .ge 12, 3) := by decide +kernel
theorem dX2_bring_9 : decode cX2_bring 9 = .ok (.aload_n 0, 1) := by decide +kernel
theorem dX2_bring_10 : decode cX2_bring 10 = .ok (.getfield 20, 3) := by decide +kernel
theorem dX2_bring_13 : decode cX2_bring 13 = .ok (.iload_n 1, 1) := by decide +kernel
theorem dX2_bring_14 : decode cX2_bring 14 = .ok (.baload, 1) := by decide +kernel
theorem dX2_bring_15 : decode cX2_bring 15 = .ok (.ifCond .ne 5, 3) := by decide +kernel
theorem dX2_bring_18 : decode cX2_bring 18 = .ok (.iconst 0, 1) := by decide +kernel
theorem dX2_bring_19 : decode cX2_bring 19 = .ok (.ireturn, 1) := by decide +kernel
theorem dX2_bring_20 : decode cX2_bring 20 = .ok (.aload_n 2, 1) := by decide +kernel
theorem dX2_bring_21 : decode cX2_bring 21 = .ok (.aload_n 0, 1) := by decide +kernel
theorem dX2_bring_22 : decode cX2_bring 22 = .ok (.getfield 17, 3) := by decide +kernel
theorem dX2_bring_25 : decode cX2_bring 25 = .ok (.iload_n 1, 1) := by decide +kernel
theorem dX2_bring_26 : decode cX2_bring 26 = .ok (.aaload, 1) := by decide +kernel
theorem dX2_bring_27 : decode cX2_bring 27 = .ok (.invokevirtual 32, 3) := by decide +kernel
theorem dX2_bring_30 : decode cX2_bring 30 = .ok (.aload_n 0, 1) := by decide +kernel
theorem dX2_bring_31 : decode cX2_bring 31 = .ok (.iconst 0, 1) := by decide +kernel
theorem dX2_bring_32 : decode cX2_bring 32 = .ok (.putfield 28, 3) := by decide +kernel
theorem dX2_bring_35 : decode cX2_bring 35 = .ok (.iconst 1, 1) := by decide +kernel
theorem dX2_bring_36 : decode cX2_bring 36 = .ok (.ireturn, 1) := by decide +kernel
theorem dX2_slotsHeld_0 : decode cX2_slotsHeld 0 = .ok (.iconst 0, 1) := by decide +kernel
theorem dX2_slotsHeld_1 : decode cX2_slotsHeld 1 = .ok (.istore_n 1, 1) := by decide +kernel
theorem dX2_slotsHeld_2 : decode cX2_slotsHeld 2 = .ok (.iconst 0, 1) := by decide +kernel
theorem dX2_slotsHeld_3 : decode cX2_slotsHeld 3 = .ok (.istore_n 2, 1) := by decide +kernel
theorem dX2_slotsHeld_4 : decode cX2_slotsHeld 4 = .ok (.iload_n 2, 1) := by decide +kernel
theorem dX2_slotsHeld_5 : decode cX2_slotsHeld 5 = .ok (.iconst 3, 1) := by decide +kernel
theorem dX2_slotsHeld_6 : decode cX2_slotsHeld 6 = .ok (.if_icmp .ge 26, 3) := by decide +kernel
theorem dX2_slotsHeld_9 : decode cX2_slotsHeld 9 = .ok (.iload_n 1, 1) := by decide +kernel
theorem dX2_slotsHeld_10 : decode cX2_slotsHeld 10 = .ok (.aload_n 0, 1) := by decide +kernel
theorem dX2_slotsHeld_11 : decode cX2_slotsHeld 11 = .ok (.getfield 20, 3) := by decide +kernel
theorem dX2_slotsHeld_14 : decode cX2_slotsHeld 14 = .ok (.iload_n 2, 1) := by decide +kernel
theorem dX2_slotsHeld_15 : decode cX2_slotsHeld 15 = .ok (.baload, 1) := by decide +kernel
theorem dX2_slotsHeld_16 : decode cX2_slotsHeld 16 = .ok (.ifCond .eq 7, 3) := by decide +kernel
theorem dX2_slotsHeld_19 : decode cX2_slotsHeld 19 = .ok (.iconst 1, 1) := by decide +kernel
theorem dX2_slotsHeld_20 : decode cX2_slotsHeld 20 = .ok (.goto 4, 3) := by decide +kernel
theorem dX2_slotsHeld_23 : decode cX2_slotsHeld 23 = .ok (.iconst 0, 1) := by decide +kernel
theorem dX2_slotsHeld_24 : decode cX2_slotsHeld 24 = .ok (.iadd, 1) := by decide +kernel
theorem dX2_slotsHeld_25 : decode cX2_slotsHeld 25 = .ok (.istore_n 1, 1) := by decide +kernel
theorem dX2_slotsHeld_26 : decode cX2_slotsHeld 26 = .ok (.iinc 2 1, 3) := by decide +kernel
theorem dX2_slotsHeld_29 : decode cX2_slotsHeld 29 = .ok (.goto (-25), 3) := by decide +kernel
theorem dX2_slotsHeld_32 : decode cX2_slotsHeld 32 = .ok (.iload_n 1, 1) := by decide +kernel
theorem dX2_slotsHeld_33 : decode cX2_slotsHeld 33 = .ok (.ireturn, 1) := by decide +kernel
theorem dX3_init_0 : decode cX3_init 0 = .ok (.aload_n 0, 1) := by decide +kernel
theorem dX3_init_1 : decode cX3_init 1 = .ok (.invokespecial 3, 3) := by decide +kernel
theorem dX3_init_4 : decode cX3_init 4 = .ok (.aload_n 0, 1) := by decide +kernel
theorem dX3_init_5 : decode cX3_init 5 = .ok (.iconst 5, 1) := by decide +kernel
theorem dX3_init_6 : decode cX3_init 6 = .ok (.newarray .int, 2) := by decide +kernel
theorem dX3_init_8 : decode cX3_init 8 = .ok (.putfield 9, 3) := by decide +kernel
theorem dX3_init_11 : decode cX3_init 11 = .ok (.aload_n 0, 1) := by decide +kernel
theorem dX3_init_12 : decode cX3_init 12 = .ok (.iconst 5, 1) := by decide +kernel
theorem dX3_init_13 : decode cX3_init 13 = .ok (.newarray .int, 2) := by decide +kernel
theorem dX3_init_15 : decode cX3_init 15 = .ok (.putfield 15, 3) := by decide +kernel
theorem dX3_init_18 : decode cX3_init 18 = .ok (.aload_n 0, 1) := by decide +kernel
theorem dX3_init_19 : decode cX3_init 19 = .ok (.bipush 8, 2) := by decide +kernel
theorem dX3_init_21 : decode cX3_init 21 = .ok (.newarray .int, 2) := by decide +kernel
theorem dX3_init_23 : decode cX3_init 23 = .ok (.putfield 18, 3) := by decide +kernel
theorem dX3_init_26 : decode cX3_init 26 = .ok (.aload_n 0, 1) := by decide +kernel
theorem dX3_init_27 : decode cX3_init 27 = .ok (.bipush 8, 2) := by decide +kernel
theorem dX3_init_29 : decode cX3_init 29 = .ok (.newarray .int, 2) := by decide +kernel
theorem dX3_init_31 : decode cX3_init 31 = .ok (.putfield 21, 3) := by decide +kernel
theorem dX3_init_34 : decode cX3_init 34 = .ok (.aload_n 0, 1) := by decide +kernel
theorem dX3_init_35 : decode cX3_init 35 = .ok (.bipush 8, 2) := by decide +kernel
theorem dX3_init_37 : decode cX3_init 37 = .ok (.newarray .int, 2) := by decide +kernel
theorem dX3_init_39 : decode cX3_init 39 = .ok (.putfield 24, 3) := by decide +kernel
theorem dX3_init_42 : decode cX3_init 42 = .ok (.aload_n 0, 1) := by decide +kernel
theorem dX3_init_43 : decode cX3_init 43 = .ok (.bipush 8, 2) := by decide +kernel
theorem dX3_init_45 : decode cX3_init 45 = .ok (.newarray .int, 2) := by decide +kernel
theorem dX3_init_47 : decode cX3_init 47 = .ok (.putfield 27, 3) := by decide +kernel
theorem dX3_init_50 : decode cX3_init 50 = .ok (.aload_n 0, 1) := by decide +kernel
theorem dX3_init_51 : decode cX3_init 51 = .ok (.bipush 16, 2) := by decide +kernel
theorem dX3_init_53 : decode cX3_init 53 = .ok (.newarray .int, 2) := by decide +kernel
theorem dX3_init_55 : decode cX3_init 55 = .ok (.putfield 30, 3) := by decide +kernel
theorem dX3_init_58 : decode cX3_init 58 = .ok (.aload_n 0, 1) := by decide +kernel
theorem dX3_init_59 : decode cX3_init 59 = .ok (.bipush 16, 2) := by decide +kernel
theorem dX3_init_61 : decode cX3_init 61 = .ok (.newarray .int, 2) := by decide +kernel
theorem dX3_init_63 : decode cX3_init 63 = .ok (.putfield 33, 3) := by decide +kernel
theorem dX3_init_66 : decode cX3_init 66 = .ok (.aload_n 0, 1) := by decide +kernel
theorem dX3_init_67 : decode cX3_init 67 = .ok (.bipush 16, 2) := by decide +kernel
theorem dX3_init_69 : decode cX3_init 69 = .ok (.newarray .int, 2) := by decide +kernel
theorem dX3_init_71 : decode cX3_init 71 = .ok (.putfield 36, 3) := by decide +kernel
theorem dX3_init_74 : decode cX3_init 74 = .ok (.aload_n 0, 1) := by decide +kernel
theorem dX3_init_75 : decode cX3_init 75 = .ok (.new 39, 3) := by decide +kernel
theorem dX3_init_78 : decode cX3_init 78 = .ok (.dup, 1) := by decide +kernel
theorem dX3_init_79 : decode cX3_init 79 = .ok (.invokespecial 41, 3) := by decide +kernel
theorem dX3_init_82 : decode cX3_init 82 = .ok (.putfield 42, 3) := by decide +kernel
theorem dX3_init_85 : decode cX3_init 85 = .ok (.aload_n 0, 1) := by decide +kernel
theorem dX3_init_86 : decode cX3_init 86 = .ok (.new 46, 3) := by decide +kernel
theorem dX3_init_89 : decode cX3_init 89 = .ok (.dup, 1) := by decide +kernel
theorem dX3_init_90 : decode cX3_init 90 = .ok (.invokespecial 48, 3) := by decide +kernel
theorem dX3_init_93 : decode cX3_init 93 = .ok (.putfield 49, 3) := by decide +kernel
theorem dX3_init_96 : decode cX3_init 96 = .ok (.aload_n 0, 1) := by decide +kernel
theorem dX3_init_97 : decode cX3_init 97 = .ok (.iconst 0, 1) := by decide +kernel
theorem dX3_init_98 : decode cX3_init 98 = .ok (.putfield 53, 3) := by decide +kernel
theorem dX3_init_101 : decode cX3_init 101 = .ok (.aload_n 0, 1) := by decide +kernel
theorem dX3_init_102 : decode cX3_init 102 = .ok (.iconst 0, 1) := by decide +kernel
theorem dX3_init_103 : decode cX3_init 103 = .ok (.putfield 57, 3) := by decide +kernel
theorem dX3_init_106 : decode cX3_init 106 = .ok (.aload_n 0, 1) := by decide +kernel
theorem dX3_init_107 : decode cX3_init 107 = .ok (.iconst 0, 1) := by decide +kernel
theorem dX3_init_108 : decode cX3_init 108 = .ok (.putfield 60, 3) := by decide +kernel
theorem dX3_init_111 : decode cX3_init 111 = .ok (.aload_n 0, 1) := by decide +kernel
theorem dX3_init_112 : decode cX3_init 112 = .ok (.iconst (-1), 1) := by decide +kernel
theorem dX3_init_113 : decode cX3_init 113 = .ok (.putfield 63, 3) := by decide +kernel
theorem dX3_init_116 : decode cX3_init 116 = .ok (.aload_n 0, 1) := by decide +kernel
theorem dX3_init_117 : decode cX3_init 117 = .ok (.sipush 999, 3) := by decide +kernel
theorem dX3_init_120 : decode cX3_init 120 = .ok (.putfield 66, 3) := by decide +kernel
theorem dX3_init_123 : decode cX3_init 123 = .ok (.aload_n 0, 1) := by decide +kernel
theorem dX3_init_124 : decode cX3_init 124 = .ok (.iconst 0, 1) := by decide +kernel
theorem dX3_init_125 : decode cX3_init 125 = .ok (.putfield 69, 3) := by decide +kernel
theorem dX3_init_128 : decode cX3_init 128 = .ok (.return_, 1) := by decide +kernel
theorem dX3_clear_0 : decode cX3_clear 0 = .ok (.aload_n 0, 1) := by decide +kernel
theorem dX3_clear_1 : decode cX3_clear 1 = .ok (.iconst 0, 1) := by decide +kernel
theorem dX3_clear_2 : decode cX3_clear 2 = .ok (.putfield 53, 3) := by decide +kernel
theorem dX3_clear_5 : decode cX3_clear 5 = .ok (.aload_n 0, 1) := by decide +kernel
theorem dX3_clear_6 : decode cX3_clear 6 = .ok (.iconst 0, 1) := by decide +kernel
theorem dX3_clear_7 : decode cX3_clear 7 = .ok (.putfield 57, 3) := by decide +kernel
theorem dX3_clear_10 : decode cX3_clear 10 = .ok (.aload_n 0, 1) := by decide +kernel
theorem dX3_clear_11 : decode cX3_clear 11 = .ok (.iconst 0, 1) := by decide +kernel
theorem dX3_clear_12 : decode cX3_clear 12 = .ok (.putfield 60, 3) := by decide +kernel
theorem dX3_clear_15 : decode cX3_clear 15 = .ok (.aload_n 0, 1) := by decide +kernel
theorem dX3_clear_16 : decode cX3_clear 16 = .ok (.iconst (-1), 1) := by decide +kernel
theorem dX3_clear_17 : decode cX3_clear 17 = .ok (.putfield 63, 3) := by decide +kernel
theorem dX3_clear_20 : decode cX3_clear 20 = .ok (.aload_n 0, 1) := by decide +kernel
theorem dX3_clear_21 : decode cX3_clear 21 = .ok (.sipush 999, 3) := by decide +kernel
theorem dX3_clear_24 : decode cX3_clear 24 = .ok (.putfield 66, 3) := by decide +kernel
theorem dX3_clear_27 : decode cX3_clear 27 = .ok (.aload_n 0, 1) := by decide +kernel
theorem dX3_clear_28 : decode cX3_clear 28 = .ok (.iconst 0, 1) := by decide +kernel
theorem dX3_clear_29 : decode cX3_clear 29 = .ok (.putfield 69, 3) := by decide +kernel
theorem dX3_clear_32 : decode cX3_clear 32 = .ok (.aload_n 0, 1) := by decide +kernel
theorem dX3_clear_33 : decode cX3_clear 33 = .ok (.getfield 42, 3) := by decide +kernel
theorem dX3_clear_36 : decode cX3_clear 36 = .ok (.iconst 0, 1) := by decide +kernel
theorem dX3_clear_37 : decode cX3_clear 37 = .ok (.putfield 72, 3) := by decide +kernel
theorem dX3_clear_40 : decode cX3_clear 40 = .ok (.aload_n 0, 1) := by decide +kernel
theorem dX3_clear_41 : decode cX3_clear 41 = .ok (.getfield 49, 3) := by decide +kernel
theorem dX3_clear_44 : decode cX3_clear 44 = .ok (.invokevirtual 75, 3) := by decide +kernel
theorem dX3_clear_47 : decode cX3_clear 47 = .ok (.return_, 1) := by decide +kernel
theorem dX3_hasHeir_0 : decode cX3_hasHeir 0 = .ok (.iload_n 1, 1) := by decide +kernel
theorem dX3_hasHeir_1 : decode cX3_hasHeir 1 = .ok (.ifCond .lt 15, 3) := by decide +kernel
theorem dX3_hasHeir_4 : decode cX3_hasHeir 4 = .ok (.iload_n 1, 1) := by decide +kernel
theorem dX3_hasHeir_5 : decode cX3_hasHeir 5 = .ok (.aload_n 0, 1) := by decide +kernel
theorem dX3_hasHeir_6 : decode cX3_hasHeir 6 = .ok (.getfield 57, 3) := by decide +kernel
theorem dX3_hasHeir_9 : decode cX3_hasHeir 9 = .ok (.if_icmp .ge 7, 3) := by decide +kernel
theorem dX3_hasHeir_12 : decode cX3_hasHeir 12 = .ok (.iconst 1, 1) := by decide +kernel
theorem dX3_hasHeir_13 : decode cX3_hasHeir 13 = .ok (.goto 4, 3) := by decide +kernel
theorem dX3_hasHeir_16 : decode cX3_hasHeir 16 = .ok (.iconst 0, 1) := by decide +kernel
theorem dX3_hasHeir_17 : decode cX3_hasHeir 17 = .ok (.ireturn, 1) := by decide +kernel
theorem dX3_hasWater_0 : decode cX3_hasWater 0 = .ok (.iload_n 1, 1) := by decide +kernel
theorem dX3_hasWater_1 : decode cX3_hasWater 1 = .ok (.ifCond .lt 15, 3) := by decide +kernel
theorem dX3_hasWater_4 : decode cX3_hasWater 4 = .ok (.iload_n 1, 1) := by decide +kernel
theorem dX3_hasWater_5 : decode cX3_hasWater 5 = .ok (.aload_n 0, 1) := by decide +kernel
theorem dX3_hasWater_6 : decode cX3_hasWater 6 = .ok (.getfield 53, 3) := by decide +kernel
theorem dX3_hasWater_9 : decode cX3_hasWater 9 = .ok (.if_icmp .ge 7, 3) := by decide +kernel
theorem dX3_hasWater_12 : decode cX3_hasWater 12 = .ok (.iconst 1, 1) := by decide +kernel
theorem dX3_hasWater_13 : decode cX3_hasWater 13 = .ok (.goto 4, 3) := by decide +kernel
theorem dX3_hasWater_16 : decode cX3_hasWater 16 = .ok (.iconst 0, 1) := by decide +kernel
theorem dX3_hasWater_17 : decode cX3_hasWater 17 = .ok (.ireturn, 1) := by decide +kernel
theorem dX4_init_0 : decode cX4_init 0 = .ok (.aload_n 0, 1) := by decide +kernel
theorem dX4_init_1 : decode cX4_init 1 = .ok (.invokespecial 3, 3) := by decide +kernel
theorem dX4_init_4 : decode cX4_init 4 = .ok (.aload_n 0, 1) := by decide +kernel
theorem dX4_init_5 : decode cX4_init 5 = .ok (.new 9, 3) := by decide +kernel
theorem dX4_init_8 : decode cX4_init 8 = .ok (.dup, 1) := by decide +kernel
theorem dX4_init_9 : decode cX4_init 9 = .ok (.invokespecial 11, 3) := by decide +kernel
theorem dX4_init_12 : decode cX4_init 12 = .ok (.putfield 12, 3) := by decide +kernel
theorem dX4_init_15 : decode cX4_init 15 = .ok (.aload_n 0, 1) := by decide +kernel
theorem dX4_init_16 : decode cX4_init 16 = .ok (.bipush 19, 2) := by decide +kernel
theorem dX4_init_18 : decode cX4_init 18 = .ok (.newarray .long, 2) := by decide +kernel
theorem dX4_init_20 : decode cX4_init 20 = .ok (.putfield 18, 3) := by decide +kernel
theorem dX4_init_23 : decode cX4_init 23 = .ok (.aload_n 0, 1) := by decide +kernel
theorem dX4_init_24 : decode cX4_init 24 = .ok (.bipush 19, 2) := by decide +kernel
theorem dX4_init_26 : decode cX4_init 26 = .ok (.newarray .int, 2) := by decide +kernel
theorem dX4_init_28 : decode cX4_init 28 = .ok (.putfield 22, 3) := by decide +kernel
theorem dX4_init_31 : decode cX4_init 31 = .ok (.aload_n 0, 1) := by decide +kernel
theorem dX4_init_32 : decode cX4_init 32 = .ok (.bipush 19, 2) := by decide +kernel
theorem dX4_init_34 : decode cX4_init 34 = .ok (.newarray .int, 2) := by decide +kernel
theorem dX4_init_36 : decode cX4_init 36 = .ok (.putfield 26, 3) := by decide +kernel
theorem dX4_init_39 : decode cX4_init 39 = .ok (.aload_n 0, 1) := by decide +kernel
theorem dX4_init_40 : decode cX4_init 40 = .ok (.iconst 0, 1) := by decide +kernel
theorem dX4_init_41 : decode cX4_init 41 = .ok (.putfield 29, 3) := by decide +kernel
theorem dX4_init_44 : decode cX4_init 44 = .ok (.aload_n 0, 1) := by decide +kernel
theorem dX4_init_45 : decode cX4_init 45 = .ok (.aconst_null, 1) := by decide +kernel
theorem dX4_init_46 : decode cX4_init 46 = .ok (.putfield 33, 3) := by decide +kernel
theorem dX4_init_49 : decode cX4_init 49 = .ok (.aload_n 0, 1) := by decide +kernel
theorem dX4_init_50 : decode cX4_init 50 = .ok (.iconst 0, 1) := by decide +kernel
theorem dX4_init_51 : decode cX4_init 51 = .ok (.putfield 37, 3) := by decide +kernel
theorem dX4_init_54 : decode cX4_init 54 = .ok (.aload_n 0, 1) := by decide +kernel
theorem dX4_init_55 : decode cX4_init 55 = .ok (.iconst 0, 1) := by decide +kernel
theorem dX4_init_56 : decode cX4_init 56 = .ok (.putfield 40, 3) := by decide +kernel
theorem dX4_init_59 : decode cX4_init 59 = .ok (.aload_n 0, 1) := by decide +kernel
theorem dX4_init_60 : decode cX4_init 60 = .ok (.iconst 0, 1) := by decide +kernel
theorem dX4_init_61 : decode cX4_init 61 = .ok (.putfield 43, 3) := by decide +kernel
theorem dX4_init_64 : decode cX4_init 64 = .ok (.aload_n 0, 1) := by decide +kernel
theorem dX4_init_65 : decode cX4_init 65 = .ok (.iconst 0, 1) := by decide +kernel
theorem dX4_init_66 : decode cX4_init 66 = .ok (.putfield 46, 3) := by decide +kernel
theorem dX4_init_69 : decode cX4_init 69 = .ok (.aload_n 0, 1) := by decide +kernel
theorem dX4_init_70 : decode cX4_init 70 = .ok (.iconst (-1), 1) := by decide +kernel
theorem dX4_init_71 : decode cX4_init 71 = .ok (.putfield 49, 3) := by decide +kernel
theorem dX4_init_74 : decode cX4_init 74 = .ok (.aload_n 0, 1) := by decide +kernel
theorem dX4_init_75 : decode cX4_init 75 = .ok (.iconst (-1), 1) := by decide +kernel
theorem dX4_init_76 : decode cX4_init 76 = .ok (.putfield 52, 3) := by decide +kernel
theorem dX4_init_79 : decode cX4_init 79 = .ok (.return_, 1) := by decide +kernel
theorem dX4_parse_0 : decode cX4_parse 0 = .ok (.aload_n 0, 1) := by decide +kernel
theorem dX4_parse_1 : decode cX4_parse 1 = .ok (.getfield 12, 3) := by decide +kernel
theorem dX4_parse_4 : decode cX4_parse 4 = .ok (.aload_n 1, 1) := by decide +kernel
theorem dX4_parse_5 : decode cX4_parse 5 = .ok (.invokevirtual 55, 3) := by decide +kernel
theorem dX4_parse_8 : decode cX4_parse 8 = .ok (.aload_n 0, 1) := by decide +kernel
theorem dX4_parse_9 : decode cX4_parse 9 = .ok (.aload_n 2, 1) := by decide +kernel
theorem dX4_parse_10 : decode cX4_parse 10 = .ok (.putfield 33, 3) := by decide +kernel
theorem dX4_parse_13 : decode cX4_parse 13 = .ok (.aload_n 0, 1) := by decide +kernel
theorem dX4_parse_14 : decode cX4_parse 14 = .ok (.getfield 33, 3) := by decide +kernel
theorem dX4_parse_17 : decode cX4_parse 17 = .ok (.invokevirtual 59, 3) := by decide +kernel
theorem dX4_parse_20 : decode cX4_parse 20 = .ok (.aload_n 0, 1) := by decide +kernel
theorem dX4_parse_21 : decode cX4_parse 21 = .ok (.iconst 0, 1) := by decide +kernel
theorem dX4_parse_22 : decode cX4_parse 22 = .ok (.putfield 29, 3) := by decide +kernel
theorem dX4_parse_25 : decode cX4_parse 25 = .ok (.aload_n 0, 1) := by decide +kernel
theorem dX4_parse_26 : decode cX4_parse 26 = .ok (.iconst 0, 1) := by decide +kernel
theorem dX4_parse_27 : decode cX4_parse 27 = .ok (.putfield 37, 3) := by decide +kernel
theorem dX4_parse_30 : decode cX4_parse 30 = .ok (.aload_n 0, 1) := by decide +kernel
theorem dX4_parse_31 : decode cX4_parse 31 = .ok (.iconst 0, 1) := by decide +kernel
theorem dX4_parse_32 : decode cX4_parse 32 = .ok (.putfield 43, 3) := by decide +kernel
theorem dX4_parse_35 : decode cX4_parse 35 = .ok (.aload_n 0, 1) := by decide +kernel
theorem dX4_parse_36 : decode cX4_parse 36 = .ok (.iconst 0, 1) := by decide +kernel
theorem dX4_parse_37 : decode cX4_parse 37 = .ok (.putfield 46, 3) := by decide +kernel
theorem dX4_parse_40 : decode cX4_parse 40 = .ok (.aload_n 0, 1) := by decide +kernel
theorem dX4_parse_41 : decode cX4_parse 41 = .ok (.iconst (-1), 1) := by decide +kernel
theorem dX4_parse_42 : decode cX4_parse 42 = .ok (.putfield 49, 3) := by decide +kernel
theorem dX4_parse_45 : decode cX4_parse 45 = .ok (.iconst 1, 1) := by decide +kernel
theorem dX4_parse_46 : decode cX4_parse 46 = .ok (.istore_n 3, 1) := by decide +kernel
theorem dX4_parse_47 : decode cX4_parse 47 = .ok (.iconst 0, 1) := by decide +kernel
theorem dX4_parse_48 : decode cX4_parse 48 = .ok (.istore 4, 2) := by decide +kernel
theorem dX4_parse_50 : decode cX4_parse 50 = .ok (.iload_n 3, 1) := by decide +kernel
theorem dX4_parse_51 : decode cX4_parse 51 = .ok (.ifCond .eq 145, 3) := by decide +kernel
theorem dX4_parse_54 : decode cX4_parse 54 = .ok (.iload 4, 2) := by decide +kernel
theorem dX4_parse_56 : decode cX4_parse 56 = .ok (.sipush 400, 3) := by decide +kernel
theorem dX4_parse_59 : decode cX4_parse 59 = .ok (.if_icmp .gt 137, 3) := by decide +kernel
theorem dX4_parse_62 : decode cX4_parse 62 = .ok (.aload_n 0, 1) := by decide +kernel
theorem dX4_parse_63 : decode cX4_parse 63 = .ok (.getfield 12, 3) := by decide +kernel
theorem dX4_parse_66 : decode cX4_parse 66 = .ok (.aload_n 0, 1) := by decide +kernel
theorem dX4_parse_67 : decode cX4_parse 67 = .ok (.getfield 37, 3) := by decide +kernel
theorem dX4_parse_70 : decode cX4_parse 70 = .ok (.invokevirtual 64, 3) := by decide +kernel
theorem dX4_parse_73 : decode cX4_parse 73 = .ok (.ifCond .eq 123, 3) := by decide +kernel
theorem dX4_parse_76 : decode cX4_parse 76 = .ok (.aload_n 0, 1) := by decide +kernel
theorem dX4_parse_77 : decode cX4_parse 77 = .ok (.getfield 12, 3) := by decide +kernel
theorem dX4_parse_80 : decode cX4_parse 80 = .ok (.aload_n 0, 1) := by decide +kernel
theorem dX4_parse_81 : decode cX4_parse 81 = .ok (.getfield 37, 3) := by decide +kernel
theorem dX4_parse_84 : decode cX4_parse 84 = .ok (.invokevirtual 64, 3) := by decide +kernel
theorem dX4_parse_87 : decode cX4_parse 87 = .ok (.tableswitch 97 128 134 #[41, 49, 57, 65, 73, 81, 89], 41) := by decide +kernel
theorem dX4_parse_128 : decode cX4_parse 128 = .ok (.aload_n 0, 1) := by decide +kernel
theorem dX4_parse_129 : decode cX4_parse 129 = .ok (.invokevirtual 68, 3) := by decide +kernel
theorem dX4_parse_132 : decode cX4_parse 132 = .ok (.istore_n 3, 1) := by decide +kernel
theorem dX4_parse_133 : decode cX4_parse 133 = .ok (.goto 57, 3) := by decide +kernel
theorem dX4_parse_136 : decode cX4_parse 136 = .ok (.aload_n 0, 1) := by decide +kernel
theorem dX4_parse_137 : decode cX4_parse 137 = .ok (.invokevirtual 72, 3) := by decide +kernel
theorem dX4_parse_140 : decode cX4_parse 140 = .ok (.istore_n 3, 1) := by decide +kernel
theorem dX4_parse_141 : decode cX4_parse 141 = .ok (.goto 49, 3) := by decide +kernel
theorem dX4_parse_144 : decode cX4_parse 144 = .ok (.aload_n 0, 1) := by decide +kernel
theorem dX4_parse_145 : decode cX4_parse 145 = .ok (.invokevirtual 75, 3) := by decide +kernel
theorem dX4_parse_148 : decode cX4_parse 148 = .ok (.istore_n 3, 1) := by decide +kernel
theorem dX4_parse_149 : decode cX4_parse 149 = .ok (.goto 41, 3) := by decide +kernel
theorem dX4_parse_152 : decode cX4_parse 152 = .ok (.aload_n 0, 1) := by decide +kernel
theorem dX4_parse_153 : decode cX4_parse 153 = .ok (.invokevirtual 78, 3) := by decide +kernel
theorem dX4_parse_156 : decode cX4_parse 156 = .ok (.istore_n 3, 1) := by decide +kernel
theorem dX4_parse_157 : decode cX4_parse 157 = .ok (.goto 33, 3) := by decide +kernel
theorem dX4_parse_160 : decode cX4_parse 160 = .ok (.aload_n 0, 1) := by decide +kernel
theorem dX4_parse_161 : decode cX4_parse 161 = .ok (.invokevirtual 81, 3) := by decide +kernel
theorem dX4_parse_164 : decode cX4_parse 164 = .ok (.istore_n 3, 1) := by decide +kernel
theorem dX4_parse_165 : decode cX4_parse 165 = .ok (.goto 25, 3) := by decide +kernel
theorem dX4_parse_168 : decode cX4_parse 168 = .ok (.aload_n 0, 1) := by decide +kernel
theorem dX4_parse_169 : decode cX4_parse 169 = .ok (.invokevirtual 84, 3) := by decide +kernel
theorem dX4_parse_172 : decode cX4_parse 172 = .ok (.istore_n 3, 1) := by decide +kernel
theorem dX4_parse_173 : decode cX4_parse 173 = .ok (.goto 17, 3) := by decide +kernel
theorem dX4_parse_176 : decode cX4_parse 176 = .ok (.aload_n 0, 1) := by decide +kernel
theorem dX4_parse_177 : decode cX4_parse 177 = .ok (.invokevirtual 87, 3) := by decide +kernel
theorem dX4_parse_180 : decode cX4_parse 180 = .ok (.istore_n 3, 1) := by decide +kernel
theorem dX4_parse_181 : decode cX4_parse 181 = .ok (.goto 9, 3) := by decide +kernel
theorem dX4_parse_184 : decode cX4_parse 184 = .ok (.aload_n 0, 1) := by decide +kernel
theorem dX4_parse_185 : decode cX4_parse 185 = .ok (.iconst 1, 1) := by decide +kernel
theorem dX4_parse_186 : decode cX4_parse 186 = .ok (.invokevirtual 90, 3) := by decide +kernel
theorem dX4_parse_189 : decode cX4_parse 189 = .ok (.istore_n 3, 1) := by decide +kernel
theorem dX4_parse_190 : decode cX4_parse 190 = .ok (.iinc 4 1, 3) := by decide +kernel
theorem dX4_parse_193 : decode cX4_parse 193 = .ok (.goto (-143), 3) := by decide +kernel
theorem dX4_parse_196 : decode cX4_parse 196 = .ok (.aload_n 0, 1) := by decide +kernel
theorem dX4_parse_197 : decode cX4_parse 197 = .ok (.getfield 43, 3) := by decide +kernel
theorem dX4_parse_200 : decode cX4_parse 200 = .ok (.ifCond .eq 23, 3) := by decide +kernel
theorem dX4_parse_203 : decode cX4_parse 203 = .ok (.aload_n 0, 1) := by decide +kernel
theorem dX4_parse_204 : decode cX4_parse 204 = .ok (.aload_n 0, 1) := by decide +kernel
theorem dX4_parse_205 : decode cX4_parse 205 = .ok (.getfield 12, 3) := by decide +kernel
theorem dX4_parse_208 : decode cX4_parse 208 = .ok (.aload_n 0, 1) := by decide +kernel
theorem dX4_parse_209 : decode cX4_parse 209 = .ok (.getfield 37, 3) := by decide +kernel
theorem dX4_parse_212 : decode cX4_parse 212 = .ok (.invokevirtual 94, 3) := by decide +kernel
theorem dX4_parse_215 : decode cX4_parse 215 = .ok (.putfield 52, 3) := by decide +kernel
theorem dX4_parse_218 : decode cX4_parse 218 = .ok (.aload_n 0, 1) := by decide +kernel
theorem dX4_parse_219 : decode cX4_parse 219 = .ok (.getfield 43, 3) := by decide +kernel
theorem dX4_parse_222 : decode cX4_parse 222 = .ok (.ireturn, 1) := by decide +kernel
theorem dX4_parse_223 : decode cX4_parse 223 = .ok (.aload_n 0, 1) := by decide +kernel
theorem dX4_parse_224 : decode cX4_parse 224 = .ok (.aload_n 0, 1) := by decide +kernel
theorem dX4_parse_225 : decode cX4_parse 225 = .ok (.getfield 49, 3) := by decide +kernel
theorem dX4_parse_228 : decode cX4_parse 228 = .ok (.putfield 52, 3) := by decide +kernel
theorem dX4_parse_231 : decode cX4_parse 231 = .ok (.aload_n 0, 1) := by decide +kernel
theorem dX4_parse_232 : decode cX4_parse 232 = .ok (.getfield 46, 3) := by decide +kernel
theorem dX4_parse_235 : decode cX4_parse 235 = .ok (.ireturn, 1) := by decide +kernel
theorem dX4_readWater_0 : decode cX4_readWater 0 = .ok (.aload_n 0, 1) := by decide +kernel
theorem dX4_readWater_1 : decode cX4_readWater 1 = .ok (.getfield 33, 3) := by decide +kernel
theorem dX4_readWater_4 : decode cX4_readWater 4 = .ok (.getfield 97, 3) := by decide +kernel
theorem dX4_readWater_7 : decode cX4_readWater 7 = .ok (.istore_n 1, 1) := by decide +kernel
theorem dX4_readWater_8 : decode cX4_readWater 8 = .ok (.aload_n 0, 1) := by decide +kernel
theorem dX4_readWater_9 : decode cX4_readWater 9 = .ok (.sipush 128, 3) := by decide +kernel
theorem dX4_readWater_12 : decode cX4_readWater 12 = .ok (.iload_n 1, 1) := by decide +kernel
theorem dX4_readWater_13 : decode cX4_readWater 13 = .ok (.iconst 5, 1) := by decide +kernel
theorem dX4_readWater_14 : decode cX4_readWater 14 = .ok (.invokevirtual 100, 3) := by decide +kernel
theorem dX4_readWater_17 : decode cX4_readWater 17 = .ok (.ifCond .eq 24, 3) := by decide +kernel
theorem dX4_readWater_20 : decode cX4_readWater 20 = .ok (.aload_n 0, 1) := by decide +kernel
theorem dX4_readWater_21 : decode cX4_readWater 21 = .ok (.sipush 128, 3) := by decide +kernel
theorem dX4_readWater_24 : decode cX4_readWater 24 = .ok (.iload_n 1, 1) := by decide +kernel
theorem dX4_readWater_25 : decode cX4_readWater 25 = .ok (.invokevirtual 104, 3) := by decide +kernel
theorem dX4_readWater_28 : decode cX4_readWater 28 = .ok (.ifCond .eq 13, 3) := by decide +kernel
theorem dX4_readWater_31 : decode cX4_readWater 31 = .ok (.aload_n 0, 1) := by decide +kernel
theorem dX4_readWater_32 : decode cX4_readWater 32 = .ok (.iconst 0, 1) := by decide +kernel
theorem dX4_readWater_33 : decode cX4_readWater 33 = .ok (.bipush 99, 2) := by decide +kernel
theorem dX4_readWater_35 : decode cX4_readWater 35 = .ok (.invokevirtual 108, 3) := by decide +kernel
theorem dX4_readWater_38 : decode cX4_readWater 38 = .ok (.ifCond .ne 5, 3) := by decide +kernel
theorem dX4_readWater_41 : decode cX4_readWater 41 = .ok (.iconst 0, 1) := by decide +kernel
theorem dX4_readWater_42 : decode cX4_readWater 42 = .ok (.ireturn, 1) := by decide +kernel
theorem dX4_readWater_43 : decode cX4_readWater 43 = .ok (.aload_n 0, 1) := by decide +kernel
theorem dX4_readWater_44 : decode cX4_readWater 44 = .ok (.getfield 33, 3) := by decide +kernel
theorem dX4_readWater_47 : decode cX4_readWater 47 = .ok (.getfield 111, 3) := by decide +kernel
theorem dX4_readWater_50 : decode cX4_readWater 50 = .ok (.iload_n 1, 1) := by decide +kernel
theorem dX4_readWater_51 : decode cX4_readWater 51 = .ok (.aload_n 0, 1) := by decide +kernel
theorem dX4_readWater_52 : decode cX4_readWater 52 = .ok (.getfield 40, 3) := by decide +kernel
theorem dX4_readWater_55 : decode cX4_readWater 55 = .ok (.iastore, 1) := by decide +kernel
theorem dX4_readWater_56 : decode cX4_readWater 56 = .ok (.aload_n 0, 1) := by decide +kernel
theorem dX4_readWater_57 : decode cX4_readWater 57 = .ok (.iconst 0, 1) := by decide +kernel
theorem dX4_readWater_58 : decode cX4_readWater 58 = .ok (.bipush 9, 2) := by decide +kernel
theorem dX4_readWater_60 : decode cX4_readWater 60 = .ok (.invokevirtual 108, 3) := by decide +kernel
theorem dX4_readWater_63 : decode cX4_readWater 63 = .ok (.ifCond .ne 5, 3) := by decide +kernel
theorem dX4_readWater_66 : decode cX4_readWater 66 = .ok (.iconst 0, 1) := by decide +kernel
theorem dX4_readWater_67 : decode cX4_readWater 67 = .ok (.ireturn, 1) := by decide +kernel
theorem dX4_readWater_68 : decode cX4_readWater 68 = .ok (.aload_n 0, 1) := by decide +kernel
theorem dX4_readWater_69 : decode cX4_readWater 69 = .ok (.getfield 33, 3) := by decide +kernel
theorem dX4_readWater_72 : decode cX4_readWater 72 = .ok (.getfield 114, 3) := by decide +kernel
theorem dX4_readWater_75 : decode cX4_readWater 75 = .ok (.iload_n 1, 1) := by decide +kernel
theorem dX4_readWater_76 : decode cX4_readWater 76 = .ok (.aload_n 0, 1) := by decide +kernel
theorem dX4_readWater_77 : decode cX4_readWater 77 = .ok (.getfield 40, 3) := by decide +kernel
theorem dX4_readWater_80 : decode cX4_readWater 80 = .ok (.iastore, 1) := by decide +kernel
theorem dX4_readWater_81 : decode cX4_readWater 81 = .ok (.aload_n 0, 1) := by decide +kernel
theorem dX4_readWater_82 : decode cX4_readWater 82 = .ok (.getfield 33, 3) := by decide +kernel
theorem dX4_readWater_85 : decode cX4_readWater 85 = .ok (.iload_n 1, 1) := by decide +kernel
theorem dX4_readWater_86 : decode cX4_readWater 86 = .ok (.iconst 1, 1) := by decide +kernel
theorem dX4_readWater_87 : decode cX4_readWater 87 = .ok (.iadd, 1) := by decide +kernel
theorem dX4_readWater_88 : decode cX4_readWater 88 = .ok (.putfield 97, 3) := by decide +kernel
theorem dX4_readWater_91 : decode cX4_readWater 91 = .ok (.aload_n 0, 1) := by decide +kernel
theorem dX4_readWater_92 : decode cX4_readWater 92 = .ok (.bipush 59, 2) := by decide +kernel
theorem dX4_readWater_94 : decode cX4_readWater 94 = .ok (.invokevirtual 117, 3) := by decide +kernel
theorem dX4_readWater_97 : decode cX4_readWater 97 = .ok (.ireturn, 1) := by decide +kernel
theorem dX4_readHeir_0 : decode cX4_readHeir 0 = .ok (.aload_n 0, 1) := by decide +kernel
theorem dX4_readHeir_1 : decode cX4_readHeir 1 = .ok (.getfield 33, 3) := by decide +kernel
theorem dX4_readHeir_4 : decode cX4_readHeir 4 = .ok (.getfield 120, 3) := by decide +kernel
theorem dX4_readHeir_7 : decode cX4_readHeir 7 = .ok (.istore_n 1, 1) := by decide +kernel
theorem dX4_readHeir_8 : decode cX4_readHeir 8 = .ok (.aload_n 0, 1) := by decide +kernel
theorem dX4_readHeir_9 : decode cX4_readHeir 9 = .ok (.sipush 129, 3) := by decide +kernel
theorem dX4_readHeir_12 : decode cX4_readHeir 12 = .ok (.iload_n 1, 1) := by decide +kernel
theorem dX4_readHeir_13 : decode cX4_readHeir 13 = .ok (.bipush 8, 2) := by decide +kernel
theorem dX4_readHeir_15 : decode cX4_readHeir 15 = .ok (.invokevirtual 100, 3) := by decide +kernel
theorem dX4_readHeir_18 : decode cX4_readHeir 18 = .ok (.ifCond .eq 24, 3) := by decide +kernel
theorem dX4_readHeir_21 : decode cX4_readHeir 21 = .ok (.aload_n 0, 1) := by decide +kernel
theorem dX4_readHeir_22 : decode cX4_readHeir 22 = .ok (.sipush 129, 3) := by decide +kernel
theorem dX4_readHeir_25 : decode cX4_readHeir 25 = .ok (.iload_n 1, 1) := by decide +kernel
theorem dX4_readHeir_26 : decode cX4_readHeir 26 = .ok (.invokevirtual 104, 3) := by decide +kernel
theorem dX4_readHeir_29 : decode cX4_readHeir 29 = .ok (.ifCond .eq 13, 3) := by decide +kernel
theorem dX4_readHeir_32 : decode cX4_readHeir 32 = .ok (.aload_n 0, 1) := by decide +kernel
theorem dX4_readHeir_33 : decode cX4_readHeir 33 = .ok (.iconst 1, 1) := by decide +kernel
theorem dX4_readHeir_34 : decode cX4_readHeir 34 = .ok (.bipush 99, 2) := by decide +kernel
theorem dX4_readHeir_36 : decode cX4_readHeir 36 = .ok (.invokevirtual 108, 3) := by decide +kernel
theorem dX4_readHeir_39 : decode cX4_readHeir 39 = .ok (.ifCond .ne 5, 3) := by decide +kernel
theorem dX4_readHeir_42 : decode cX4_readHeir 42 = .ok (.iconst 0, 1) := by decide +kernel
theorem dX4_readHeir_43 : decode cX4_readHeir 43 = .ok (.ireturn, 1) := by decide +kernel
theorem dX4_readHeir_44 : decode cX4_readHeir 44 = .ok (.aload_n 0, 1) := by decide +kernel
theorem dX4_readHeir_45 : decode cX4_readHeir 45 = .ok (.getfield 33, 3) := by decide +kernel
theorem dX4_readHeir_48 : decode cX4_readHeir 48 = .ok (.getfield 123, 3) := by decide +kernel
theorem dX4_readHeir_51 : decode cX4_readHeir 51 = .ok (.iload_n 1, 1) := by decide +kernel
theorem dX4_readHeir_52 : decode cX4_readHeir 52 = .ok (.aload_n 0, 1) := by decide +kernel
theorem dX4_readHeir_53 : decode cX4_readHeir 53 = .ok (.getfield 40, 3) := by decide +kernel
theorem dX4_readHeir_56 : decode cX4_readHeir 56 = .ok (.iastore, 1) := by decide +kernel
theorem dX4_readHeir_57 : decode cX4_readHeir 57 = .ok (.aload_n 0, 1) := by decide +kernel
theorem dX4_readHeir_58 : decode cX4_readHeir 58 = .ok (.iconst 0, 1) := by decide +kernel
theorem dX4_readHeir_59 : decode cX4_readHeir 59 = .ok (.bipush 99, 2) := by decide +kernel
theorem dX4_readHeir_61 : decode cX4_readHeir 61 = .ok (.invokevirtual 108, 3) := by decide +kernel
theorem dX4_readHeir_64 : decode cX4_readHeir 64 = .ok (.ifCond .ne 5, 3) := by decide +kernel
theorem dX4_readHeir_67 : decode cX4_readHeir 67 = .ok (.iconst 0, 1) := by decide +kernel
theorem dX4_readHeir_68 : decode cX4_readHeir 68 = .ok (.ireturn, 1) := by decide +kernel
theorem dX4_readHeir_69 : decode cX4_readHeir 69 = .ok (.aload_n 0, 1) := by decide +kernel
theorem dX4_readHeir_70 : decode cX4_readHeir 70 = .ok (.getfield 33, 3) := by decide +kernel
theorem dX4_readHeir_73 : decode cX4_readHeir 73 = .ok (.getfield 126, 3) := by decide +kernel
theorem dX4_readHeir_76 : decode cX4_readHeir 76 = .ok (.iload_n 1, 1) := by decide +kernel
theorem dX4_readHeir_77 : decode cX4_readHeir 77 = .ok (.aload_n 0, 1) := by decide +kernel
theorem dX4_readHeir_78 : decode cX4_readHeir 78 = .ok (.getfield 40, 3) := by decide +kernel
theorem dX4_readHeir_81 : decode cX4_readHeir 81 = .ok (.iastore, 1) := by decide +kernel
theorem dX4_readHeir_82 : decode cX4_readHeir 82 = .ok (.aload_n 0, 1) := by decide +kernel
theorem dX4_readHeir_83 : decode cX4_readHeir 83 = .ok (.iconst 0, 1) := by decide +kernel
theorem dX4_readHeir_84 : decode cX4_readHeir 84 = .ok (.sipush 999, 3) := by decide +kernel
theorem dX4_readHeir_87 : decode cX4_readHeir 87 = .ok (.invokevirtual 108, 3) := by decide +kernel
theorem dX4_readHeir_90 : decode cX4_readHeir 90 = .ok (.ifCond .ne 5, 3) := by decide +kernel
theorem dX4_readHeir_93 : decode cX4_readHeir 93 = .ok (.iconst 0, 1) := by decide +kernel
theorem dX4_readHeir_94 : decode cX4_readHeir 94 = .ok (.ireturn, 1) := by decide +kernel
theorem dX4_readHeir_95 : decode cX4_readHeir 95 = .ok (.aload_n 0, 1) := by decide +kernel
theorem dX4_readHeir_96 : decode cX4_readHeir 96 = .ok (.getfield 33, 3) := by decide +kernel
theorem dX4_readHeir_99 : decode cX4_readHeir 99 = .ok (.getfield 129, 3) := by decide +kernel
theorem dX4_readHeir_102 : decode cX4_readHeir 102 = .ok (.iload_n 1, 1) := by decide +kernel
theorem dX4_readHeir_103 : decode cX4_readHeir 103 = .ok (.aload_n 0, 1) := by decide +kernel
theorem dX4_readHeir_104 : decode cX4_readHeir 104 = .ok (.getfield 40, 3) := by decide +kernel
theorem dX4_readHeir_107 : decode cX4_readHeir 107 = .ok (.iastore, 1) := by decide +kernel
theorem dX4_readHeir_108 : decode cX4_readHeir 108 = .ok (.aload_n 0, 1) := by decide +kernel
theorem dX4_readHeir_109 : decode cX4_readHeir 109 = .ok (.iconst 0, 1) := by decide +kernel
theorem dX4_readHeir_110 : decode cX4_readHeir 110 = .ok (.sipush 999, 3) := by decide +kernel
theorem dX4_readHeir_113 : decode cX4_readHeir 113 = .ok (.invokevirtual 108, 3) := by decide +kernel
theorem dX4_readHeir_116 : decode cX4_readHeir 116 = .ok (.ifCond .ne 5, 3) := by decide +kernel
theorem dX4_readHeir_119 : decode cX4_readHeir 119 = .ok (.iconst 0, 1) := by decide +kernel
theorem dX4_readHeir_120 : decode cX4_readHeir 120 = .ok (.ireturn, 1) := by decide +kernel
theorem dX4_readHeir_121 : decode cX4_readHeir 121 = .ok (.aload_n 0, 1) := by decide +kernel
theorem dX4_readHeir_122 : decode cX4_readHeir 122 = .ok (.getfield 33, 3) := by decide +kernel
theorem dX4_readHeir_125 : decode cX4_readHeir 125 = .ok (.getfield 132, 3) := by decide +kernel
theorem dX4_readHeir_128 : decode cX4_readHeir 128 = .ok (.iload_n 1, 1) := by decide +kernel
theorem dX4_readHeir_129 : decode cX4_readHeir 129 = .ok (.aload_n 0, 1) := by decide +kernel
theorem dX4_readHeir_130 : decode cX4_readHeir 130 = .ok (.getfield 40, 3) := by decide +kernel
theorem dX4_readHeir_133 : decode cX4_readHeir 133 = .ok (.iastore, 1) := by decide +kernel
theorem dX4_readHeir_134 : decode cX4_readHeir 134 = .ok (.aload_n 0, 1) := by decide +kernel
theorem dX4_readHeir_135 : decode cX4_readHeir 135 = .ok (.getfield 33, 3) := by decide +kernel
theorem dX4_readHeir_138 : decode cX4_readHeir 138 = .ok (.iload_n 1, 1) := by decide +kernel
theorem dX4_readHeir_139 : decode cX4_readHeir 139 = .ok (.iconst 1, 1) := by decide +kernel
theorem dX4_readHeir_140 : decode cX4_readHeir 140 = .ok (.iadd, 1) := by decide +kernel
theorem dX4_readHeir_141 : decode cX4_readHeir 141 = .ok (.putfield 120, 3) := by decide +kernel
theorem dX4_readHeir_144 : decode cX4_readHeir 144 = .ok (.aload_n 0, 1) := by decide +kernel
theorem dX4_readHeir_145 : decode cX4_readHeir 145 = .ok (.bipush 59, 2) := by decide +kernel
theorem dX4_readHeir_147 : decode cX4_readHeir 147 = .ok (.invokevirtual 117, 3) := by decide +kernel
theorem dX4_readHeir_150 : decode cX4_readHeir 150 = .ok (.ireturn, 1) := by decide +kernel
theorem dX4_readSends_0 : decode cX4_readSends 0 = .ok (.aload_n 0, 1) := by decide +kernel
theorem dX4_readSends_1 : decode cX4_readSends 1 = .ok (.getfield 33, 3) := by decide +kernel
theorem dX4_readSends_4 : decode cX4_readSends 4 = .ok (.getfield 135, 3) := by decide +kernel
theorem dX4_readSends_7 : decode cX4_readSends 7 = .ok (.istore_n 1, 1) := by decide +kernel
theorem dX4_readSends_8 : decode cX4_readSends 8 = .ok (.aload_n 0, 1) := by decide +kernel
theorem dX4_readSends_9 : decode cX4_readSends 9 = .ok (.sipush 130, 3) := by decide +kernel
theorem dX4_readSends_12 : decode cX4_readSends 12 = .ok (.iload_n 1, 1) := by decide +kernel
theorem dX4_readSends_13 : decode cX4_readSends 13 = .ok (.bipush 16, 2) := by decide +kernel
theorem dX4_readSends_15 : decode cX4_readSends 15 = .ok (.invokevirtual 100, 3) := by decide +kernel
theorem dX4_readSends_18 : decode cX4_readSends 18 = .ok (.ifCond .eq 13, 3) := by decide +kernel
theorem dX4_readSends_21 : decode cX4_readSends 21 = .ok (.aload_n 0, 1) := by decide +kernel
theorem dX4_readSends_22 : decode cX4_readSends 22 = .ok (.sipush 129, 3) := by decide +kernel
theorem dX4_readSends_25 : decode cX4_readSends 25 = .ok (.invokevirtual 138, 3) := by decide +kernel
theorem dX4_readSends_28 : decode cX4_readSends 28 = .ok (.ifCond .ne 5, 3) := by decide +kernel
theorem dX4_readSends_31 : decode cX4_readSends 31 = .ok (.iconst 0, 1) := by decide +kernel
theorem dX4_readSends_32 : decode cX4_readSends 32 = .ok (.ireturn, 1) := by decide +kernel
theorem dX4_readSends_33 : decode cX4_readSends 33 = .ok (.aload_n 0, 1) := by decide +kernel
theorem dX4_readSends_34 : decode cX4_readSends 34 = .ok (.getfield 33, 3) := by decide +kernel
theorem dX4_readSends_37 : decode cX4_readSends 37 = .ok (.getfield 141, 3) := by decide +kernel
theorem dX4_readSends_40 : decode cX4_readSends 40 = .ok (.iload_n 1, 1) := by decide +kernel
theorem dX4_readSends_41 : decode cX4_readSends 41 = .ok (.aload_n 0, 1) := by decide +kernel
theorem dX4_readSends_42 : decode cX4_readSends 42 = .ok (.getfield 40, 3) := by decide +kernel
theorem dX4_readSends_45 : decode cX4_readSends 45 = .ok (.iastore, 1) := by decide +kernel
theorem dX4_readSends_46 : decode cX4_readSends 46 = .ok (.aload_n 0, 1) := by decide +kernel
theorem dX4_readSends_47 : decode cX4_readSends 47 = .ok (.sipush 128, 3) := by decide +kernel
theorem dX4_readSends_50 : decode cX4_readSends 50 = .ok (.invokevirtual 138, 3) := by decide +kernel
theorem dX4_readSends_53 : decode cX4_readSends 53 = .ok (.ifCond .ne 5, 3) := by decide +kernel
theorem dX4_readSends_56 : decode cX4_readSends 56 = .ok (.iconst 0, 1) := by decide +kernel
theorem dX4_readSends_57 : decode cX4_readSends 57 = .ok (.ireturn, 1) := by decide +kernel
theorem dX4_readSends_58 : decode cX4_readSends 58 = .ok (.aload_n 0, 1) := by decide +kernel
theorem dX4_readSends_59 : decode cX4_readSends 59 = .ok (.getfield 33, 3) := by decide +kernel
theorem dX4_readSends_62 : decode cX4_readSends 62 = .ok (.getfield 144, 3) := by decide +kernel
theorem dX4_readSends_65 : decode cX4_readSends 65 = .ok (.iload_n 1, 1) := by decide +kernel
theorem dX4_readSends_66 : decode cX4_readSends 66 = .ok (.aload_n 0, 1) := by decide +kernel
theorem dX4_readSends_67 : decode cX4_readSends 67 = .ok (.getfield 40, 3) := by decide +kernel
theorem dX4_readSends_70 : decode cX4_readSends 70 = .ok (.iastore, 1) := by decide +kernel
theorem dX4_readSends_71 : decode cX4_readSends 71 = .ok (.aload_n 0, 1) := by decide +kernel
theorem dX4_readSends_72 : decode cX4_readSends 72 = .ok (.getfield 33, 3) := by decide +kernel
theorem dX4_readSends_75 : decode cX4_readSends 75 = .ok (.getfield 147, 3) := by decide +kernel
theorem dX4_readSends_78 : decode cX4_readSends 78 = .ok (.iload_n 1, 1) := by decide +kernel
theorem dX4_readSends_79 : decode cX4_readSends 79 = .ok (.aload_n 0, 1) := by decide +kernel
theorem dX4_readSends_80 : decode cX4_readSends 80 = .ok (.getfield 33, 3) := by decide +kernel
theorem dX4_readSends_83 : decode cX4_readSends 83 = .ok (.getfield 150, 3) := by decide +kernel
theorem dX4_readSends_86 : decode cX4_readSends 86 = .ok (.getfield 154, 3) := by decide +kernel
theorem dX4_readSends_89 : decode cX4_readSends 89 = .ok (.iastore, 1) := by decide +kernel
theorem dX4_readSends_90 : decode cX4_readSends 90 = .ok (.aload_n 0, 1) := by decide +kernel
theorem dX4_readSends_91 : decode cX4_readSends 91 = .ok (.getfield 33, 3) := by decide +kernel
theorem dX4_readSends_94 : decode cX4_readSends 94 = .ok (.iload_n 1, 1) := by decide +kernel
theorem dX4_readSends_95 : decode cX4_readSends 95 = .ok (.iconst 1, 1) := by decide +kernel
theorem dX4_readSends_96 : decode cX4_readSends 96 = .ok (.iadd, 1) := by decide +kernel
theorem dX4_readSends_97 : decode cX4_readSends 97 = .ok (.putfield 135, 3) := by decide +kernel
theorem dX4_readSends_100 : decode cX4_readSends 100 = .ok (.aload_n 0, 1) := by decide +kernel
theorem dX4_readSends_101 : decode cX4_readSends 101 = .ok (.invokevirtual 159, 3) := by decide +kernel
theorem dX4_readSends_104 : decode cX4_readSends 104 = .ok (.ifCond .eq 16, 3) := by decide +kernel
theorem dX4_readSends_107 : decode cX4_readSends 107 = .ok (.aload_n 0, 1) := by decide +kernel
theorem dX4_readSends_108 : decode cX4_readSends 108 = .ok (.bipush 59, 2) := by decide +kernel
theorem dX4_readSends_110 : decode cX4_readSends 110 = .ok (.invokevirtual 117, 3) := by decide +kernel
theorem dX4_readSends_113 : decode cX4_readSends 113 = .ok (.ifCond .eq 7, 3) := by decide +kernel
theorem dX4_readSends_116 : decode cX4_readSends 116 = .ok (.iconst 1, 1) := by decide +kernel
theorem dX4_readSends_117 : decode cX4_readSends 117 = .ok (.goto 4, 3) := by decide +kernel
theorem dX4_readSends_120 : decode cX4_readSends 120 = .ok (.iconst 0, 1) := by decide +kernel
theorem dX4_readSends_121 : decode cX4_readSends 121 = .ok (.ireturn, 1) := by decide +kernel
theorem dX4_readDry_0 : decode cX4_readDry 0 = .ok (.aload_n 0, 1) := by decide +kernel
theorem dX4_readDry_1 : decode cX4_readDry 1 = .ok (.getfield 33, 3) := by decide +kernel
theorem dX4_readDry_4 : decode cX4_readDry 4 = .ok (.aload_n 0, 1) := by decide +kernel
theorem dX4_readDry_5 : decode cX4_readDry 5 = .ok (.getfield 33, 3) := by decide +kernel
theorem dX4_readDry_8 : decode cX4_readDry 8 = .ok (.getfield 150, 3) := by decide +kernel
theorem dX4_readDry_11 : decode cX4_readDry 11 = .ok (.getfield 154, 3) := by decide +kernel
theorem dX4_readDry_14 : decode cX4_readDry 14 = .ok (.putfield 162, 3) := by decide +kernel
theorem dX4_readDry_17 : decode cX4_readDry 17 = .ok (.aload_n 0, 1) := by decide +kernel
theorem dX4_readDry_18 : decode cX4_readDry 18 = .ok (.sipush 131, 3) := by decide +kernel
theorem dX4_readDry_21 : decode cX4_readDry 21 = .ok (.invokevirtual 117, 3) := by decide +kernel
theorem dX4_readDry_24 : decode cX4_readDry 24 = .ok (.ifCond .eq 23, 3) := by decide +kernel
theorem dX4_readDry_27 : decode cX4_readDry 27 = .ok (.aload_n 0, 1) := by decide +kernel
theorem dX4_readDry_28 : decode cX4_readDry 28 = .ok (.invokevirtual 159, 3) := by decide +kernel
theorem dX4_readDry_31 : decode cX4_readDry 31 = .ok (.ifCond .eq 16, 3) := by decide +kernel
theorem dX4_readDry_34 : decode cX4_readDry 34 = .ok (.aload_n 0, 1) := by decide +kernel
theorem dX4_readDry_35 : decode cX4_readDry 35 = .ok (.bipush 59, 2) := by decide +kernel
theorem dX4_readDry_37 : decode cX4_readDry 37 = .ok (.invokevirtual 117, 3) := by decide +kernel
theorem dX4_readDry_40 : decode cX4_readDry 40 = .ok (.ifCond .eq 7, 3) := by decide +kernel
theorem dX4_readDry_43 : decode cX4_readDry 43 = .ok (.iconst 1, 1) := by decide +kernel
theorem dX4_readDry_44 : decode cX4_readDry 44 = .ok (.goto 4, 3) := by decide +kernel
theorem dX4_readDry_47 : decode cX4_readDry 47 = .ok (.iconst 0, 1) := by decide +kernel
theorem dX4_readDry_48 : decode cX4_readDry 48 = .ok (.ireturn, 1) := by decide +kernel
theorem dX4_readBasin_0 : decode cX4_readBasin 0 = .ok (.aload_n 0, 1) := by decide +kernel
theorem dX4_readBasin_1 : decode cX4_readBasin 1 = .ok (.sipush 132, 3) := by decide +kernel
theorem dX4_readBasin_4 : decode cX4_readBasin 4 = .ok (.invokevirtual 117, 3) := by decide +kernel
theorem dX4_readBasin_7 : decode cX4_readBasin 7 = .ok (.ifCond .eq 14, 3) := by decide +kernel
theorem dX4_readBasin_10 : decode cX4_readBasin 10 = .ok (.aload_n 0, 1) := by decide +kernel
theorem dX4_readBasin_11 : decode cX4_readBasin 11 = .ok (.iconst 1, 1) := by decide +kernel
theorem dX4_readBasin_12 : decode cX4_readBasin 12 = .ok (.sipush 9999, 3) := by decide +kernel
theorem dX4_readBasin_15 : decode cX4_readBasin 15 = .ok (.invokevirtual 108, 3) := by decide +kernel
theorem dX4_readBasin_18 : decode cX4_readBasin 18 = .ok (.ifCond .ne 5, 3) := by decide +kernel
theorem dX4_readBasin_21 : decode cX4_readBasin 21 = .ok (.iconst 0, 1) := by decide +kernel
theorem dX4_readBasin_22 : decode cX4_readBasin 22 = .ok (.ireturn, 1) := by decide +kernel
theorem dX4_readBasin_23 : decode cX4_readBasin 23 = .ok (.aload_n 0, 1) := by decide +kernel
theorem dX4_readBasin_24 : decode cX4_readBasin 24 = .ok (.getfield 33, 3) := by decide +kernel
theorem dX4_readBasin_27 : decode cX4_readBasin 27 = .ok (.aload_n 0, 1) := by decide +kernel
theorem dX4_readBasin_28 : decode cX4_readBasin 28 = .ok (.getfield 40, 3) := by decide +kernel
theorem dX4_readBasin_31 : decode cX4_readBasin 31 = .ok (.putfield 165, 3) := by decide +kernel
theorem dX4_readBasin_34 : decode cX4_readBasin 34 = .ok (.aload_n 0, 1) := by decide +kernel
theorem dX4_readBasin_35 : decode cX4_readBasin 35 = .ok (.bipush 59, 2) := by decide +kernel
theorem dX4_readBasin_37 : decode cX4_readBasin 37 = .ok (.invokevirtual 117, 3) := by decide +kernel
theorem dX4_readBasin_40 : decode cX4_readBasin 40 = .ok (.ireturn, 1) := by decide +kernel
theorem dX4_readSeed_0 : decode cX4_readSeed 0 = .ok (.aload_n 0, 1) := by decide +kernel
theorem dX4_readSeed_1 : decode cX4_readSeed 1 = .ok (.sipush 134, 3) := by decide +kernel
theorem dX4_readSeed_4 : decode cX4_readSeed 4 = .ok (.invokevirtual 117, 3) := by decide +kernel
theorem dX4_readSeed_7 : decode cX4_readSeed 7 = .ok (.ifCond .eq 14, 3) := by decide +kernel
theorem dX4_readSeed_10 : decode cX4_readSeed 10 = .ok (.aload_n 0, 1) := by decide +kernel
theorem dX4_readSeed_11 : decode cX4_readSeed 11 = .ok (.iconst 0, 1) := by decide +kernel
theorem dX4_readSeed_12 : decode cX4_readSeed 12 = .ok (.sipush 9999, 3) := by decide +kernel
theorem dX4_readSeed_15 : decode cX4_readSeed 15 = .ok (.invokevirtual 108, 3) := by decide +kernel
theorem dX4_readSeed_18 : decode cX4_readSeed 18 = .ok (.ifCond .ne 5, 3) := by decide +kernel
theorem dX4_readSeed_21 : decode cX4_readSeed 21 = .ok (.iconst 0, 1) := by decide +kernel
theorem dX4_readSeed_22 : decode cX4_readSeed 22 = .ok (.ireturn, 1) := by decide +kernel
theorem dX4_readSeed_23 : decode cX4_readSeed 23 = .ok (.aload_n 0, 1) := by decide +kernel
theorem dX4_readSeed_24 : decode cX4_readSeed 24 = .ok (.getfield 33, 3) := by decide +kernel
theorem dX4_readSeed_27 : decode cX4_readSeed 27 = .ok (.aload_n 0, 1) := by decide +kernel
theorem dX4_readSeed_28 : decode cX4_readSeed 28 = .ok (.getfield 40, 3) := by decide +kernel
theorem dX4_readSeed_31 : decode cX4_readSeed 31 = .ok (.putfield 168, 3) := by decide +kernel
theorem dX4_readSeed_34 : decode cX4_readSeed 34 = .ok (.aload_n 0, 1) := by decide +kernel
theorem dX4_readSeed_35 : decode cX4_readSeed 35 = .ok (.bipush 59, 2) := by decide +kernel
theorem dX4_readSeed_37 : decode cX4_readSeed 37 = .ok (.invokevirtual 117, 3) := by decide +kernel
theorem dX4_readSeed_40 : decode cX4_readSeed 40 = .ok (.ireturn, 1) := by decide +kernel
theorem dX4_readClaim_0 : decode cX4_readClaim 0 = .ok (.aload_n 0, 1) := by decide +kernel
theorem dX4_readClaim_1 : decode cX4_readClaim 1 = .ok (.getfield 33, 3) := by decide +kernel
theorem dX4_readClaim_4 : decode cX4_readClaim 4 = .ok (.getfield 171, 3) := by decide +kernel
theorem dX4_readClaim_7 : decode cX4_readClaim 7 = .ok (.getfield 175, 3) := by decide +kernel
theorem dX4_readClaim_10 : decode cX4_readClaim 10 = .ok (.istore_n 1, 1) := by decide +kernel
theorem dX4_readClaim_11 : decode cX4_readClaim 11 = .ok (.aload_n 0, 1) := by decide +kernel
theorem dX4_readClaim_12 : decode cX4_readClaim 12 = .ok (.sipush 133, 3) := by decide +kernel
theorem dX4_readClaim_15 : decode cX4_readClaim 15 = .ok (.iload_n 1, 1) := by decide +kernel
theorem dX4_readClaim_16 : decode cX4_readClaim 16 = .ok (.bipush 6, 2) := by decide +kernel
theorem dX4_readClaim_18 : decode cX4_readClaim 18 = .ok (.invokevirtual 100, 3) := by decide +kernel
theorem dX4_readClaim_21 : decode cX4_readClaim 21 = .ok (.ifCond .eq 23, 3) := by decide +kernel
theorem dX4_readClaim_24 : decode cX4_readClaim 24 = .ok (.aload_n 0, 1) := by decide +kernel
theorem dX4_readClaim_25 : decode cX4_readClaim 25 = .ok (.sipush 133, 3) := by decide +kernel
theorem dX4_readClaim_28 : decode cX4_readClaim 28 = .ok (.iload_n 1, 1) := by decide +kernel
theorem dX4_readClaim_29 : decode cX4_readClaim 29 = .ok (.invokevirtual 104, 3) := by decide +kernel
theorem dX4_readClaim_32 : decode cX4_readClaim 32 = .ok (.ifCond .eq 12, 3) := by decide +kernel
theorem dX4_readClaim_35 : decode cX4_readClaim 35 = .ok (.aload_n 0, 1) := by decide +kernel
theorem dX4_readClaim_36 : decode cX4_readClaim 36 = .ok (.bipush 61, 2) := by decide +kernel
theorem dX4_readClaim_38 : decode cX4_readClaim 38 = .ok (.invokevirtual 117, 3) := by decide +kernel
theorem dX4_readClaim_41 : decode cX4_readClaim 41 = .ok (.ifCond .ne 5, 3) := by decide +kernel
theorem dX4_readClaim_44 : decode cX4_readClaim 44 = .ok (.iconst 0, 1) := by decide +kernel
theorem dX4_readClaim_45 : decode cX4_readClaim 45 = .ok (.ireturn, 1) := by decide +kernel
theorem dX4_readClaim_46 : decode cX4_readClaim 46 = .ok (.aload_n 0, 1) := by decide +kernel
theorem dX4_readClaim_47 : decode cX4_readClaim 47 = .ok (.getfield 33, 3) := by decide +kernel
theorem dX4_readClaim_50 : decode cX4_readClaim 50 = .ok (.getfield 171, 3) := by decide +kernel
theorem dX4_readClaim_53 : decode cX4_readClaim 53 = .ok (.invokevirtual 180, 3) := by decide +kernel
theorem dX4_readClaim_56 : decode cX4_readClaim 56 = .ok (.iconst 0, 1) := by decide +kernel
theorem dX4_readClaim_57 : decode cX4_readClaim 57 = .ok (.istore_n 2, 1) := by decide +kernel
theorem dX4_readClaim_58 : decode cX4_readClaim 58 = .ok (.iload_n 2, 1) := by decide +kernel
theorem dX4_readClaim_59 : decode cX4_readClaim 59 = .ok (.bipush 6, 2) := by decide +kernel
theorem dX4_readClaim_61 : decode cX4_readClaim 61 = .ok (.if_icmp .gt 53, 3) := by decide +kernel
theorem dX4_readClaim_64 : decode cX4_readClaim 64 = .ok (.aload_n 0, 1) := by decide +kernel
theorem dX4_readClaim_65 : decode cX4_readClaim 65 = .ok (.iload_n 2, 1) := by decide +kernel
theorem dX4_readClaim_66 : decode cX4_readClaim 66 = .ok (.invokevirtual 183, 3) := by decide +kernel
theorem dX4_readClaim_69 : decode cX4_readClaim 69 = .ok (.ifCond .ne 5, 3) := by decide +kernel
theorem dX4_readClaim_72 : decode cX4_readClaim 72 = .ok (.iconst 0, 1) := by decide +kernel
theorem dX4_readClaim_73 : decode cX4_readClaim 73 = .ok (.ireturn, 1) := by decide +kernel
theorem dX4_readClaim_74 : decode cX4_readClaim 74 = .ok (.aload_n 0, 1) := by decide +kernel
theorem dX4_readClaim_75 : decode cX4_readClaim 75 = .ok (.getfield 12, 3) := by decide +kernel
theorem dX4_readClaim_78 : decode cX4_readClaim 78 = .ok (.aload_n 0, 1) := by decide +kernel
theorem dX4_readClaim_79 : decode cX4_readClaim 79 = .ok (.getfield 37, 3) := by decide +kernel
theorem dX4_readClaim_82 : decode cX4_readClaim 82 = .ok (.invokevirtual 64, 3) := by decide +kernel
theorem dX4_readClaim_85 : decode cX4_readClaim 85 = .ok (.bipush 43, 2) := by decide +kernel
theorem dX4_readClaim_87 : decode cX4_readClaim 87 = .ok (.if_icmp .eq 10, 3) := by decide +kernel
theorem dX4_readClaim_90 : decode cX4_readClaim 90 = .ok (.aload_n 0, 1) := by decide +kernel
theorem dX4_readClaim_91 : decode cX4_readClaim 91 = .ok (.bipush 59, 2) := by decide +kernel
theorem dX4_readClaim_93 : decode cX4_readClaim 93 = .ok (.invokevirtual 117, 3) := by decide +kernel
theorem dX4_readClaim_96 : decode cX4_readClaim 96 = .ok (.ireturn, 1) := by decide +kernel
theorem dX4_readClaim_97 : decode cX4_readClaim 97 = .ok (.aload_n 0, 1) := by decide +kernel
theorem dX4_readClaim_98 : decode cX4_readClaim 98 = .ok (.bipush 43, 2) := by decide +kernel
theorem dX4_readClaim_100 : decode cX4_readClaim 100 = .ok (.invokevirtual 117, 3) := by decide +kernel
theorem dX4_readClaim_103 : decode cX4_readClaim 103 = .ok (.ifCond .ne 5, 3) := by decide +kernel
theorem dX4_readClaim_106 : decode cX4_readClaim 106 = .ok (.iconst 0, 1) := by decide +kernel
theorem dX4_readClaim_107 : decode cX4_readClaim 107 = .ok (.ireturn, 1) := by decide +kernel
theorem dX4_readClaim_108 : decode cX4_readClaim 108 = .ok (.iinc 2 1, 3) := by decide +kernel
theorem dX4_readClaim_111 : decode cX4_readClaim 111 = .ok (.goto (-53), 3) := by decide +kernel
theorem dX4_readClaim_114 : decode cX4_readClaim 114 = .ok (.iconst 0, 1) := by decide +kernel
theorem dX4_readClaim_115 : decode cX4_readClaim 115 = .ok (.ireturn, 1) := by decide +kernel
theorem dX4_readTerm_0 : decode cX4_readTerm 0 = .ok (.aload_n 0, 1) := by decide +kernel
theorem dX4_readTerm_1 : decode cX4_readTerm 1 = .ok (.getfield 12, 3) := by decide +kernel
theorem dX4_readTerm_4 : decode cX4_readTerm 4 = .ok (.aload_n 0, 1) := by decide +kernel
theorem dX4_readTerm_5 : decode cX4_readTerm 5 = .ok (.getfield 37, 3) := by decide +kernel
theorem dX4_readTerm_8 : decode cX4_readTerm 8 = .ok (.invokevirtual 64, 3) := by decide +kernel
theorem dX4_readTerm_11 : decode cX4_readTerm 11 = .ok (.iconst 3, 1) := by decide +kernel
theorem dX4_readTerm_12 : decode cX4_readTerm 12 = .ok (.if_icmp .ne 15, 3) := by decide +kernel
theorem dX4_readTerm_15 : decode cX4_readTerm 15 = .ok (.iload_n 1, 1) := by decide +kernel
theorem dX4_readTerm_16 : decode cX4_readTerm 16 = .ok (.bipush 6, 2) := by decide +kernel
theorem dX4_readTerm_18 : decode cX4_readTerm 18 = .ok (.if_icmp .lt 9, 3) := by decide +kernel
theorem dX4_readTerm_21 : decode cX4_readTerm 21 = .ok (.aload_n 0, 1) := by decide +kernel
theorem dX4_readTerm_22 : decode cX4_readTerm 22 = .ok (.iconst 2, 1) := by decide +kernel
theorem dX4_readTerm_23 : decode cX4_readTerm 23 = .ok (.invokevirtual 90, 3) := by decide +kernel
theorem dX4_readTerm_26 : decode cX4_readTerm 26 = .ok (.ireturn, 1) := by decide +kernel
theorem dX4_readTerm_27 : decode cX4_readTerm 27 = .ok (.aload_n 0, 1) := by decide +kernel
theorem dX4_readTerm_28 : decode cX4_readTerm 28 = .ok (.iconst 1, 1) := by decide +kernel
theorem dX4_readTerm_29 : decode cX4_readTerm 29 = .ok (.bipush 99, 2) := by decide +kernel
theorem dX4_readTerm_31 : decode cX4_readTerm 31 = .ok (.invokevirtual 108, 3) := by decide +kernel
theorem dX4_readTerm_34 : decode cX4_readTerm 34 = .ok (.ifCond .ne 5, 3) := by decide +kernel
theorem dX4_readTerm_37 : decode cX4_readTerm 37 = .ok (.iconst 0, 1) := by decide +kernel
theorem dX4_readTerm_38 : decode cX4_readTerm 38 = .ok (.ireturn, 1) := by decide +kernel
theorem dX4_readTerm_39 : decode cX4_readTerm 39 = .ok (.aload_n 0, 1) := by decide +kernel
theorem dX4_readTerm_40 : decode cX4_readTerm 40 = .ok (.getfield 40, 3) := by decide +kernel
theorem dX4_readTerm_43 : decode cX4_readTerm 43 = .ok (.istore_n 2, 1) := by decide +kernel
theorem dX4_readTerm_44 : decode cX4_readTerm 44 = .ok (.aload_n 0, 1) := by decide +kernel
theorem dX4_readTerm_45 : decode cX4_readTerm 45 = .ok (.sipush 135, 3) := by decide +kernel
theorem dX4_readTerm_48 : decode cX4_readTerm 48 = .ok (.invokevirtual 117, 3) := by decide +kernel
theorem dX4_readTerm_51 : decode cX4_readTerm 51 = .ok (.ifCond .eq 13, 3) := by decide +kernel
theorem dX4_readTerm_54 : decode cX4_readTerm 54 = .ok (.aload_n 0, 1) := by decide +kernel
theorem dX4_readTerm_55 : decode cX4_readTerm 55 = .ok (.iconst 1, 1) := by decide +kernel
theorem dX4_readTerm_56 : decode cX4_readTerm 56 = .ok (.bipush 99, 2) := by decide +kernel
theorem dX4_readTerm_58 : decode cX4_readTerm 58 = .ok (.invokevirtual 108, 3) := by decide +kernel
theorem dX4_readTerm_61 : decode cX4_readTerm 61 = .ok (.ifCond .ne 5, 3) := by decide +kernel
theorem dX4_readTerm_64 : decode cX4_readTerm 64 = .ok (.iconst 0, 1) := by decide +kernel
theorem dX4_readTerm_65 : decode cX4_readTerm 65 = .ok (.ireturn, 1) := by decide +kernel
theorem dX4_readTerm_66 : decode cX4_readTerm 66 = .ok (.aload_n 0, 1) := by decide +kernel
theorem dX4_readTerm_67 : decode cX4_readTerm 67 = .ok (.getfield 40, 3) := by decide +kernel
theorem dX4_readTerm_70 : decode cX4_readTerm 70 = .ok (.istore_n 3, 1) := by decide +kernel
theorem dX4_readTerm_71 : decode cX4_readTerm 71 = .ok (.aload_n 0, 1) := by decide +kernel
theorem dX4_readTerm_72 : decode cX4_readTerm 72 = .ok (.sipush 129, 3) := by decide +kernel
theorem dX4_readTerm_75 : decode cX4_readTerm 75 = .ok (.invokevirtual 138, 3) := by decide +kernel
theorem dX4_readTerm_78 : decode cX4_readTerm 78 = .ok (.ifCond .ne 5, 3) := by decide +kernel
theorem dX4_readTerm_81 : decode cX4_readTerm 81 = .ok (.iconst 0, 1) := by decide +kernel
theorem dX4_readTerm_82 : decode cX4_readTerm 82 = .ok (.ireturn, 1) := by decide +kernel
theorem dX4_readTerm_83 : decode cX4_readTerm 83 = .ok (.aload_n 0, 1) := by decide +kernel
theorem dX4_readTerm_84 : decode cX4_readTerm 84 = .ok (.getfield 33, 3) := by decide +kernel
theorem dX4_readTerm_87 : decode cX4_readTerm 87 = .ok (.getfield 171, 3) := by decide +kernel
theorem dX4_readTerm_90 : decode cX4_readTerm 90 = .ok (.iload_n 2, 1) := by decide +kernel
theorem dX4_readTerm_91 : decode cX4_readTerm 91 = .ok (.iload_n 3, 1) := by decide +kernel
theorem dX4_readTerm_92 : decode cX4_readTerm 92 = .ok (.aload_n 0, 1) := by decide +kernel
theorem dX4_readTerm_93 : decode cX4_readTerm 93 = .ok (.getfield 40, 3) := by decide +kernel
theorem dX4_readTerm_96 : decode cX4_readTerm 96 = .ok (.invokevirtual 186, 3) := by decide +kernel
theorem dX4_readTerm_99 : decode cX4_readTerm 99 = .ok (.iconst 1, 1) := by decide +kernel
theorem dX4_readTerm_100 : decode cX4_readTerm 100 = .ok (.ireturn, 1) := by decide +kernel
theorem dX4_law_0 : decode cX4_law 0 = .ok (.aload_n 0, 1) := by decide +kernel
theorem dX4_law_1 : decode cX4_law 1 = .ok (.getfield 33, 3) := by decide +kernel
theorem dX4_law_4 : decode cX4_law 4 = .ok (.getfield 150, 3) := by decide +kernel

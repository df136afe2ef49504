theorem dX6_dryUp_133 : decode cX6_dryUp 133 = .ok (.iconst 1, 1) := by decide +kernel
theorem dX6_dryUp_134 : decode cX6_dryUp 134 = .ok (.isub, 1) := by decide +kernel
theorem dX6_dryUp_135 : decode cX6_dryUp 135 = .ok (.iastore, 1) := by decide +kernel
theorem dX6_dryUp_136 : decode cX6_dryUp 136 = .ok (.aload_n 0, 1) := by decide +kernel
theorem dX6_dryUp_137 : decode cX6_dryUp 137 = .ok (.getfield 15, 3) := by decide +kernel
theorem dX6_dryUp_140 : decode cX6_dryUp 140 = .ok (.iload 4, 2) := by decide +kernel
theorem dX6_dryUp_142 : decode cX6_dryUp 142 = .ok (.iconst 0, 1) := by decide +kernel
theorem dX6_dryUp_143 : decode cX6_dryUp 143 = .ok (.iastore, 1) := by decide +kernel
theorem dX6_dryUp_144 : decode cX6_dryUp 144 = .ok (.iinc 3 1, 3) := by decide +kernel
theorem dX6_dryUp_147 : decode cX6_dryUp 147 = .ok (.goto (-67), 3) := by decide +kernel
theorem dX6_dryUp_150 : decode cX6_dryUp 150 = .ok (.aload_n 0, 1) := by decide +kernel
theorem dX6_dryUp_151 : decode cX6_dryUp 151 = .ok (.dup, 1) := by decide +kernel
theorem dX6_dryUp_152 : decode cX6_dryUp 152 = .ok (.getfield 27, 3) := by decide +kernel
theorem dX6_dryUp_155 : decode cX6_dryUp 155 = .ok (.iload_n 1, 1) := by decide +kernel
theorem dX6_dryUp_156 : decode cX6_dryUp 156 = .ok (.isub, 1) := by decide +kernel
theorem dX6_dryUp_157 : decode cX6_dryUp 157 = .ok (.putfield 27, 3) := by decide +kernel
theorem dX6_dryUp_160 : decode cX6_dryUp 160 = .ok (.return_, 1) := by decide +kernel
theorem dX6_takeOut_0 : decode cX6_takeOut 0 = .ok (.aload_n 0, 1) := by decide +kernel
theorem dX6_takeOut_1 : decode cX6_takeOut 1 = .ok (.getfield 27, 3) := by decide +kernel
theorem dX6_takeOut_4 : decode cX6_takeOut 4 = .ok (.ifCond .le 21, 3) := by decide +kernel
theorem dX6_takeOut_7 : decode cX6_takeOut 7 = .ok (.aload_n 0, 1) := by decide +kernel
theorem dX6_takeOut_8 : decode cX6_takeOut 8 = .ok (.getfield 31, 3) := by decide +kernel
theorem dX6_takeOut_11 : decode cX6_takeOut 11 = .ok (.i2l, 1) := by decide +kernel
theorem dX6_takeOut_12 : decode cX6_takeOut 12 = .ok (.iload_n 1, 1) := by decide +kernel
theorem dX6_takeOut_13 : decode cX6_takeOut 13 = .ok (.i2l, 1) := by decide +kernel
theorem dX6_takeOut_14 : decode cX6_takeOut 14 = .ok (.lmul, 1) := by decide +kernel
theorem dX6_takeOut_15 : decode cX6_takeOut 15 = .ok (.aload_n 0, 1) := by decide +kernel
theorem dX6_takeOut_16 : decode cX6_takeOut 16 = .ok (.getfield 27, 3) := by decide +kernel
theorem dX6_takeOut_19 : decode cX6_takeOut 19 = .ok (.i2l, 1) := by decide +kernel
theorem dX6_takeOut_20 : decode cX6_takeOut 20 = .ok (.ldiv, 1) := by decide +kernel
theorem dX6_takeOut_21 : decode cX6_takeOut 21 = .ok (.l2i, 1) := by decide +kernel
theorem dX6_takeOut_22 : decode cX6_takeOut 22 = .ok (.goto 4, 3) := by decide +kernel
theorem dX6_takeOut_25 : decode cX6_takeOut 25 = .ok (.iconst 0, 1) := by decide +kernel
theorem dX6_takeOut_26 : decode cX6_takeOut 26 = .ok (.istore_n 2, 1) := by decide +kernel
theorem dX6_takeOut_27 : decode cX6_takeOut 27 = .ok (.aload_n 0, 1) := by decide +kernel
theorem dX6_takeOut_28 : decode cX6_takeOut 28 = .ok (.iload_n 1, 1) := by decide +kernel
theorem dX6_takeOut_29 : decode cX6_takeOut 29 = .ok (.invokevirtual 115, 3) := by decide +kernel
theorem dX6_takeOut_32 : decode cX6_takeOut 32 = .ok (.aload_n 0, 1) := by decide +kernel
theorem dX6_takeOut_33 : decode cX6_takeOut 33 = .ok (.dup, 1) := by decide +kernel
theorem dX6_takeOut_34 : decode cX6_takeOut 34 = .ok (.getfield 31, 3) := by decide +kernel
theorem dX6_takeOut_37 : decode cX6_takeOut 37 = .ok (.iload_n 2, 1) := by decide +kernel
theorem dX6_takeOut_38 : decode cX6_takeOut 38 = .ok (.isub, 1) := by decide +kernel
theorem dX6_takeOut_39 : decode cX6_takeOut 39 = .ok (.putfield 31, 3) := by decide +kernel
theorem dX6_takeOut_42 : decode cX6_takeOut 42 = .ok (.iload_n 2, 1) := by decide +kernel
theorem dX6_takeOut_43 : decode cX6_takeOut 43 = .ok (.ireturn, 1) := by decide +kernel
theorem dX6_mergeInto_0 : decode cX6_mergeInto 0 = .ok (.aload_n 0, 1) := by decide +kernel
theorem dX6_mergeInto_1 : decode cX6_mergeInto 1 = .ok (.getfield 18, 3) := by decide +kernel
theorem dX6_mergeInto_4 : decode cX6_mergeInto 4 = .ok (.iload_n 2, 1) := by decide +kernel
theorem dX6_mergeInto_5 : decode cX6_mergeInto 5 = .ok (.dup2, 1) := by decide +kernel
theorem dX6_mergeInto_6 : decode cX6_mergeInto 6 = .ok (.iaload, 1) := by decide +kernel
theorem dX6_mergeInto_7 : decode cX6_mergeInto 7 = .ok (.aload_n 0, 1) := by decide +kernel
theorem dX6_mergeInto_8 : decode cX6_mergeInto 8 = .ok (.getfield 18, 3) := by decide +kernel
theorem dX6_mergeInto_11 : decode cX6_mergeInto 11 = .ok (.iload_n 1, 1) := by decide +kernel
theorem dX6_mergeInto_12 : decode cX6_mergeInto 12 = .ok (.iaload, 1) := by decide +kernel
theorem dX6_mergeInto_13 : decode cX6_mergeInto 13 = .ok (.iadd, 1) := by decide +kernel
theorem dX6_mergeInto_14 : decode cX6_mergeInto 14 = .ok (.iastore, 1) := by decide +kernel
theorem dX6_mergeInto_15 : decode cX6_mergeInto 15 = .ok (.aload_n 0, 1) := by decide +kernel
theorem dX6_mergeInto_16 : decode cX6_mergeInto 16 = .ok (.getfield 18, 3) := by decide +kernel
theorem dX6_mergeInto_19 : decode cX6_mergeInto 19 = .ok (.iload_n 1, 1) := by decide +kernel
theorem dX6_mergeInto_20 : decode cX6_mergeInto 20 = .ok (.iconst 0, 1) := by decide +kernel
theorem dX6_mergeInto_21 : decode cX6_mergeInto 21 = .ok (.iastore, 1) := by decide +kernel
theorem dX6_mergeInto_22 : decode cX6_mergeInto 22 = .ok (.aload_n 0, 1) := by decide +kernel
theorem dX6_mergeInto_23 : decode cX6_mergeInto 23 = .ok (.getfield 21, 3) := by decide +kernel
theorem dX6_mergeInto_26 : decode cX6_mergeInto 26 = .ok (.iload_n 2, 1) := by decide +kernel
theorem dX6_mergeInto_27 : decode cX6_mergeInto 27 = .ok (.dup2, 1) := by decide +kernel
theorem dX6_mergeInto_28 : decode cX6_mergeInto 28 = .ok (.iaload, 1) := by decide +kernel
theorem dX6_mergeInto_29 : decode cX6_mergeInto 29 = .ok (.aload_n 0, 1) := by decide +kernel
theorem dX6_mergeInto_30 : decode cX6_mergeInto 30 = .ok (.getfield 21, 3) := by decide +kernel
theorem dX6_mergeInto_33 : decode cX6_mergeInto 33 = .ok (.iload_n 1, 1) := by decide +kernel
theorem dX6_mergeInto_34 : decode cX6_mergeInto 34 = .ok (.iaload, 1) := by decide +kernel
theorem dX6_mergeInto_35 : decode cX6_mergeInto 35 = .ok (.iadd, 1) := by decide +kernel
theorem dX6_mergeInto_36 : decode cX6_mergeInto 36 = .ok (.iastore, 1) := by decide +kernel
theorem dX6_mergeInto_37 : decode cX6_mergeInto 37 = .ok (.aload_n 0, 1) := by decide +kernel
theorem dX6_mergeInto_38 : decode cX6_mergeInto 38 = .ok (.getfield 21, 3) := by decide +kernel
theorem dX6_mergeInto_41 : decode cX6_mergeInto 41 = .ok (.iload_n 1, 1) := by decide +kernel
theorem dX6_mergeInto_42 : decode cX6_mergeInto 42 = .ok (.iconst 0, 1) := by decide +kernel
theorem dX6_mergeInto_43 : decode cX6_mergeInto 43 = .ok (.iastore, 1) := by decide +kernel
theorem dX6_mergeInto_44 : decode cX6_mergeInto 44 = .ok (.aload_n 0, 1) := by decide +kernel
theorem dX6_mergeInto_45 : decode cX6_mergeInto 45 = .ok (.iload_n 1, 1) := by decide +kernel
theorem dX6_mergeInto_46 : decode cX6_mergeInto 46 = .ok (.iload_n 2, 1) := by decide +kernel
theorem dX6_mergeInto_47 : decode cX6_mergeInto 47 = .ok (.iconst 1, 1) := by decide +kernel
theorem dX6_mergeInto_48 : decode cX6_mergeInto 48 = .ok (.iconst 1, 1) := by decide +kernel
theorem dX6_mergeInto_49 : decode cX6_mergeInto 49 = .ok (.invokevirtual 132, 3) := by decide +kernel
theorem dX6_mergeInto_52 : decode cX6_mergeInto 52 = .ok (.ireturn, 1) := by decide +kernel
theorem dX6_move_0 : decode cX6_move 0 = .ok (.iconst 0, 1) := by decide +kernel
theorem dX6_move_1 : decode cX6_move 1 = .ok (.istore 5, 2) := by decide +kernel
theorem dX6_move_3 : decode cX6_move 3 = .ok (.iconst 0, 1) := by decide +kernel
theorem dX6_move_4 : decode cX6_move 4 = .ok (.istore 6, 2) := by decide +kernel
theorem dX6_move_6 : decode cX6_move 6 = .ok (.iload 6, 2) := by decide +kernel
theorem dX6_move_8 : decode cX6_move 8 = .ok (.iconst 5, 1) := by decide +kernel
theorem dX6_move_9 : decode cX6_move 9 = .ok (.if_icmp .ge 70, 3) := by decide +kernel
theorem dX6_move_12 : decode cX6_move 12 = .ok (.aload_n 0, 1) := by decide +kernel
theorem dX6_move_13 : decode cX6_move 13 = .ok (.getfield 9, 3) := by decide +kernel
theorem dX6_move_16 : decode cX6_move 16 = .ok (.iload_n 1, 1) := by decide +kernel
theorem dX6_move_17 : decode cX6_move 17 = .ok (.iconst 5, 1) := by decide +kernel
theorem dX6_move_18 : decode cX6_move 18 = .ok (.imul, 1) := by decide +kernel
theorem dX6_move_19 : decode cX6_move 19 = .ok (.iload 6, 2) := by decide +kernel
theorem dX6_move_21 : decode cX6_move 21 = .ok (.iadd, 1) := by decide +kernel
theorem dX6_move_22 : decode cX6_move 22 = .ok (.iaload, 1) := by decide +kernel
theorem dX6_move_23 : decode cX6_move 23 = .ok (.iload_n 3, 1) := by decide +kernel
theorem dX6_move_24 : decode cX6_move 24 = .ok (.imul, 1) := by decide +kernel
theorem dX6_move_25 : decode cX6_move 25 = .ok (.iconst 1, 1) := by decide +kernel
theorem dX6_move_26 : decode cX6_move 26 = .ok (.iload 4, 2) := by decide +kernel
theorem dX6_move_28 : decode cX6_move 28 = .ok (.invokestatic 57, 3) := by decide +kernel
theorem dX6_move_31 : decode cX6_move 31 = .ok (.idiv, 1) := by decide +kernel
theorem dX6_move_32 : decode cX6_move 32 = .ok (.istore 7, 2) := by decide +kernel
theorem dX6_move_34 : decode cX6_move 34 = .ok (.aload_n 0, 1) := by decide +kernel
theorem dX6_move_35 : decode cX6_move 35 = .ok (.getfield 9, 3) := by decide +kernel
theorem dX6_move_38 : decode cX6_move 38 = .ok (.iload_n 1, 1) := by decide +kernel
theorem dX6_move_39 : decode cX6_move 39 = .ok (.iconst 5, 1) := by decide +kernel
theorem dX6_move_40 : decode cX6_move 40 = .ok (.imul, 1) := by decide +kernel
theorem dX6_move_41 : decode cX6_move 41 = .ok (.iload 6, 2) := by decide +kernel
theorem dX6_move_43 : decode cX6_move 43 = .ok (.iadd, 1) := by decide +kernel
theorem dX6_move_44 : decode cX6_move 44 = .ok (.dup2, 1) := by decide +kernel
theorem dX6_move_45 : decode cX6_move 45 = .ok (.iaload, 1) := by decide +kernel
theorem dX6_move_46 : decode cX6_move 46 = .ok (.iload 7, 2) := by decide +kernel
theorem dX6_move_48 : decode cX6_move 48 = .ok (.isub, 1) := by decide +kernel
theorem dX6_move_49 : decode cX6_move 49 = .ok (.iastore, 1) := by decide +kernel
theorem dX6_move_50 : decode cX6_move 50 = .ok (.aload_n 0, 1) := by decide +kernel
theorem dX6_move_51 : decode cX6_move 51 = .ok (.getfield 9, 3) := by decide +kernel
theorem dX6_move_54 : decode cX6_move 54 = .ok (.iload_n 2, 1) := by decide +kernel
theorem dX6_move_55 : decode cX6_move 55 = .ok (.iconst 5, 1) := by decide +kernel
theorem dX6_move_56 : decode cX6_move 56 = .ok (.imul, 1) := by decide +kernel
theorem dX6_move_57 : decode cX6_move 57 = .ok (.iload 6, 2) := by decide +kernel
theorem dX6_move_59 : decode cX6_move 59 = .ok (.iadd, 1) := by decide +kernel
theorem dX6_move_60 : decode cX6_move 60 = .ok (.dup2, 1) := by decide +kernel
theorem dX6_move_61 : decode cX6_move 61 = .ok (.iaload, 1) := by decide +kernel
theorem dX6_move_62 : decode cX6_move 62 = .ok (.iload 7, 2) := by decide +kernel
theorem dX6_move_64 : decode cX6_move 64 = .ok (.iadd, 1) := by decide +kernel
theorem dX6_move_65 : decode cX6_move 65 = .ok (.iastore, 1) := by decide +kernel
theorem dX6_move_66 : decode cX6_move 66 = .ok (.iload 5, 2) := by decide +kernel
theorem dX6_move_68 : decode cX6_move 68 = .ok (.iload 7, 2) := by decide +kernel
theorem dX6_move_70 : decode cX6_move 70 = .ok (.iadd, 1) := by decide +kernel
theorem dX6_move_71 : decode cX6_move 71 = .ok (.istore 5, 2) := by decide +kernel
theorem dX6_move_73 : decode cX6_move 73 = .ok (.iinc 6 1, 3) := by decide +kernel
theorem dX6_move_76 : decode cX6_move 76 = .ok (.goto (-70), 3) := by decide +kernel
theorem dX6_move_79 : decode cX6_move 79 = .ok (.iload 5, 2) := by decide +kernel
theorem dX6_move_81 : decode cX6_move 81 = .ok (.ireturn, 1) := by decide +kernel
theorem dX7_init_0 : decode cX7_init 0 = .ok (.aload_n 0, 1) := by decide +kernel
theorem dX7_init_1 : decode cX7_init 1 = .ok (.invokespecial 3, 3) := by decide +kernel
theorem dX7_init_4 : decode cX7_init 4 = .ok (.aload_n 0, 1) := by decide +kernel
theorem dX7_init_5 : decode cX7_init 5 = .ok (.sipush 2000, 3) := by decide +kernel
theorem dX7_init_8 : decode cX7_init 8 = .ok (.newarray .int, 2) := by decide +kernel
theorem dX7_init_10 : decode cX7_init 10 = .ok (.putfield 9, 3) := by decide +kernel
theorem dX7_init_13 : decode cX7_init 13 = .ok (.aload_n 0, 1) := by decide +kernel
theorem dX7_init_14 : decode cX7_init 14 = .ok (.iconst 0, 1) := by decide +kernel
theorem dX7_init_15 : decode cX7_init 15 = .ok (.putfield 15, 3) := by decide +kernel
theorem dX7_init_18 : decode cX7_init 18 = .ok (.return_, 1) := by decide +kernel
theorem dX7_addFour_0 : decode cX7_addFour 0 = .ok (.bipush 24, 2) := by decide +kernel
theorem dX7_addFour_2 : decode cX7_addFour 2 = .ok (.istore_n 2, 1) := by decide +kernel
theorem dX7_addFour_3 : decode cX7_addFour 3 = .ok (.iload_n 2, 1) := by decide +kernel
theorem dX7_addFour_4 : decode cX7_addFour 4 = .ok (.ifCond .lt 45, 3) := by decide +kernel
theorem dX7_addFour_7 : decode cX7_addFour 7 = .ok (.aload_n 0, 1) := by decide +kernel
theorem dX7_addFour_8 : decode cX7_addFour 8 = .ok (.getfield 15, 3) := by decide +kernel
theorem dX7_addFour_11 : decode cX7_addFour 11 = .ok (.sipush 2000, 3) := by decide +kernel
theorem dX7_addFour_14 : decode cX7_addFour 14 = .ok (.if_icmp .ge 35, 3) := by decide +kernel
theorem dX7_addFour_17 : decode cX7_addFour 17 = .ok (.aload_n 0, 1) := by decide +kernel
theorem dX7_addFour_18 : decode cX7_addFour 18 = .ok (.getfield 9, 3) := by decide +kernel
theorem dX7_addFour_21 : decode cX7_addFour 21 = .ok (.aload_n 0, 1) := by decide +kernel
theorem dX7_addFour_22 : decode cX7_addFour 22 = .ok (.getfield 15, 3) := by decide +kernel
theorem dX7_addFour_25 : decode cX7_addFour 25 = .ok (.iload_n 1, 1) := by decide +kernel
theorem dX7_addFour_26 : decode cX7_addFour 26 = .ok (.iload_n 2, 1) := by decide +kernel
theorem dX7_addFour_27 : decode cX7_addFour 27 = .ok (.iushr, 1) := by decide +kernel
theorem dX7_addFour_28 : decode cX7_addFour 28 = .ok (.sipush 255, 3) := by decide +kernel
theorem dX7_addFour_31 : decode cX7_addFour 31 = .ok (.iand, 1) := by decide +kernel
theorem dX7_addFour_32 : decode cX7_addFour 32 = .ok (.iastore, 1) := by decide +kernel
theorem dX7_addFour_33 : decode cX7_addFour 33 = .ok (.aload_n 0, 1) := by decide +kernel
theorem dX7_addFour_34 : decode cX7_addFour 34 = .ok (.dup, 1) := by decide +kernel
theorem dX7_addFour_35 : decode cX7_addFour 35 = .ok (.getfield 15, 3) := by decide +kernel
theorem dX7_addFour_38 : decode cX7_addFour 38 = .ok (.iconst 1, 1) := by decide +kernel
theorem dX7_addFour_39 : decode cX7_addFour 39 = .ok (.iadd, 1) := by decide +kernel
theorem dX7_addFour_40 : decode cX7_addFour 40 = .ok (.putfield 15, 3) := by decide +kernel
theorem dX7_addFour_43 : decode cX7_addFour 43 = .ok (.iinc 2 (-8), 3) := by decide +kernel
theorem dX7_addFour_46 : decode cX7_addFour 46 = .ok (.goto (-43), 3) := by decide +kernel
theorem dX7_addFour_49 : decode cX7_addFour 49 = .ok (.return_, 1) := by decide +kernel
theorem dX7_byteAt_0 : decode cX7_byteAt 0 = .ok (.iload_n 1, 1) := by decide +kernel
theorem dX7_byteAt_1 : decode cX7_byteAt 1 = .ok (.ifCond .lt 20, 3) := by decide +kernel
theorem dX7_byteAt_4 : decode cX7_byteAt 4 = .ok (.iload_n 1, 1) := by decide +kernel
theorem dX7_byteAt_5 : decode cX7_byteAt 5 = .ok (.aload_n 0, 1) := by decide +kernel
theorem dX7_byteAt_6 : decode cX7_byteAt 6 = .ok (.getfield 15, 3) := by decide +kernel
theorem dX7_byteAt_9 : decode cX7_byteAt 9 = .ok (.if_icmp .ge 12, 3) := by decide +kernel
theorem dX7_byteAt_12 : decode cX7_byteAt 12 = .ok (.aload_n 0, 1) := by decide +kernel
theorem dX7_byteAt_13 : decode cX7_byteAt 13 = .ok (.getfield 9, 3) := by decide +kernel
theorem dX7_byteAt_16 : decode cX7_byteAt 16 = .ok (.iload_n 1, 1) := by decide +kernel
theorem dX7_byteAt_17 : decode cX7_byteAt 17 = .ok (.iaload, 1) := by decide +kernel
theorem dX7_byteAt_18 : decode cX7_byteAt 18 = .ok (.goto 4, 3) := by decide +kernel
theorem dX7_byteAt_21 : decode cX7_byteAt 21 = .ok (.iconst (-1), 1) := by decide +kernel
theorem dX7_byteAt_22 : decode cX7_byteAt 22 = .ok (.ireturn, 1) := by decide +kernel
theorem dX8_init_0 : decode cX8_init 0 = .ok (.aload_n 0, 1) := by decide +kernel
theorem dX8_init_1 : decode cX8_init 1 = .ok (.invokespecial 3, 3) := by decide +kernel
theorem dX8_init_4 : decode cX8_init 4 = .ok (.aload_n 0, 1) := by decide +kernel
theorem dX8_init_5 : decode cX8_init 5 = .ok (.sipush 401, 3) := by decide +kernel
theorem dX8_init_8 : decode cX8_init 8 = .ok (.newarray .int, 2) := by decide +kernel
theorem dX8_init_10 : decode cX8_init 10 = .ok (.putfield 9, 3) := by decide +kernel
theorem dX8_init_13 : decode cX8_init 13 = .ok (.aload_n 0, 1) := by decide +kernel
theorem dX8_init_14 : decode cX8_init 14 = .ok (.sipush 401, 3) := by decide +kernel
theorem dX8_init_17 : decode cX8_init 17 = .ok (.newarray .int, 2) := by decide +kernel
theorem dX8_init_19 : decode cX8_init 19 = .ok (.putfield 15, 3) := by decide +kernel
theorem dX8_init_22 : decode cX8_init 22 = .ok (.aload_n 0, 1) := by decide +kernel
theorem dX8_init_23 : decode cX8_init 23 = .ok (.sipush 401, 3) := by decide +kernel
theorem dX8_init_26 : decode cX8_init 26 = .ok (.newarray .long, 2) := by decide +kernel
theorem dX8_init_28 : decode cX8_init 28 = .ok (.putfield 18, 3) := by decide +kernel
theorem dX8_init_31 : decode cX8_init 31 = .ok (.aload_n 0, 1) := by decide +kernel
theorem dX8_init_32 : decode cX8_init 32 = .ok (.bipush 17, 2) := by decide +kernel
theorem dX8_init_34 : decode cX8_init 34 = .ok (.newarray .long, 2) := by decide +kernel
theorem dX8_init_36 : decode cX8_init 36 = .ok (.putfield 22, 3) := by decide +kernel
theorem dX8_init_39 : decode cX8_init 39 = .ok (.aload_n 0, 1) := by decide +kernel
theorem dX8_init_40 : decode cX8_init 40 = .ok (.iconst 0, 1) := by decide +kernel
theorem dX8_init_41 : decode cX8_init 41 = .ok (.putfield 25, 3) := by decide +kernel
theorem dX8_init_44 : decode cX8_init 44 = .ok (.aload_n 0, 1) := by decide +kernel
theorem dX8_init_45 : decode cX8_init 45 = .ok (.iconst 0, 1) := by decide +kernel
theorem dX8_init_46 : decode cX8_init 46 = .ok (.putfield 29, 3) := by decide +kernel
theorem dX8_init_49 : decode cX8_init 49 = .ok (.iconst 0, 1) := by decide +kernel
theorem dX8_init_50 : decode cX8_init 50 = .ok (.istore_n 1, 1) := by decide +kernel
theorem dX8_init_51 : decode cX8_init 51 = .ok (.iconst 0, 1) := by decide +kernel
theorem dX8_init_52 : decode cX8_init 52 = .ok (.istore_n 2, 1) := by decide +kernel
theorem dX8_init_53 : decode cX8_init 53 = .ok (.iload_n 2, 1) := by decide +kernel
theorem dX8_init_54 : decode cX8_init 54 = .ok (.ldc 32, 2) := by decide +kernel
theorem dX8_init_56 : decode cX8_init 56 = .ok (.invokevirtual 34, 3) := by decide +kernel
theorem dX8_init_59 : decode cX8_init 59 = .ok (.if_icmp .ge 53, 3) := by decide +kernel
theorem dX8_init_62 : decode cX8_init 62 = .ok (.iload_n 1, 1) := by decide +kernel
theorem dX8_init_63 : decode cX8_init 63 = .ok (.bipush 17, 2) := by decide +kernel
theorem dX8_init_65 : decode cX8_init 65 = .ok (.if_icmp .ge 47, 3) := by decide +kernel
theorem dX8_init_68 : decode cX8_init 68 = .ok (.ldc 32, 2) := by decide +kernel
theorem dX8_init_70 : decode cX8_init 70 = .ok (.iload_n 2, 1) := by decide +kernel
theorem dX8_init_71 : decode cX8_init 71 = .ok (.invokevirtual 40, 3) := by decide +kernel
theorem dX8_init_74 : decode cX8_init 74 = .ok (.bipush 32, 2) := by decide +kernel
theorem dX8_init_76 : decode cX8_init 76 = .ok (.if_icmp .ne 9, 3) := by decide +kernel
theorem dX8_init_79 : decode cX8_init 79 = .ok (.iinc 1 1, 3) := by decide +kernel
theorem dX8_init_82 : decode cX8_init 82 = .ok (.goto 24, 3) := by decide +kernel
theorem dX8_init_85 : decode cX8_init 85 = .ok (.aload_n 0, 1) := by decide +kernel
theorem dX8_init_86 : decode cX8_init 86 = .ok (.getfield 22, 3) := by decide +kernel
theorem dX8_init_89 : decode cX8_init 89 = .ok (.iload_n 1, 1) := by decide +kernel
theorem dX8_init_90 : decode cX8_init 90 = .ok (.aload_n 0, 1) := by decide +kernel
theorem dX8_init_91 : decode cX8_init 91 = .ok (.getfield 22, 3) := by decide +kernel
theorem dX8_init_94 : decode cX8_init 94 = .ok (.iload_n 1, 1) := by decide +kernel
theorem dX8_init_95 : decode cX8_init 95 = .ok (.laload, 1) := by decide +kernel
theorem dX8_init_96 : decode cX8_init 96 = .ok (.ldc 32, 2) := by decide +kernel
theorem dX8_init_98 : decode cX8_init 98 = .ok (.iload_n 2, 1) := by decide +kernel
theorem dX8_init_99 : decode cX8_init 99 = .ok (.invokevirtual 40, 3) := by decide +kernel
theorem dX8_init_102 : decode cX8_init 102 = .ok (.invokestatic 44, 3) := by decide +kernel
theorem dX8_init_105 : decode cX8_init 105 = .ok (.lastore, 1) := by decide +kernel
theorem dX8_init_106 : decode cX8_init 106 = .ok (.iinc 2 1, 3) := by decide +kernel
theorem dX8_init_109 : decode cX8_init 109 = .ok (.goto (-56), 3) := by decide +kernel
theorem dX8_init_112 : decode cX8_init 112 = .ok (.return_, 1) := by decide +kernel
theorem dX8_kindAt_0 : decode cX8_kindAt 0 = .ok (.iload_n 1, 1) := by decide +kernel
theorem dX8_kindAt_1 : decode cX8_kindAt 1 = .ok (.ifCond .lt 20, 3) := by decide +kernel
theorem dX8_kindAt_4 : decode cX8_kindAt 4 = .ok (.iload_n 1, 1) := by decide +kernel
theorem dX8_kindAt_5 : decode cX8_kindAt 5 = .ok (.aload_n 0, 1) := by decide +kernel
theorem dX8_kindAt_6 : decode cX8_kindAt 6 = .ok (.getfield 25, 3) := by decide +kernel
theorem dX8_kindAt_9 : decode cX8_kindAt 9 = .ok (.if_icmp .ge 12, 3) := by decide +kernel
theorem dX8_kindAt_12 : decode cX8_kindAt 12 = .ok (.aload_n 0, 1) := by decide +kernel
theorem dX8_kindAt_13 : decode cX8_kindAt 13 = .ok (.getfield 9, 3) := by decide +kernel
theorem dX8_kindAt_16 : decode cX8_kindAt 16 = .ok (.iload_n 1, 1) := by decide +kernel
theorem dX8_kindAt_17 : decode cX8_kindAt 17 = .ok (.iaload, 1) := by decide +kernel
theorem dX8_kindAt_18 : decode cX8_kindAt 18 = .ok (.goto 4, 3) := by decide +kernel
theorem dX8_kindAt_21 : decode cX8_kindAt 21 = .ok (.iconst 0, 1) := by decide +kernel
theorem dX8_kindAt_22 : decode cX8_kindAt 22 = .ok (.ireturn, 1) := by decide +kernel
theorem dX8_placeAt_0 : decode cX8_placeAt 0 = .ok (.iload_n 1, 1) := by decide +kernel
theorem dX8_placeAt_1 : decode cX8_placeAt 1 = .ok (.ifCond .lt 20, 3) := by decide +kernel
theorem dX8_placeAt_4 : decode cX8_placeAt 4 = .ok (.iload_n 1, 1) := by decide +kernel
theorem dX8_placeAt_5 : decode cX8_placeAt 5 = .ok (.aload_n 0, 1) := by decide +kernel
theorem dX8_placeAt_6 : decode cX8_placeAt 6 = .ok (.getfield 25, 3) := by decide +kernel
theorem dX8_placeAt_9 : decode cX8_placeAt 9 = .ok (.if_icmp .ge 12, 3) := by decide +kernel
theorem dX8_placeAt_12 : decode cX8_placeAt 12 = .ok (.aload_n 0, 1) := by decide +kernel
theorem dX8_placeAt_13 : decode cX8_placeAt 13 = .ok (.getfield 15, 3) := by decide +kernel
theorem dX8_placeAt_16 : decode cX8_placeAt 16 = .ok (.iload_n 1, 1) := by decide +kernel
theorem dX8_placeAt_17 : decode cX8_placeAt 17 = .ok (.iaload, 1) := by decide +kernel
theorem dX8_placeAt_18 : decode cX8_placeAt 18 = .ok (.goto 7, 3) := by decide +kernel
theorem dX8_placeAt_21 : decode cX8_placeAt 21 = .ok (.aload_n 0, 1) := by decide +kernel
theorem dX8_placeAt_22 : decode cX8_placeAt 22 = .ok (.getfield 29, 3) := by decide +kernel
theorem dX8_placeAt_25 : decode cX8_placeAt 25 = .ok (.ireturn, 1) := by decide +kernel
theorem dX8_valueAt_0 : decode cX8_valueAt 0 = .ok (.iload_n 1, 1) := by decide +kernel
theorem dX8_valueAt_1 : decode cX8_valueAt 1 = .ok (.ifCond .lt 20, 3) := by decide +kernel
theorem dX8_valueAt_4 : decode cX8_valueAt 4 = .ok (.iload_n 1, 1) := by decide +kernel
theorem dX8_valueAt_5 : decode cX8_valueAt 5 = .ok (.aload_n 0, 1) := by decide +kernel
theorem dX8_valueAt_6 : decode cX8_valueAt 6 = .ok (.getfield 25, 3) := by decide +kernel
theorem dX8_valueAt_9 : decode cX8_valueAt 9 = .ok (.if_icmp .ge 12, 3) := by decide +kernel
theorem dX8_valueAt_12 : decode cX8_valueAt 12 = .ok (.aload_n 0, 1) := by decide +kernel
theorem dX8_valueAt_13 : decode cX8_valueAt 13 = .ok (.getfield 18, 3) := by decide +kernel
theorem dX8_valueAt_16 : decode cX8_valueAt 16 = .ok (.iload_n 1, 1) := by decide +kernel
theorem dX8_valueAt_17 : decode cX8_valueAt 17 = .ok (.laload, 1) := by decide +kernel
theorem dX8_valueAt_18 : decode cX8_valueAt 18 = .ok (.goto 4, 3) := by decide +kernel
theorem dX8_valueAt_21 : decode cX8_valueAt 21 = .ok (.lconst 0, 1) := by decide +kernel
theorem dX8_valueAt_22 : decode cX8_valueAt 22 = .ok (.lreturn, 1) := by decide +kernel
theorem dX8_scan_0 : decode cX8_scan 0 = .ok (.aload_n 0, 1) := by decide +kernel
theorem dX8_scan_1 : decode cX8_scan 1 = .ok (.iconst 0, 1) := by decide +kernel
theorem dX8_scan_2 : decode cX8_scan 2 = .ok (.putfield 25, 3) := by decide +kernel
theorem dX8_scan_5 : decode cX8_scan 5 = .ok (.aload_n 0, 1) := by decide +kernel
theorem dX8_scan_6 : decode cX8_scan 6 = .ok (.aload_n 1, 1) := by decide +kernel
theorem dX8_scan_7 : decode cX8_scan 7 = .ok (.getfield 48, 3) := by decide +kernel
theorem dX8_scan_10 : decode cX8_scan 10 = .ok (.putfield 29, 3) := by decide +kernel
theorem dX8_scan_13 : decode cX8_scan 13 = .ok (.iconst 0, 1) := by decide +kernel
theorem dX8_scan_14 : decode cX8_scan 14 = .ok (.istore_n 2, 1) := by decide +kernel
theorem dX8_scan_15 : decode cX8_scan 15 = .ok (.iconst 0, 1) := by decide +kernel
theorem dX8_scan_16 : decode cX8_scan 16 = .ok (.istore_n 3, 1) := by decide +kernel
theorem dX8_scan_17 : decode cX8_scan 17 = .ok (.iload_n 3, 1) := by decide +kernel
theorem dX8_scan_18 : decode cX8_scan 18 = .ok (.sipush 2000, 3) := by decide +kernel
theorem dX8_scan_21 : decode cX8_scan 21 = .ok (.if_icmp .ge 111, 3) := by decide +kernel
theorem dX8_scan_24 : decode cX8_scan 24 = .ok (.iload_n 2, 1) := by decide +kernel
theorem dX8_scan_25 : decode cX8_scan 25 = .ok (.aload_n 0, 1) := by decide +kernel
theorem dX8_scan_26 : decode cX8_scan 26 = .ok (.getfield 29, 3) := by decide +kernel
theorem dX8_scan_29 : decode cX8_scan 29 = .ok (.if_icmp .ge 103, 3) := by decide +kernel
theorem dX8_scan_32 : decode cX8_scan 32 = .ok (.aload_n 0, 1) := by decide +kernel
theorem dX8_scan_33 : decode cX8_scan 33 = .ok (.getfield 25, 3) := by decide +kernel
theorem dX8_scan_36 : decode cX8_scan 36 = .ok (.sipush 400, 3) := by decide +kernel
theorem dX8_scan_39 : decode cX8_scan 39 = .ok (.if_icmp .gt 93, 3) := by decide +kernel
theorem dX8_scan_42 : decode cX8_scan 42 = .ok (.aload_n 1, 1) := by decide +kernel
theorem dX8_scan_43 : decode cX8_scan 43 = .ok (.iload_n 2, 1) := by decide +kernel
theorem dX8_scan_44 : decode cX8_scan 44 = .ok (.invokevirtual 51, 3) := by decide +kernel
theorem dX8_scan_47 : decode cX8_scan 47 = .ok (.istore 4, 2) := by decide +kernel
theorem dX8_scan_49 : decode cX8_scan 49 = .ok (.iload_n 2, 1) := by decide +kernel
theorem dX8_scan_50 : decode cX8_scan 50 = .ok (.iconst 1, 1) := by decide +kernel
theorem dX8_scan_51 : decode cX8_scan 51 = .ok (.iadd, 1) := by decide +kernel
theorem dX8_scan_52 : decode cX8_scan 52 = .ok (.istore 5, 2) := by decide +kernel
theorem dX8_scan_54 : decode cX8_scan 54 = .ok (.iload 4, 2) := by decide +kernel
theorem dX8_scan_56 : decode cX8_scan 56 = .ok (.invokestatic 55, 3) := by decide +kernel
theorem dX8_scan_59 : decode cX8_scan 59 = .ok (.ifCond .eq 14, 3) := by decide +kernel
theorem dX8_scan_62 : decode cX8_scan 62 = .ok (.aload_n 0, 1) := by decide +kernel
theorem dX8_scan_63 : decode cX8_scan 63 = .ok (.aload_n 1, 1) := by decide +kernel
theorem dX8_scan_64 : decode cX8_scan 64 = .ok (.iload_n 2, 1) := by decide +kernel
theorem dX8_scan_65 : decode cX8_scan 65 = .ok (.invokevirtual 59, 3) := by decide +kernel
theorem dX8_scan_68 : decode cX8_scan 68 = .ok (.istore 5, 2) := by decide +kernel
theorem dX8_scan_70 : decode cX8_scan 70 = .ok (.goto 53, 3) := by decide +kernel
theorem dX8_scan_73 : decode cX8_scan 73 = .ok (.iload 4, 2) := by decide +kernel
theorem dX8_scan_75 : decode cX8_scan 75 = .ok (.invokestatic 63, 3) := by decide +kernel
theorem dX8_scan_78 : decode cX8_scan 78 = .ok (.ifCond .eq 14, 3) := by decide +kernel
theorem dX8_scan_81 : decode cX8_scan 81 = .ok (.aload_n 0, 1) := by decide +kernel
theorem dX8_scan_82 : decode cX8_scan 82 = .ok (.aload_n 1, 1) := by decide +kernel
theorem dX8_scan_83 : decode cX8_scan 83 = .ok (.iload_n 2, 1) := by decide +kernel
theorem dX8_scan_84 : decode cX8_scan 84 = .ok (.invokevirtual 66, 3) := by decide +kernel
theorem dX8_scan_87 : decode cX8_scan 87 = .ok (.istore 5, 2) := by decide +kernel
theorem dX8_scan_89 : decode cX8_scan 89 = .ok (.goto 34, 3) := by decide +kernel
theorem dX8_scan_92 : decode cX8_scan 92 = .ok (.iload 4, 2) := by decide +kernel
theorem dX8_scan_94 : decode cX8_scan 94 = .ok (.invokestatic 69, 3) := by decide +kernel
theorem dX8_scan_97 : decode cX8_scan 97 = .ok (.ifCond .ne 26, 3) := by decide +kernel
theorem dX8_scan_100 : decode cX8_scan 100 = .ok (.aload_n 0, 1) := by decide +kernel
theorem dX8_scan_101 : decode cX8_scan 101 = .ok (.ldc 72, 2) := by decide +kernel
theorem dX8_scan_103 : decode cX8_scan 103 = .ok (.iload 4, 2) := by decide +kernel
theorem dX8_scan_105 : decode cX8_scan 105 = .ok (.i2c, 1) := by decide +kernel
theorem dX8_scan_106 : decode cX8_scan 106 = .ok (.invokevirtual 74, 3) := by decide +kernel
theorem dX8_scan_109 : decode cX8_scan 109 = .ok (.ifCond .lt 8, 3) := by decide +kernel
theorem dX8_scan_112 : decode cX8_scan 112 = .ok (.iload 4, 2) := by decide +kernel
theorem dX8_scan_114 : decode cX8_scan 114 = .ok (.goto 4, 3) := by decide +kernel
theorem dX8_scan_117 : decode cX8_scan 117 = .ok (.iconst 1, 1) := by decide +kernel
theorem dX8_scan_118 : decode cX8_scan 118 = .ok (.iload_n 2, 1) := by decide +kernel
theorem dX8_scan_119 : decode cX8_scan 119 = .ok (.lconst 0, 1) := by decide +kernel
theorem dX8_scan_120 : decode cX8_scan 120 = .ok (.invokevirtual 77, 3) := by decide +kernel
theorem dX8_scan_123 : decode cX8_scan 123 = .ok (.iload 5, 2) := by decide +kernel
theorem dX8_scan_125 : decode cX8_scan 125 = .ok (.istore_n 2, 1) := by decide +kernel
theorem dX8_scan_126 : decode cX8_scan 126 = .ok (.iinc 3 1, 3) := by decide +kernel
theorem dX8_scan_129 : decode cX8_scan 129 = .ok (.goto (-112), 3) := by decide +kernel
theorem dX8_scan_132 : decode cX8_scan 132 = .ok (.return_, 1) := by decide +kernel
theorem dX8_addLetters_0 : decode cX8_addLetters 0 = .ok (.lconst 0, 1) := by decide +kernel
theorem dX8_addLetters_1 : decode cX8_addLetters 1 = .ok (.lstore_n 3, 1) := by decide +kernel
theorem dX8_addLetters_2 : decode cX8_addLetters 2 = .ok (.iload_n 2, 1) := by decide +kernel
theorem dX8_addLetters_3 : decode cX8_addLetters 3 = .ok (.istore 5, 2) := by decide +kernel
theorem dX8_addLetters_5 : decode cX8_addLetters 5 = .ok (.iload 5, 2) := by decide +kernel
theorem dX8_addLetters_7 : decode cX8_addLetters 7 = .ok (.aload_n 0, 1) := by decide +kernel
theorem dX8_addLetters_8 : decode cX8_addLetters 8 = .ok (.getfield 29, 3) := by decide +kernel
theorem dX8_addLetters_11 : decode cX8_addLetters 11 = .ok (.if_icmp .ge 32, 3) := by decide +kernel
theorem dX8_addLetters_14 : decode cX8_addLetters 14 = .ok (.aload_n 1, 1) := by decide +kernel
theorem dX8_addLetters_15 : decode cX8_addLetters 15 = .ok (.iload 5, 2) := by decide +kernel
theorem dX8_addLetters_17 : decode cX8_addLetters 17 = .ok (.invokevirtual 51, 3) := by decide +kernel
theorem dX8_addLetters_20 : decode cX8_addLetters 20 = .ok (.invokestatic 55, 3) := by decide +kernel
theorem dX8_addLetters_23 : decode cX8_addLetters 23 = .ok (.ifCond .eq 20, 3) := by decide +kernel
theorem dX8_addLetters_26 : decode cX8_addLetters 26 = .ok (.lload_n 3, 1) := by decide +kernel
theorem dX8_addLetters_27 : decode cX8_addLetters 27 = .ok (.aload_n 1, 1) := by decide +kernel
theorem dX8_addLetters_28 : decode cX8_addLetters 28 = .ok (.iload 5, 2) := by decide +kernel
theorem dX8_addLetters_30 : decode cX8_addLetters 30 = .ok (.invokevirtual 51, 3) := by decide +kernel
theorem dX8_addLetters_33 : decode cX8_addLetters 33 = .ok (.invokestatic 44, 3) := by decide +kernel
theorem dX8_addLetters_36 : decode cX8_addLetters 36 = .ok (.lstore_n 3, 1) := by decide +kernel
theorem dX8_addLetters_37 : decode cX8_addLetters 37 = .ok (.iinc 5 1, 3) := by decide +kernel
theorem dX8_addLetters_40 : decode cX8_addLetters 40 = .ok (.goto (-35), 3) := by decide +kernel
theorem dX8_addLetters_43 : decode cX8_addLetters 43 = .ok (.iload 5, 2) := by decide +kernel
theorem dX8_addLetters_45 : decode cX8_addLetters 45 = .ok (.iload_n 2, 1) := by decide +kernel
theorem dX8_addLetters_46 : decode cX8_addLetters 46 = .ok (.isub, 1) := by decide +kernel
theorem dX8_addLetters_47 : decode cX8_addLetters 47 = .ok (.bipush 8, 2) := by decide +kernel
theorem dX8_addLetters_49 : decode cX8_addLetters 49 = .ok (.if_icmp .le 13, 3) := by decide +kernel
theorem dX8_addLetters_52 : decode cX8_addLetters 52 = .ok (.aload_n 0, 1) := by decide +kernel
theorem dX8_addLetters_53 : decode cX8_addLetters 53 = .ok (.iconst 1, 1) := by decide +kernel
theorem dX8_addLetters_54 : decode cX8_addLetters 54 = .ok (.iload_n 2, 1) := by decide +kernel
theorem dX8_addLetters_55 : decode cX8_addLetters 55 = .ok (.lconst 0, 1) := by decide +kernel
theorem dX8_addLetters_56 : decode cX8_addLetters 56 = .ok (.invokevirtual 77, 3) := by decide +kernel
theorem dX8_addLetters_59 : decode cX8_addLetters 59 = .ok (.goto 14, 3) := by decide +kernel
theorem dX8_addLetters_62 : decode cX8_addLetters 62 = .ok (.aload_n 0, 1) := by decide +kernel
theorem dX8_addLetters_63 : decode cX8_addLetters 63 = .ok (.aload_n 0, 1) := by decide +kernel
theorem dX8_addLetters_64 : decode cX8_addLetters 64 = .ok (.lload_n 3, 1) := by decide +kernel
theorem dX8_addLetters_65 : decode cX8_addLetters 65 = .ok (.invokevirtual 81, 3) := by decide +kernel
theorem dX8_addLetters_68 : decode cX8_addLetters 68 = .ok (.iload_n 2, 1) := by decide +kernel
theorem dX8_addLetters_69 : decode cX8_addLetters 69 = .ok (.lload_n 3, 1) := by decide +kernel
theorem dX8_addLetters_70 : decode cX8_addLetters 70 = .ok (.invokevirtual 77, 3) := by decide +kernel
theorem dX8_addLetters_73 : decode cX8_addLetters 73 = .ok (.iload 5, 2) := by decide +kernel
theorem dX8_addLetters_75 : decode cX8_addLetters 75 = .ok (.ireturn, 1) := by decide +kernel
theorem dX8_addDigits_0 : decode cX8_addDigits 0 = .ok (.lconst 0, 1) := by decide +kernel
theorem dX8_addDigits_1 : decode cX8_addDigits 1 = .ok (.lstore_n 3, 1) := by decide +kernel
theorem dX8_addDigits_2 : decode cX8_addDigits 2 = .ok (.iload_n 2, 1) := by decide +kernel
theorem dX8_addDigits_3 : decode cX8_addDigits 3 = .ok (.istore 5, 2) := by decide +kernel
theorem dX8_addDigits_5 : decode cX8_addDigits 5 = .ok (.iload 5, 2) := by decide +kernel
theorem dX8_addDigits_7 : decode cX8_addDigits 7 = .ok (.aload_n 0, 1) := by decide +kernel
theorem dX8_addDigits_8 : decode cX8_addDigits 8 = .ok (.getfield 29, 3) := by decide +kernel
theorem dX8_addDigits_11 : decode cX8_addDigits 11 = .ok (.if_icmp .ge 39, 3) := by decide +kernel
theorem dX8_addDigits_14 : decode cX8_addDigits 14 = .ok (.aload_n 1, 1) := by decide +kernel
theorem dX8_addDigits_15 : decode cX8_addDigits 15 = .ok (.iload 5, 2) := by decide +kernel
theorem dX8_addDigits_17 : decode cX8_addDigits 17 = .ok (.invokevirtual 51, 3) := by decide +kernel
theorem dX8_addDigits_20 : decode cX8_addDigits 20 = .ok (.invokestatic 63, 3) := by decide +kernel
theorem dX8_addDigits_23 : decode cX8_addDigits 23 = .ok (.ifCond .eq 27, 3) := by decide +kernel
theorem dX8_addDigits_26 : decode cX8_addDigits 26 = .ok (.lload_n 3, 1) := by decide +kernel
theorem dX8_addDigits_27 : decode cX8_addDigits 27 = .ok (.ldc2_w 85, 3) := by decide +kernel
theorem dX8_addDigits_30 : decode cX8_addDigits 30 = .ok (.lmul, 1) := by decide +kernel
theorem dX8_addDigits_31 : decode cX8_addDigits 31 = .ok (.aload_n 1, 1) := by decide +kernel
theorem dX8_addDigits_32 : decode cX8_addDigits 32 = .ok (.iload 5, 2) := by decide +kernel
theorem dX8_addDigits_34 : decode cX8_addDigits 34 = .ok (.invokevirtual 51, 3) := by decide +kernel
theorem dX8_addDigits_37 : decode cX8_addDigits 37 = .ok (.i2l, 1) := by decide +kernel
theorem dX8_addDigits_38 : decode cX8_addDigits 38 = .ok (.ladd, 1) := by decide +kernel
theorem dX8_addDigits_39 : decode cX8_addDigits 39 = .ok (.ldc2_w 87, 3) := by decide +kernel
theorem dX8_addDigits_42 : decode cX8_addDigits 42 = .ok (.lsub, 1) := by decide +kernel
theorem dX8_addDigits_43 : decode cX8_addDigits 43 = .ok (.lstore_n 3, 1) := by decide +kernel
theorem dX8_addDigits_44 : decode cX8_addDigits 44 = .ok (.iinc 5 1, 3) := by decide +kernel
theorem dX8_addDigits_47 : decode cX8_addDigits 47 = .ok (.goto (-42), 3) := by decide +kernel
theorem dX8_addDigits_50 : decode cX8_addDigits 50 = .ok (.aload_n 0, 1) := by decide +kernel
theorem dX8_addDigits_51 : decode cX8_addDigits 51 = .ok (.iload 5, 2) := by decide +kernel
theorem dX8_addDigits_53 : decode cX8_addDigits 53 = .ok (.iload_n 2, 1) := by decide +kernel
theorem dX8_addDigits_54 : decode cX8_addDigits 54 = .ok (.isub, 1) := by decide +kernel
theorem dX8_addDigits_55 : decode cX8_addDigits 55 = .ok (.iconst 4, 1) := by decide +kernel
theorem dX8_addDigits_56 : decode cX8_addDigits 56 = .ok (.if_icmp .le 7, 3) := by decide +kernel
theorem dX8_addDigits_59 : decode cX8_addDigits 59 = .ok (.iconst 1, 1) := by decide +kernel
theorem dX8_addDigits_60 : decode cX8_addDigits 60 = .ok (.goto 4, 3) := by decide +kernel
theorem dX8_addDigits_63 : decode cX8_addDigits 63 = .ok (.iconst 3, 1) := by decide +kernel
theorem dX8_addDigits_64 : decode cX8_addDigits 64 = .ok (.iload_n 2, 1) := by decide +kernel
theorem dX8_addDigits_65 : decode cX8_addDigits 65 = .ok (.lload_n 3, 1) := by decide +kernel
theorem dX8_addDigits_66 : decode cX8_addDigits 66 = .ok (.invokevirtual 77, 3) := by decide +kernel
theorem dX8_addDigits_69 : decode cX8_addDigits 69 = .ok (.iload 5, 2) := by decide +kernel
theorem dX8_addDigits_71 : decode cX8_addDigits 71 = .ok (.ireturn, 1) := by decide +kernel
theorem dX8_add_0 : decode cX8_add 0 = .ok (.aload_n 0, 1) := by decide +kernel
theorem dX8_add_1 : decode cX8_add 1 = .ok (.getfield 25, 3) := by decide +kernel
theorem dX8_add_4 : decode cX8_add 4 = .ok (.aload_n 0, 1) := by decide +kernel
theorem dX8_add_5 : decode cX8_add 5 = .ok (.getfield 9, 3) := by decide +kernel
theorem dX8_add_8 : decode cX8_add 8 = .ok (.arraylength, 1) := by decide +kernel
theorem dX8_add_9 : decode cX8_add 9 = .ok (.if_icmp .ge 43, 3) := by decide +kernel
theorem dX8_add_12 : decode cX8_add 12 = .ok (.aload_n 0, 1) := by decide +kernel
theorem dX8_add_13 : decode cX8_add 13 = .ok (.getfield 9, 3) := by decide +kernel
theorem dX8_add_16 : decode cX8_add 16 = .ok (.aload_n 0, 1) := by decide +kernel
theorem dX8_add_17 : decode cX8_add 17 = .ok (.getfield 25, 3) := by decide +kernel
theorem dX8_add_20 : decode cX8_add 20 = .ok (.iload_n 1, 1) := by decide +kernel
theorem dX8_add_21 : decode cX8_add 21 = .ok (.iastore, 1) := by decide +kernel
theorem dX8_add_22 : decode cX8_add 22 = .ok (.aload_n 0, 1) := by decide +kernel
theorem dX8_add_23 : decode cX8_add 23 = .ok (.getfield 15, 3) := by decide +kernel
theorem dX8_add_26 : decode cX8_add 26 = .ok (.aload_n 0, 1) := by decide +kernel
theorem dX8_add_27 : decode cX8_add 27 = .ok (.getfield 25, 3) := by decide +kernel
theorem dX8_add_30 : decode cX8_add 30 = .ok (.iload_n 2, 1) := by decide +kernel
theorem dX8_add_31 : decode cX8_add 31 = .ok (.iastore, 1) := by decide +kernel
theorem dX8_add_32 : decode cX8_add 32 = .ok (.aload_n 0, 1) := by decide +kernel
theorem dX8_add_33 : decode cX8_add 33 = .ok (.getfield 18, 3) := by decide +kernel
theorem dX8_add_36 : decode cX8_add 36 = .ok (.aload_n 0, 1) := by decide +kernel
theorem dX8_add_37 : decode cX8_add 37 = .ok (.getfield 25, 3) := by decide +kernel
theorem dX8_add_40 : decode cX8_add 40 = .ok (.lload_n 3, 1) := by decide +kernel
theorem dX8_add_41 : decode cX8_add 41 = .ok (.lastore, 1) := by decide +kernel
theorem dX8_add_42 : decode cX8_add 42 = .ok (.aload_n 0, 1) := by decide +kernel
theorem dX8_add_43 : decode cX8_add 43 = .ok (.dup, 1) := by decide +kernel
theorem dX8_add_44 : decode cX8_add 44 = .ok (.getfield 25, 3) := by decide +kernel
theorem dX8_add_47 : decode cX8_add 47 = .ok (.iconst 1, 1) := by decide +kernel
theorem dX8_add_48 : decode cX8_add 48 = .ok (.iadd, 1) := by decide +kernel
theorem dX8_add_49 : decode cX8_add 49 = .ok (.putfield 25, 3) := by decide +kernel
theorem dX8_add_52 : decode cX8_add 52 = .ok (.return_, 1) := by decide +kernel
theorem dX8_kindOf_0 : decode cX8_kindOf 0 = .ok (.iconst 0, 1) := by decide +kernel
theorem dX8_kindOf_1 : decode cX8_kindOf 1 = .ok (.istore_n 3, 1) := by decide +kernel
theorem dX8_kindOf_2 : decode cX8_kindOf 2 = .ok (.iload_n 3, 1) := by decide +kernel
theorem dX8_kindOf_3 : decode cX8_kindOf 3 = .ok (.bipush 17, 2) := by decide +kernel
theorem dX8_kindOf_5 : decode cX8_kindOf 5 = .ok (.if_icmp .ge 26, 3) := by decide +kernel
theorem dX8_kindOf_8 : decode cX8_kindOf 8 = .ok (.aload_n 0, 1) := by decide +kernel
theorem dX8_kindOf_9 : decode cX8_kindOf 9 = .ok (.getfield 22, 3) := by decide +kernel
theorem dX8_kindOf_12 : decode cX8_kindOf 12 = .ok (.iload_n 3, 1) := by decide +kernel
theorem dX8_kindOf_13 : decode cX8_kindOf 13 = .ok (.laload, 1) := by decide +kernel
theorem dX8_kindOf_14 : decode cX8_kindOf 14 = .ok (.lload_n 1, 1) := by decide +kernel
theorem dX8_kindOf_15 : decode cX8_kindOf 15 = .ok (.lcmp, 1) := by decide +kernel
theorem dX8_kindOf_16 : decode cX8_kindOf 16 = .ok (.ifCond .ne 9, 3) := by decide +kernel
theorem dX8_kindOf_19 : decode cX8_kindOf 19 = .ok (.sipush 128, 3) := by decide +kernel
theorem dX8_kindOf_22 : decode cX8_kindOf 22 = .ok (.iload_n 3, 1) := by decide +kernel
theorem dX8_kindOf_23 : decode cX8_kindOf 23 = .ok (.iadd, 1) := by decide +kernel
theorem dX8_kindOf_24 : decode cX8_kindOf 24 = .ok (.ireturn, 1) := by decide +kernel
theorem dX8_kindOf_25 : decode cX8_kindOf 25 = .ok (.iinc 3 1, 3) := by decide +kernel
theorem dX8_kindOf_28 : decode cX8_kindOf 28 = .ok (.goto (-26), 3) := by decide +kernel
theorem dX8_kindOf_31 : decode cX8_kindOf 31 = .ok (.iconst 2, 1) := by decide +kernel
theorem dX8_kindOf_32 : decode cX8_kindOf 32 = .ok (.ireturn, 1) := by decide +kernel
theorem dX8_withLetter_0 : decode cX8_withLetter 0 = .ok (.lload_n 0, 1) := by decide +kernel
theorem dX8_withLetter_1 : decode cX8_withLetter 1 = .ok (.iconst 5, 1) := by decide +kernel
theorem dX8_withLetter_2 : decode cX8_withLetter 2 = .ok (.lshl, 1) := by decide +kernel
theorem dX8_withLetter_3 : decode cX8_withLetter 3 = .ok (.iload_n 2, 1) := by decide +kernel
theorem dX8_withLetter_4 : decode cX8_withLetter 4 = .ok (.bipush 97, 2) := by decide +kernel
theorem dX8_withLetter_6 : decode cX8_withLetter 6 = .ok (.isub, 1) := by decide +kernel
theorem dX8_withLetter_7 : decode cX8_withLetter 7 = .ok (.iconst 1, 1) := by decide +kernel
theorem dX8_withLetter_8 : decode cX8_withLetter 8 = .ok (.iadd, 1) := by decide +kernel
theorem dX8_withLetter_9 : decode cX8_withLetter 9 = .ok (.i2l, 1) := by decide +kernel
theorem dX8_withLetter_10 : decode cX8_withLetter 10 = .ok (.lor, 1) := by decide +kernel
theorem dX8_withLetter_11 : decode cX8_withLetter 11 = .ok (.lreturn, 1) := by decide +kernel
theorem dX8_isLetter_0 : decode cX8_isLetter 0 = .ok (.iload_n 0, 1) := by decide +kernel
theorem dX8_isLetter_1 : decode cX8_isLetter 1 = .ok (.bipush 97, 2) := by decide +kernel
theorem dX8_isLetter_3 : decode cX8_isLetter 3 = .ok (.if_icmp .lt 13, 3) := by decide +kernel
theorem dX8_isLetter_6 : decode cX8_isLetter 6 = .ok (.iload_n 0, 1) := by decide +kernel
theorem dX8_isLetter_7 : decode cX8_isLetter 7 = .ok (.bipush 122, 2) := by decide +kernel
theorem dX8_isLetter_9 : decode cX8_isLetter 9 = .ok (.if_icmp .gt 7, 3) := by decide +kernel
theorem dX8_isLetter_12 : decode cX8_isLetter 12 = .ok (.iconst 1, 1) := by decide +kernel
theorem dX8_isLetter_13 : decode cX8_isLetter 13 = .ok (.goto 4, 3) := by decide +kernel
theorem dX8_isLetter_16 : decode cX8_isLetter 16 = .ok (.iconst 0, 1) := by decide +kernel
theorem dX8_isLetter_17 : decode cX8_isLetter 17 = .ok (.ireturn, 1) := by decide +kernel
theorem dX8_isDigit_0 : decode cX8_isDigit 0 = .ok (.iload_n 0, 1) := by decide +kernel
theorem dX8_isDigit_1 : decode cX8_isDigit 1 = .ok (.bipush 48, 2) := by decide +kernel
theorem dX8_isDigit_3 : decode cX8_isDigit 3 = .ok (.if_icmp .lt 13, 3) := by decide +kernel
theorem dX8_isDigit_6 : decode cX8_isDigit 6 = .ok (.iload_n 0, 1) := by decide +kernel
theorem dX8_isDigit_7 : decode cX8_isDigit 7 = .ok (.bipush 57, 2) := by decide +kernel
theorem dX8_isDigit_9 : decode cX8_isDigit 9 = .ok (.if_icmp .gt 7, 3) := by decide +kernel
theorem dX8_isDigit_12 : decode cX8_isDigit 12 = .ok (.iconst 1, 1) := by decide +kernel
theorem dX8_isDigit_13 : decode cX8_isDigit 13 = .ok (.goto 4, 3) := by decide +kernel
theorem dX8_isDigit_16 : decode cX8_isDigit 16 = .ok (.iconst 0, 1) := by decide +kernel
theorem dX8_isDigit_17 : decode cX8_isDigit 17 = .ok (.ireturn, 1) := by decide +kernel
theorem dX8_isBlank_0 : decode cX8_isBlank 0 = .ok (.iload_n 0, 1) := by decide +kernel
theorem dX8_isBlank_1 : decode cX8_isBlank 1 = .ok (.bipush 9, 2) := by decide +kernel
theorem dX8_isBlank_3 : decode cX8_isBlank 3 = .ok (.if_icmp .eq 21, 3) := by decide +kernel
theorem dX8_isBlank_6 : decode cX8_isBlank 6 = .ok (.iload_n 0, 1) := by decide +kernel
theorem dX8_isBlank_7 : decode cX8_isBlank 7 = .ok (.bipush 10, 2) := by decide +kernel
theorem dX8_isBlank_9 : decode cX8_isBlank 9 = .ok (.if_icmp .eq 15, 3) := by decide +kernel
theorem dX8_isBlank_12 : decode cX8_isBlank 12 = .ok (.iload_n 0, 1) := by decide +kernel
theorem dX8_isBlank_13 : decode cX8_isBlank 13 = .ok (.bipush 13, 2) := by decide +kernel
theorem dX8_isBlank_15 : decode cX8_isBlank 15 = .ok (.if_icmp .eq 9, 3) := by decide +kernel
theorem dX8_isBlank_18 : decode cX8_isBlank 18 = .ok (.iload_n 0, 1) := by decide +kernel
theorem dX8_isBlank_19 : decode cX8_isBlank 19 = .ok (.bipush 32, 2) := by decide +kernel
theorem dX8_isBlank_21 : decode cX8_isBlank 21 = .ok (.if_icmp .ne 7, 3) := by decide +kernel
theorem dX8_isBlank_24 : decode cX8_isBlank 24 = .ok (.iconst 1, 1) := by decide +kernel
theorem dX8_isBlank_25 : decode cX8_isBlank 25 = .ok (.goto 4, 3) := by decide +kernel
theorem dX8_isBlank_28 : decode cX8_isBlank 28 = .ok (.iconst 0, 1) := by decide +kernel
theorem dX8_isBlank_29 : decode cX8_isBlank 29 = .ok (.ireturn, 1) := by decide +kernel
theorem dX9_init_0 : decode cX9_init 0 = .ok (.aload_n 0, 1) := by decide +kernel
theorem dX9_init_1 : decode cX9_init 1 = .ok (.invokespecial 3, 3) := by decide +kernel
theorem dX9_init_4 : decode cX9_init 4 = .ok (.aload_n 0, 1) := by decide +kernel
theorem dX9_init_5 : decode cX9_init 5 = .ok (.bipush 20, 2) := by decide +kernel
theorem dX9_init_7 : decode cX9_init 7 = .ok (.newarray .int, 2) := by decide +kernel
theorem dX9_init_9 : decode cX9_init 9 = .ok (.putfield 9, 3) := by decide +kernel
theorem dX9_init_12 : decode cX9_init 12 = .ok (.aload_n 0, 1) := by decide +kernel
theorem dX9_init_13 : decode cX9_init 13 = .ok (.bipush 20, 2) := by decide +kernel
theorem dX9_init_15 : decode cX9_init 15 = .ok (.newarray .int, 2) := by decide +kernel
theorem dX9_init_17 : decode cX9_init 17 = .ok (.putfield 15, 3) := by decide +kernel
theorem dX9_init_20 : decode cX9_init 20 = .ok (.aload_n 0, 1) := by decide +kernel
theorem dX9_init_21 : decode cX9_init 21 = .ok (.sipush 800, 3) := by decide +kernel
theorem dX9_init_24 : decode cX9_init 24 = .ok (.newarray .boolean, 2) := by decide +kernel
theorem dX9_init_26 : decode cX9_init 26 = .ok (.putfield 18, 3) := by decide +kernel
theorem dX9_init_29 : decode cX9_init 29 = .ok (.aload_n 0, 1) := by decide +kernel
theorem dX9_init_30 : decode cX9_init 30 = .ok (.iconst (-1), 1) := by decide +kernel
theorem dX9_init_31 : decode cX9_init 31 = .ok (.putfield 22, 3) := by decide +kernel
theorem dX9_init_34 : decode cX9_init 34 = .ok (.aload_n 0, 1) := by decide +kernel
theorem dX9_init_35 : decode cX9_init 35 = .ok (.iconst 0, 1) := by decide +kernel
theorem dX9_init_36 : decode cX9_init 36 = .ok (.putfield 26, 3) := by decide +kernel
theorem dX9_init_39 : decode cX9_init 39 = .ok (.return_, 1) := by decide +kernel
theorem dX9_clear_0 : decode cX9_clear 0 = .ok (.aload_n 0, 1) := by decide +kernel
theorem dX9_clear_1 : decode cX9_clear 1 = .ok (.iconst 0, 1) := by decide +kernel
theorem dX9_clear_2 : decode cX9_clear 2 = .ok (.putfield 26, 3) := by decide +kernel
theorem dX9_clear_5 : decode cX9_clear 5 = .ok (.aload_n 0, 1) := by decide +kernel
theorem dX9_clear_6 : decode cX9_clear 6 = .ok (.iconst (-1), 1) := by decide +kernel
theorem dX9_clear_7 : decode cX9_clear 7 = .ok (.putfield 22, 3) := by decide +kernel
theorem dX9_clear_10 : decode cX9_clear 10 = .ok (.return_, 1) := by decide +kernel
theorem dX9_add_0 : decode cX9_add 0 = .ok (.aload_n 0, 1) := by decide +kernel
theorem dX9_add_1 : decode cX9_add 1 = .ok (.getfield 26, 3) := by decide +kernel
theorem dX9_add_4 : decode cX9_add 4 = .ok (.bipush 20, 2) := by decide +kernel
theorem dX9_add_6 : decode cX9_add 6 = .ok (.if_icmp .lt 5, 3) := by decide +kernel
theorem dX9_add_9 : decode cX9_add 9 = .ok (.iconst (-1), 1) := by decide +kernel
theorem dX9_add_10 : decode cX9_add 10 = .ok (.ireturn, 1) := by decide +kernel
theorem dX9_add_11 : decode cX9_add 11 = .ok (.aload_n 0, 1) := by decide +kernel
theorem dX9_add_12 : decode cX9_add 12 = .ok (.getfield 9, 3) := by decide +kernel
theorem dX9_add_15 : decode cX9_add 15 = .ok (.aload_n 0, 1) := by decide +kernel
theorem dX9_add_16 : decode cX9_add 16 = .ok (.getfield 26, 3) := by decide +kernel
theorem dX9_add_19 : decode cX9_add 19 = .ok (.iload_n 1, 1) := by decide +kernel
theorem dX9_add_20 : decode cX9_add 20 = .ok (.iastore, 1) := by decide +kernel
theorem dX9_add_21 : decode cX9_add 21 = .ok (.aload_n 0, 1) := by decide +kernel
theorem dX9_add_22 : decode cX9_add 22 = .ok (.getfield 15, 3) := by decide +kernel
theorem dX9_add_25 : decode cX9_add 25 = .ok (.aload_n 0, 1) := by decide +kernel
theorem dX9_add_26 : decode cX9_add 26 = .ok (.getfield 26, 3) := by decide +kernel
theorem dX9_add_29 : decode cX9_add 29 = .ok (.iload_n 2, 1) := by decide +kernel
theorem dX9_add_30 : decode cX9_add 30 = .ok (.iastore, 1) := by decide +kernel
theorem dX9_add_31 : decode cX9_add 31 = .ok (.aload_n 0, 1) := by decide +kernel
theorem dX9_add_32 : decode cX9_add 32 = .ok (.dup, 1) := by decide +kernel
theorem dX9_add_33 : decode cX9_add 33 = .ok (.getfield 26, 3) := by decide +kernel
theorem dX9_add_36 : decode cX9_add 36 = .ok (.iconst 1, 1) := by decide +kernel
theorem dX9_add_37 : decode cX9_add 37 = .ok (.iadd, 1) := by decide +kernel
theorem dX9_add_38 : decode cX9_add 38 = .ok (.putfield 26, 3) := by decide +kernel
theorem dX9_add_41 : decode cX9_add 41 = .ok (.aload_n 0, 1) := by decide +kernel
theorem dX9_add_42 : decode cX9_add 42 = .ok (.getfield 26, 3) := by decide +kernel
theorem dX9_add_45 : decode cX9_add 45 = .ok (.iconst 1, 1) := by decide +kernel
theorem dX9_add_46 : decode cX9_add 46 = .ok (.isub, 1) := by decide +kernel
theorem dX9_add_47 : decode cX9_add 47 = .ok (.ireturn, 1) := by decide +kernel
theorem dX9_firstForged_0 : decode cX9_firstForged 0 = .ok (.aload_n 0, 1) := by decide +kernel
theorem dX9_firstForged_1 : decode cX9_firstForged 1 = .ok (.iload_n 1, 1) := by decide +kernel
theorem dX9_firstForged_2 : decode cX9_firstForged 2 = .ok (.invokevirtual 29, 3) := by decide +kernel
theorem dX9_firstForged_5 : decode cX9_firstForged 5 = .ok (.istore 4, 2) := by decide +kernel
theorem dX9_firstForged_7 : decode cX9_firstForged 7 = .ok (.bipush (-2), 2) := by decide +kernel
theorem dX9_firstForged_9 : decode cX9_firstForged 9 = .ok (.istore 5, 2) := by decide +kernel
theorem dX9_firstForged_11 : decode cX9_firstForged 11 = .ok (.aload_n 3, 1) := by decide +kernel
theorem dX9_firstForged_12 : decode cX9_firstForged 12 = .ok (.aload_n 2, 1) := by decide +kernel
theorem dX9_firstForged_13 : decode cX9_firstForged 13 = .ok (.invokevirtual 33, 3) := by decide +kernel
theorem dX9_firstForged_16 : decode cX9_firstForged 16 = .ok (.iconst 0, 1) := by decide +kernel
theorem dX9_firstForged_17 : decode cX9_firstForged 17 = .ok (.istore 6, 2) := by decide +kernel
theorem dX9_firstForged_19 : decode cX9_firstForged 19 = .ok (.iload 6, 2) := by decide +kernel
theorem dX9_firstForged_21 : decode cX9_firstForged 21 = .ok (.iload 4, 2) := by decide +kernel
theorem dX9_firstForged_23 : decode cX9_firstForged 23 = .ok (.if_icmp .gt 52, 3) := by decide +kernel
theorem dX9_firstForged_26 : decode cX9_firstForged 26 = .ok (.aload_n 3, 1) := by decide +kernel
theorem dX9_firstForged_27 : decode cX9_firstForged 27 = .ok (.aload_n 2, 1) := by decide +kernel
theorem dX9_firstForged_28 : decode cX9_firstForged 28 = .ok (.iconst (-1), 1) := by decide +kernel
theorem dX9_firstForged_29 : decode cX9_firstForged 29 = .ok (.invokevirtual 39, 3) := by decide +kernel
theorem dX9_firstForged_32 : decode cX9_firstForged 32 = .ok (.aload_n 0, 1) := by decide +kernel
theorem dX9_firstForged_33 : decode cX9_firstForged 33 = .ok (.iload_n 1, 1) := by decide +kernel
theorem dX9_firstForged_34 : decode cX9_firstForged 34 = .ok (.iload 6, 2) := by decide +kernel
theorem dX9_firstForged_36 : decode cX9_firstForged 36 = .ok (.aload_n 3, 1) := by decide +kernel
theorem dX9_firstForged_37 : decode cX9_firstForged 37 = .ok (.getfield 43, 3) := by decide +kernel
theorem dX9_firstForged_40 : decode cX9_firstForged 40 = .ok (.invokevirtual 46, 3) := by decide +kernel
theorem dX9_firstForged_43 : decode cX9_firstForged 43 = .ok (.istore 7, 2) := by decide +kernel
theorem dX9_firstForged_45 : decode cX9_firstForged 45 = .ok (.iload 7, 2) := by decide +kernel
theorem dX9_firstForged_47 : decode cX9_firstForged 47 = .ok (.iconst (-1), 1) := by decide +kernel
theorem dX9_firstForged_48 : decode cX9_firstForged 48 = .ok (.if_icmp .eq 21, 3) := by decide +kernel
theorem dX9_firstForged_51 : decode cX9_firstForged 51 = .ok (.iload 5, 2) := by decide +kernel
theorem dX9_firstForged_53 : decode cX9_firstForged 53 = .ok (.bipush (-2), 2) := by decide +kernel
theorem dX9_firstForged_55 : decode cX9_firstForged 55 = .ok (.if_icmp .eq 10, 3) := by decide +kernel
theorem dX9_firstForged_58 : decode cX9_firstForged 58 = .ok (.iload 7, 2) := by decide +kernel
theorem dX9_firstForged_60 : decode cX9_firstForged 60 = .ok (.iload 5, 2) := by decide +kernel
theorem dX9_firstForged_62 : decode cX9_firstForged 62 = .ok (.if_icmp .ge 7, 3) := by decide +kernel
theorem dX9_firstForged_65 : decode cX9_firstForged 65 = .ok (.iload 7, 2) := by decide +kernel
theorem dX9_firstForged_67 : decode cX9_firstForged 67 = .ok (.istore 5, 2) := by decide +kernel
theorem dX9_firstForged_69 : decode cX9_firstForged 69 = .ok (.iinc 6 1, 3) := by decide +kernel
theorem dX9_firstForged_72 : decode cX9_firstForged 72 = .ok (.goto (-53), 3) := by decide +kernel
theorem dX9_firstForged_75 : decode cX9_firstForged 75 = .ok (.iload 5, 2) := by decide +kernel
theorem dX9_firstForged_77 : decode cX9_firstForged 77 = .ok (.ireturn, 1) := by decide +kernel
theorem dX9_search_0 : decode cX9_search 0 = .ok (.aload_n 0, 1) := by decide +kernel
theorem dX9_search_1 : decode cX9_search 1 = .ok (.getfield 22, 3) := by decide +kernel
theorem dX9_search_4 : decode cX9_search 4 = .ok (.iload_n 1, 1) := by decide +kernel
theorem dX9_search_5 : decode cX9_search 5 = .ok (.if_icmp .ne 4, 3) := by decide +kernel
theorem dX9_search_8 : decode cX9_search 8 = .ok (.return_, 1) := by decide +kernel
theorem dX9_search_9 : decode cX9_search 9 = .ok (.aload_n 0, 1) := by decide +kernel
theorem dX9_search_10 : decode cX9_search 10 = .ok (.iload_n 1, 1) := by decide +kernel
theorem dX9_search_11 : decode cX9_search 11 = .ok (.putfield 22, 3) := by decide +kernel
theorem dX9_search_14 : decode cX9_search 14 = .ok (.iconst 0, 1) := by decide +kernel
theorem dX9_search_15 : decode cX9_search 15 = .ok (.istore 5, 2) := by decide +kernel
theorem dX9_search_17 : decode cX9_search 17 = .ok (.iload 5, 2) := by decide +kernel
theorem dX9_search_19 : decode cX9_search 19 = .ok (.aload_n 0, 1) := by decide +kernel
theorem dX9_search_20 : decode cX9_search 20 = .ok (.getfield 18, 3) := by decide +kernel
theorem dX9_search_23 : decode cX9_search 23 = .ok (.arraylength, 1) := by decide +kernel
theorem dX9_search_24 : decode cX9_search 24 = .ok (.if_icmp .ge 17, 3) := by decide +kernel
theorem dX9_search_27 : decode cX9_search 27 = .ok (.aload_n 0, 1) := by decide +kernel
theorem dX9_search_28 : decode cX9_search 28 = .ok (.getfield 18, 3) := by decide +kernel
theorem dX9_search_31 : decode cX9_search 31 = .ok (.iload 5, 2) := by decide +kernel
theorem dX9_search_33 : decode cX9_search 33 = .ok (.iconst 0, 1) := by decide +kernel
theorem dX9_search_34 : decode cX9_search 34 = .ok (.bastore, 1) := by decide +kernel
theorem dX9_search_35 : decode cX9_search 35 = .ok (.iinc 5 1, 3) := by decide +kernel
theorem dX9_search_38 : decode cX9_search 38 = .ok (.goto (-21), 3) := by decide +kernel
theorem dX9_search_41 : decode cX9_search 41 = .ok (.aload_n 0, 1) := by decide +kernel
theorem dX9_search_42 : decode cX9_search 42 = .ok (.iload_n 1, 1) := by decide +kernel
theorem dX9_search_43 : decode cX9_search 43 = .ok (.invokevirtual 29, 3) := by decide +kernel
theorem dX9_search_46 : decode cX9_search 46 = .ok (.istore 5, 2) := by decide +kernel
theorem dX9_search_48 : decode cX9_search 48 = .ok (.aload_n 3, 1) := by decide +kernel
theorem dX9_search_49 : decode cX9_search 49 = .ok (.aload_n 2, 1) := by decide +kernel
theorem dX9_search_50 : decode cX9_search 50 = .ok (.invokevirtual 33, 3) := by decide +kernel
theorem dX9_search_53 : decode cX9_search 53 = .ok (.iconst 1, 1) := by decide +kernel
theorem dX9_search_54 : decode cX9_search 54 = .ok (.istore 6, 2) := by decide +kernel
theorem dX9_search_56 : decode cX9_search 56 = .ok (.iconst 0, 1) := by decide +kernel
theorem dX9_search_57 : decode cX9_search 57 = .ok (.istore 7, 2) := by decide +kernel
theorem dX9_search_59 : decode cX9_search 59 = .ok (.iload 6, 2) := by decide +kernel
theorem dX9_search_61 : decode cX9_search 61 = .ok (.ifCond .eq 91, 3) := by decide +kernel
theorem dX9_search_64 : decode cX9_search 64 = .ok (.iload 7, 2) := by decide +kernel
theorem dX9_search_66 : decode cX9_search 66 = .ok (.iload 5, 2) := by decide +kernel
theorem dX9_search_68 : decode cX9_search 68 = .ok (.if_icmp .gt 84, 3) := by decide +kernel
theorem dX9_search_71 : decode cX9_search 71 = .ok (.iconst 0, 1) := by decide +kernel
theorem dX9_search_72 : decode cX9_search 72 = .ok (.istore 8, 2) := by decide +kernel
theorem dX9_search_74 : decode cX9_search 74 = .ok (.iload 8, 2) := by decide +kernel
theorem dX9_search_76 : decode cX9_search 76 = .ok (.aload_n 2, 1) := by decide +kernel
theorem dX9_search_77 : decode cX9_search 77 = .ok (.getfield 50, 3) := by decide +kernel
theorem dX9_search_80 : decode cX9_search 80 = .ok (.if_icmp .ge 38, 3) := by decide +kernel
theorem dX9_search_83 : decode cX9_search 83 = .ok (.aload 4, 2) := by decide +kernel
theorem dX9_search_85 : decode cX9_search 85 = .ok (.aload_n 3, 1) := by decide +kernel
theorem dX9_search_86 : decode cX9_search 86 = .ok (.invokevirtual 55, 3) := by decide +kernel
theorem dX9_search_89 : decode cX9_search 89 = .ok (.aload_n 0, 1) := by decide +kernel
theorem dX9_search_90 : decode cX9_search 90 = .ok (.getfield 18, 3) := by decide +kernel
theorem dX9_search_93 : decode cX9_search 93 = .ok (.iload 8, 2) := by decide +kernel
theorem dX9_search_95 : decode cX9_search 95 = .ok (.bipush 100, 2) := by decide +kernel
theorem dX9_search_97 : decode cX9_search 97 = .ok (.imul, 1) := by decide +kernel
theorem dX9_search_98 : decode cX9_search 98 = .ok (.iload 7, 2) := by decide +kernel
theorem dX9_search_100 : decode cX9_search 100 = .ok (.iadd, 1) := by decide +kernel
theorem dX9_search_101 : decode cX9_search 101 = .ok (.aload_n 0, 1) := by decide +kernel
theorem dX9_search_102 : decode cX9_search 102 = .ok (.iload 8, 2) := by decide +kernel
theorem dX9_search_104 : decode cX9_search 104 = .ok (.iload_n 1, 1) := by decide +kernel
theorem dX9_search_105 : decode cX9_search 105 = .ok (.aload_n 2, 1) := by decide +kernel
theorem dX9_search_106 : decode cX9_search 106 = .ok (.aload 4, 2) := by decide +kernel
theorem dX9_search_108 : decode cX9_search 108 = .ok (.invokevirtual 59, 3) := by decide +kernel
theorem dX9_search_111 : decode cX9_search 111 = .ok (.bastore, 1) := by decide +kernel
theorem dX9_search_112 : decode cX9_search 112 = .ok (.iinc 8 1, 3) := by decide +kernel
theorem dX9_search_115 : decode cX9_search 115 = .ok (.goto (-41), 3) := by decide +kernel
theorem dX9_search_118 : decode cX9_search 118 = .ok (.aload_n 3, 1) := by decide +kernel
theorem dX9_search_119 : decode cX9_search 119 = .ok (.aload_n 2, 1) := by decide +kernel
theorem dX9_search_120 : decode cX9_search 120 = .ok (.iconst (-1), 1) := by decide +kernel
theorem dX9_search_121 : decode cX9_search 121 = .ok (.invokevirtual 39, 3) := by decide +kernel
theorem dX9_search_124 : decode cX9_search 124 = .ok (.aload_n 0, 1) := by decide +kernel
theorem dX9_search_125 : decode cX9_search 125 = .ok (.iload_n 1, 1) := by decide +kernel
theorem dX9_search_126 : decode cX9_search 126 = .ok (.iload 7, 2) := by decide +kernel
theorem dX9_search_128 : decode cX9_search 128 = .ok (.aload_n 3, 1) := by decide +kernel
theorem dX9_search_129 : decode cX9_search 129 = .ok (.getfield 43, 3) := by decide +kernel
theorem dX9_search_132 : decode cX9_search 132 = .ok (.invokevirtual 46, 3) := by decide +kernel
theorem dX9_search_135 : decode cX9_search 135 = .ok (.iconst (-1), 1) := by decide +kernel
theorem dX9_search_136 : decode cX9_search 136 = .ok (.if_icmp .ne 7, 3) := by decide +kernel
theorem dX9_search_139 : decode cX9_search 139 = .ok (.iconst 1, 1) := by decide +kernel
theorem dX9_search_140 : decode cX9_search 140 = .ok (.goto 4, 3) := by decide +kernel
theorem dX9_search_143 : decode cX9_search 143 = .ok (.iconst 0, 1) := by decide +kernel
theorem dX9_search_144 : decode cX9_search 144 = .ok (.istore 6, 2) := by decide +kernel
theorem dX9_search_146 : decode cX9_search 146 = .ok (.iinc 7 1, 3) := by decide +kernel
theorem dX9_search_149 : decode cX9_search 149 = .ok (.goto (-90), 3) := by decide +kernel
theorem dX9_search_152 : decode cX9_search 152 = .ok (.return_, 1) := by decide +kernel
theorem dX9_fitsWithout_0 : decode cX9_fitsWithout 0 = .ok (.aload_n 0, 1) := by decide +kernel
theorem dX9_fitsWithout_1 : decode cX9_fitsWithout 1 = .ok (.iload_n 2, 1) := by decide +kernel
theorem dX9_fitsWithout_2 : decode cX9_fitsWithout 2 = .ok (.invokevirtual 29, 3) := by decide +kernel
theorem dX9_fitsWithout_5 : decode cX9_fitsWithout 5 = .ok (.istore 5, 2) := by decide +kernel
theorem dX9_fitsWithout_7 : decode cX9_fitsWithout 7 = .ok (.iload_n 1, 1) := by decide +kernel
theorem dX9_fitsWithout_8 : decode cX9_fitsWithout 8 = .ok (.istore 6, 2) := by decide +kernel
theorem dX9_fitsWithout_10 : decode cX9_fitsWithout 10 = .ok (.aload 4, 2) := by decide +kernel
theorem dX9_fitsWithout_12 : decode cX9_fitsWithout 12 = .ok (.getfield 63, 3) := by decide +kernel
theorem dX9_fitsWithout_15 : decode cX9_fitsWithout 15 = .ok (.istore 7, 2) := by decide +kernel
theorem dX9_fitsWithout_17 : decode cX9_fitsWithout 17 = .ok (.iload 7, 2) := by decide +kernel
theorem dX9_fitsWithout_19 : decode cX9_fitsWithout 19 = .ok (.iload 5, 2) := by decide +kernel
theorem dX9_fitsWithout_21 : decode cX9_fitsWithout 21 = .ok (.if_icmp .gt 38, 3) := by decide +kernel
theorem dX9_fitsWithout_24 : decode cX9_fitsWithout 24 = .ok (.aload 4, 2) := by decide +kernel
theorem dX9_fitsWithout_26 : decode cX9_fitsWithout 26 = .ok (.aload_n 3, 1) := by decide +kernel
theorem dX9_fitsWithout_27 : decode cX9_fitsWithout 27 = .ok (.iload 6, 2) := by decide +kernel
theorem dX9_fitsWithout_29 : decode cX9_fitsWithout 29 = .ok (.invokevirtual 39, 3) := by decide +kernel
theorem dX9_fitsWithout_32 : decode cX9_fitsWithout 32 = .ok (.iconst (-1), 1) := by decide +kernel
theorem dX9_fitsWithout_33 : decode cX9_fitsWithout 33 = .ok (.istore 6, 2) := by decide +kernel
theorem dX9_fitsWithout_35 : decode cX9_fitsWithout 35 = .ok (.aload_n 0, 1) := by decide +kernel
theorem dX9_fitsWithout_36 : decode cX9_fitsWithout 36 = .ok (.iload_n 2, 1) := by decide +kernel
theorem dX9_fitsWithout_37 : decode cX9_fitsWithout 37 = .ok (.iload 7, 2) := by decide +kernel
theorem dX9_fitsWithout_39 : decode cX9_fitsWithout 39 = .ok (.aload 4, 2) := by decide +kernel
theorem dX9_fitsWithout_41 : decode cX9_fitsWithout 41 = .ok (.getfield 43, 3) := by decide +kernel
theorem dX9_fitsWithout_44 : decode cX9_fitsWithout 44 = .ok (.invokevirtual 46, 3) := by decide +kernel
theorem dX9_fitsWithout_47 : decode cX9_fitsWithout 47 = .ok (.iconst (-1), 1) := by decide +kernel
theorem dX9_fitsWithout_48 : decode cX9_fitsWithout 48 = .ok (.if_icmp .eq 5, 3) := by decide +kernel
theorem dX9_fitsWithout_51 : decode cX9_fitsWithout 51 = .ok (.iconst 0, 1) := by decide +kernel
theorem dX9_fitsWithout_52 : decode cX9_fitsWithout 52 = .ok (.ireturn, 1) := by decide +kernel
theorem dX9_fitsWithout_53 : decode cX9_fitsWithout 53 = .ok (.iinc 7 1, 3) := by decide +kernel
theorem dX9_fitsWithout_56 : decode cX9_fitsWithout 56 = .ok (.goto (-39), 3) := by decide +kernel
theorem dX9_fitsWithout_59 : decode cX9_fitsWithout 59 = .ok (.iconst 1, 1) := by decide +kernel
theorem dX9_fitsWithout_60 : decode cX9_fitsWithout 60 = .ok (.ireturn, 1) := by decide +kernel
theorem dX9_foundInAll_0 : decode cX9_foundInAll 0 = .ok (.iconst 0, 1) := by decide +kernel
theorem dX9_foundInAll_1 : decode cX9_foundInAll 1 = .ok (.istore_n 1, 1) := by decide +kernel
theorem dX9_foundInAll_2 : decode cX9_foundInAll 2 = .ok (.iconst 0, 1) := by decide +kernel
theorem dX9_foundInAll_3 : decode cX9_foundInAll 3 = .ok (.istore_n 2, 1) := by decide +kernel
theorem dX9_foundInAll_4 : decode cX9_foundInAll 4 = .ok (.iload_n 2, 1) := by decide +kernel
theorem dX9_foundInAll_5 : decode cX9_foundInAll 5 = .ok (.aload_n 0, 1) := by decide +kernel
theorem dX9_foundInAll_6 : decode cX9_foundInAll 6 = .ok (.getfield 18, 3) := by decide +kernel
theorem dX9_foundInAll_9 : decode cX9_foundInAll 9 = .ok (.arraylength, 1) := by decide +kernel
theorem dX9_foundInAll_10 : decode cX9_foundInAll 10 = .ok (.if_icmp .ge 26, 3) := by decide +kernel
theorem dX9_foundInAll_13 : decode cX9_foundInAll 13 = .ok (.iload_n 1, 1) := by decide +kernel
theorem dX9_foundInAll_14 : decode cX9_foundInAll 14 = .ok (.aload_n 0, 1) := by decide +kernel
theorem dX9_foundInAll_15 : decode cX9_foundInAll 15 = .ok (.getfield 18, 3) := by decide +kernel
theorem dX9_foundInAll_18 : decode cX9_foundInAll 18 = .ok (.iload_n 2, 1) := by decide +kernel
theorem dX9_foundInAll_19 : decode cX9_foundInAll 19 = .ok (.baload, 1) := by decide +kernel
theorem dX9_foundInAll_20 : decode cX9_foundInAll 20 = .ok (.ifCond .eq 7, 3) := by decide +kernel
theorem dX9_foundInAll_23 : decode cX9_foundInAll 23 = .ok (.iconst 1, 1) := by decide +kernel
theorem dX9_foundInAll_24 : decode cX9_foundInAll 24 = .ok (.goto 4, 3) := by decide +kernel
theorem dX9_foundInAll_27 : decode cX9_foundInAll 27 = .ok (.iconst 0, 1) := by decide +kernel
theorem dX9_foundInAll_28 : decode cX9_foundInAll 28 = .ok (.iadd, 1) := by decide +kernel
theorem dX9_foundInAll_29 : decode cX9_foundInAll 29 = .ok (.istore_n 1, 1) := by decide +kernel
theorem dX9_foundInAll_30 : decode cX9_foundInAll 30 = .ok (.iinc 2 1, 3) := by decide +kernel
theorem dX9_foundInAll_33 : decode cX9_foundInAll 33 = .ok (.goto (-29), 3) := by decide +kernel
theorem dX9_foundInAll_36 : decode cX9_foundInAll 36 = .ok (.iload_n 1, 1) := by decide +kernel
theorem dX9_foundInAll_37 : decode cX9_foundInAll 37 = .ok (.ireturn, 1) := by decide +kernel
theorem dX9_foundAt_0 : decode cX9_foundAt 0 = .ok (.iconst 0, 1) := by decide +kernel
theorem dX9_foundAt_1 : decode cX9_foundAt 1 = .ok (.istore_n 2, 1) := by decide +kernel
theorem dX9_foundAt_2 : decode cX9_foundAt 2 = .ok (.iconst 0, 1) := by decide +kernel
theorem dX9_foundAt_3 : decode cX9_foundAt 3 = .ok (.istore_n 3, 1) := by decide +kernel
theorem dX9_foundAt_4 : decode cX9_foundAt 4 = .ok (.iload_n 3, 1) := by decide +kernel
theorem dX9_foundAt_5 : decode cX9_foundAt 5 = .ok (.aload_n 0, 1) := by decide +kernel
theorem dX9_foundAt_6 : decode cX9_foundAt 6 = .ok (.getfield 18, 3) := by decide +kernel
theorem dX9_foundAt_9 : decode cX9_foundAt 9 = .ok (.arraylength, 1) := by decide +kernel
theorem dX9_foundAt_10 : decode cX9_foundAt 10 = .ok (.if_icmp .ge 28, 3) := by decide +kernel
theorem dX9_foundAt_13 : decode cX9_foundAt 13 = .ok (.aload_n 0, 1) := by decide +kernel
theorem dX9_foundAt_14 : decode cX9_foundAt 14 = .ok (.getfield 18, 3) := by decide +kernel
theorem dX9_foundAt_17 : decode cX9_foundAt 17 = .ok (.iload_n 3, 1) := by decide +kernel
theorem dX9_foundAt_18 : decode cX9_foundAt 18 = .ok (.baload, 1) := by decide +kernel
theorem dX9_foundAt_19 : decode cX9_foundAt 19 = .ok (.ifCond .eq 13, 3) := by decide +kernel
theorem dX9_foundAt_22 : decode cX9_foundAt 22 = .ok (.iload_n 2, 1) := by decide +kernel
theorem dX9_foundAt_23 : decode cX9_foundAt 23 = .ok (.iload_n 1, 1) := by decide +kernel
theorem dX9_foundAt_24 : decode cX9_foundAt 24 = .ok (.if_icmp .ne 5, 3) := by decide +kernel
theorem dX9_foundAt_27 : decode cX9_foundAt 27 = .ok (.iload_n 3, 1) := by decide +kernel
theorem dX9_foundAt_28 : decode cX9_foundAt 28 = .ok (.ireturn, 1) := by decide +kernel
theorem dX9_foundAt_29 : decode cX9_foundAt 29 = .ok (.iinc 2 1, 3) := by decide +kernel
theorem dX9_foundAt_32 : decode cX9_foundAt 32 = .ok (.iinc 3 1, 3) := by decide +kernel
theorem dX9_foundAt_35 : decode cX9_foundAt 35 = .ok (.goto (-31), 3) := by decide +kernel
theorem dX9_foundAt_38 : decode cX9_foundAt 38 = .ok (.iconst (-1), 1) := by decide +kernel
theorem dX9_foundAt_39 : decode cX9_foundAt 39 = .ok (.ireturn, 1) := by decide +kernel
theorem dX9_firstOdd_0 : decode cX9_firstOdd 0 = .ok (.iconst 0, 1) := by decide +kernel
theorem dX9_firstOdd_1 : decode cX9_firstOdd 1 = .ok (.istore 4, 2) := by decide +kernel
theorem dX9_firstOdd_3 : decode cX9_firstOdd 3 = .ok (.iload 4, 2) := by decide +kernel
theorem dX9_firstOdd_5 : decode cX9_firstOdd 5 = .ok (.iload_n 1, 1) := by decide +kernel
theorem dX9_firstOdd_6 : decode cX9_firstOdd 6 = .ok (.if_icmp .ge 34, 3) := by decide +kernel
theorem dX9_firstOdd_9 : decode cX9_firstOdd 9 = .ok (.aload_n 0, 1) := by decide +kernel
theorem dX9_firstOdd_10 : decode cX9_firstOdd 10 = .ok (.getfield 9, 3) := by decide +kernel
theorem dX9_firstOdd_13 : decode cX9_firstOdd 13 = .ok (.iload 4, 2) := by decide +kernel
theorem dX9_firstOdd_15 : decode cX9_firstOdd 15 = .ok (.iaload, 1) := by decide +kernel
theorem dX9_firstOdd_16 : decode cX9_firstOdd 16 = .ok (.iload_n 2, 1) := by decide +kernel
theorem dX9_firstOdd_17 : decode cX9_firstOdd 17 = .ok (.if_icmp .ne 17, 3) := by decide +kernel
theorem dX9_firstOdd_20 : decode cX9_firstOdd 20 = .ok (.aload_n 0, 1) := by decide +kernel
theorem dX9_firstOdd_21 : decode cX9_firstOdd 21 = .ok (.getfield 15, 3) := by decide +kernel
theorem dX9_firstOdd_24 : decode cX9_firstOdd 24 = .ok (.iload 4, 2) := by decide +kernel
theorem dX9_firstOdd_26 : decode cX9_firstOdd 26 = .ok (.iaload, 1) := by decide +kernel
theorem dX9_firstOdd_27 : decode cX9_firstOdd 27 = .ok (.iload_n 3, 1) := by decide +kernel
theorem dX9_firstOdd_28 : decode cX9_firstOdd 28 = .ok (.if_icmp .eq 6, 3) := by decide +kernel
theorem dX9_firstOdd_31 : decode cX9_firstOdd 31 = .ok (.iload 4, 2) := by decide +kernel
theorem dX9_firstOdd_33 : decode cX9_firstOdd 33 = .ok (.ireturn, 1) := by decide +kernel
theorem dX9_firstOdd_34 : decode cX9_firstOdd 34 = .ok (.iinc 4 1, 3) := by decide +kernel
theorem dX9_firstOdd_37 : decode cX9_firstOdd 37 = .ok (.goto (-34), 3) := by decide +kernel
theorem dX9_firstOdd_40 : decode cX9_firstOdd 40 = .ok (.iconst (-1), 1) := by decide +kernel
theorem dX9_firstOdd_41 : decode cX9_firstOdd 41 = .ok (.ireturn, 1) := by decide +kernel
theorem dX9_lastWeek_0 : decode cX9_lastWeek 0 = .ok (.iconst (-1), 1) := by decide +kernel
theorem dX9_lastWeek_1 : decode cX9_lastWeek 1 = .ok (.istore_n 2, 1) := by decide +kernel
theorem dX9_lastWeek_2 : decode cX9_lastWeek 2 = .ok (.iconst 0, 1) := by decide +kernel
theorem dX9_lastWeek_3 : decode cX9_lastWeek 3 = .ok (.istore_n 3, 1) := by decide +kernel
theorem dX9_lastWeek_4 : decode cX9_lastWeek 4 = .ok (.iload_n 3, 1) := by decide +kernel
theorem dX9_lastWeek_5 : decode cX9_lastWeek 5 = .ok (.iload_n 1, 1) := by decide +kernel
theorem dX9_lastWeek_6 : decode cX9_lastWeek 6 = .ok (.if_icmp .ge 20, 3) := by decide +kernel
theorem dX9_lastWeek_9 : decode cX9_lastWeek 9 = .ok (.iload_n 2, 1) := by decide +kernel
theorem dX9_lastWeek_10 : decode cX9_lastWeek 10 = .ok (.aload_n 0, 1) := by decide +kernel
theorem dX9_lastWeek_11 : decode cX9_lastWeek 11 = .ok (.getfield 9, 3) := by decide +kernel
theorem dX9_lastWeek_14 : decode cX9_lastWeek 14 = .ok (.iload_n 3, 1) := by decide +kernel
theorem dX9_lastWeek_15 : decode cX9_lastWeek 15 = .ok (.iaload, 1) := by decide +kernel
theorem dX9_lastWeek_16 : decode cX9_lastWeek 16 = .ok (.invokestatic 66, 3) := by decide +kernel
theorem dX9_lastWeek_19 : decode cX9_lastWeek 19 = .ok (.istore_n 2, 1) := by decide +kernel
theorem dX9_lastWeek_20 : decode cX9_lastWeek 20 = .ok (.iinc 3 1, 3) := by decide +kernel
theorem dX9_lastWeek_23 : decode cX9_lastWeek 23 = .ok (.goto (-19), 3) := by decide +kernel
theorem dX9_lastWeek_26 : decode cX9_lastWeek 26 = .ok (.iload_n 2, 1) := by decide +kernel
theorem dX9_lastWeek_27 : decode cX9_lastWeek 27 = .ok (.ireturn, 1) := by decide +kernel
theorem dX10_init_0 : decode cX10_init 0 = .ok (.aload_n 0, 1) := by decide +kernel
theorem dX10_init_1 : decode cX10_init 1 = .ok (.invokespecial 3, 3) := by decide +kernel
theorem dX10_init_4 : decode cX10_init 4 = .ok (.aload_n 0, 1) := by decide +kernel
theorem dX10_init_5 : decode cX10_init 5 = .ok (.bipush 36, 2) := by decide +kernel
theorem dX10_init_7 : decode cX10_init 7 = .ok (.newarray .int, 2) := by decide +kernel
theorem dX10_init_9 : decode cX10_init 9 = .ok (.putfield 9, 3) := by decide +kernel
theorem dX10_init_12 : decode cX10_init 12 = .ok (.aload_n 0, 1) := by decide +kernel
theorem dX10_init_13 : decode cX10_init 13 = .ok (.bipush 36, 2) := by decide +kernel
theorem dX10_init_15 : decode cX10_init 15 = .ok (.newarray .int, 2) := by decide +kernel
theorem dX10_init_17 : decode cX10_init 17 = .ok (.putfield 15, 3) := by decide +kernel
theorem dX10_init_20 : decode cX10_init 20 = .ok (.aload_n 0, 1) := by decide +kernel
theorem dX10_init_21 : decode cX10_init 21 = .ok (.bipush 36, 2) := by decide +kernel
theorem dX10_init_23 : decode cX10_init 23 = .ok (.newarray .int, 2) := by decide +kernel
theorem dX10_init_25 : decode cX10_init 25 = .ok (.putfield 18, 3) := by decide +kernel
theorem dX10_init_28 : decode cX10_init 28 = .ok (.aload_n 0, 1) := by decide +kernel
theorem dX10_init_29 : decode cX10_init 29 = .ok (.bipush 6, 2) := by decide +kernel
theorem dX10_init_31 : decode cX10_init 31 = .ok (.newarray .int, 2) := by decide +kernel
theorem dX10_init_33 : decode cX10_init 33 = .ok (.putfield 21, 3) := by decide +kernel
theorem dX10_init_36 : decode cX10_init 36 = .ok (.aload_n 0, 1) := by decide +kernel
theorem dX10_init_37 : decode cX10_init 37 = .ok (.iconst 0, 1) := by decide +kernel
theorem dX10_init_38 : decode cX10_init 38 = .ok (.putfield 24, 3) := by decide +kernel
theorem dX10_init_41 : decode cX10_init 41 = .ok (.aload_n 0, 1) := by decide +kernel
theorem dX10_init_42 : decode cX10_init 42 = .ok (.iconst 0, 1) := by decide +kernel
theorem dX10_init_43 : decode cX10_init 43 = .ok (.putfield 28, 3) := by decide +kernel
theorem dX10_init_46 : decode cX10_init 46 = .ok (.return_, 1) := by decide +kernel
theorem dX10_clear_0 : decode cX10_clear 0 = .ok (.aload_n 0, 1) := by decide +kernel
theorem dX10_clear_1 : decode cX10_clear 1 = .ok (.iconst 0, 1) := by decide +kernel
theorem dX10_clear_2 : decode cX10_clear 2 = .ok (.putfield 28, 3) := by decide +kernel
theorem dX10_clear_5 : decode cX10_clear 5 = .ok (.aload_n 0, 1) := by decide +kernel
theorem dX10_clear_6 : decode cX10_clear 6 = .ok (.iconst 0, 1) := by decide +kernel
theorem dX10_clear_7 : decode cX10_clear 7 = .ok (.putfield 24, 3) := by decide +kernel
theorem dX10_clear_10 : decode cX10_clear 10 = .ok (.return_, 1) := by decide +kernel
theorem dX10_open_0 : decode cX10_open 0 = .ok (.aload_n 0, 1) := by decide +kernel
theorem dX10_open_1 : decode cX10_open 1 = .ok (.getfield 28, 3) := by decide +kernel
theorem dX10_open_4 : decode cX10_open 4 = .ok (.bipush 6, 2) := by decide +kernel
theorem dX10_open_6 : decode cX10_open 6 = .ok (.if_icmp .ge 26, 3) := by decide +kernel
theorem dX10_open_9 : decode cX10_open 9 = .ok (.aload_n 0, 1) := by decide +kernel
theorem dX10_open_10 : decode cX10_open 10 = .ok (.getfield 21, 3) := by decide +kernel
theorem dX10_open_13 : decode cX10_open 13 = .ok (.aload_n 0, 1) := by decide +kernel
theorem dX10_open_14 : decode cX10_open 14 = .ok (.getfield 28, 3) := by decide +kernel
theorem dX10_open_17 : decode cX10_open 17 = .ok (.aload_n 0, 1) := by decide +kernel
theorem dX10_open_18 : decode cX10_open 18 = .ok (.getfield 24, 3) := by decide +kernel
theorem dX10_open_21 : decode cX10_open 21 = .ok (.iastore, 1) := by decide +kernel
theorem dX10_open_22 : decode cX10_open 22 = .ok (.aload_n 0, 1) := by decide +kernel
theorem dX10_open_23 : decode cX10_open 23 = .ok (.dup, 1) := by decide +kernel
theorem dX10_open_24 : decode cX10_open 24 = .ok (.getfield 28, 3) := by decide +kernel
theorem dX10_open_27 : decode cX10_open 27 = .ok (.iconst 1, 1) := by decide +kernel
theorem dX10_open_28 : decode cX10_open 28 = .ok (.iadd, 1) := by decide +kernel
theorem dX10_open_29 : decode cX10_open 29 = .ok (.putfield 28, 3) := by decide +kernel
theorem dX10_open_32 : decode cX10_open 32 = .ok (.return_, 1) := by decide +kernel
theorem dX10_addTerm_0 : decode cX10_addTerm 0 = .ok (.aload_n 0, 1) := by decide +kernel
theorem dX10_addTerm_1 : decode cX10_addTerm 1 = .ok (.getfield 28, 3) := by decide +kernel
theorem dX10_addTerm_4 : decode cX10_addTerm 4 = .ok (.ifCond .le 70, 3) := by decide +kernel
theorem dX10_addTerm_7 : decode cX10_addTerm 7 = .ok (.aload_n 0, 1) := by decide +kernel
theorem dX10_addTerm_8 : decode cX10_addTerm 8 = .ok (.getfield 24, 3) := by decide +kernel
theorem dX10_addTerm_11 : decode cX10_addTerm 11 = .ok (.aload_n 0, 1) := by decide +kernel
theorem dX10_addTerm_12 : decode cX10_addTerm 12 = .ok (.getfield 9, 3) := by decide +kernel
theorem dX10_addTerm_15 : decode cX10_addTerm 15 = .ok (.arraylength, 1) := by decide +kernel
theorem dX10_addTerm_16 : decode cX10_addTerm 16 = .ok (.if_icmp .ge 58, 3) := by decide +kernel
theorem dX10_addTerm_19 : decode cX10_addTerm 19 = .ok (.aload_n 0, 1) := by decide +kernel
theorem dX10_addTerm_20 : decode cX10_addTerm 20 = .ok (.getfield 9, 3) := by decide +kernel
theorem dX10_addTerm_23 : decode cX10_addTerm 23 = .ok (.aload_n 0, 1) := by decide +kernel
theorem dX10_addTerm_24 : decode cX10_addTerm 24 = .ok (.getfield 24, 3) := by decide +kernel
theorem dX10_addTerm_27 : decode cX10_addTerm 27 = .ok (.iload_n 1, 1) := by decide +kernel
theorem dX10_addTerm_28 : decode cX10_addTerm 28 = .ok (.iastore, 1) := by decide +kernel
theorem dX10_addTerm_29 : decode cX10_addTerm 29 = .ok (.aload_n 0, 1) := by decide +kernel
theorem dX10_addTerm_30 : decode cX10_addTerm 30 = .ok (.getfield 15, 3) := by decide +kernel
theorem dX10_addTerm_33 : decode cX10_addTerm 33 = .ok (.aload_n 0, 1) := by decide +kernel
theorem dX10_addTerm_34 : decode cX10_addTerm 34 = .ok (.getfield 24, 3) := by decide +kernel
theorem dX10_addTerm_37 : decode cX10_addTerm 37 = .ok (.iload_n 2, 1) := by decide +kernel
theorem dX10_addTerm_38 : decode cX10_addTerm 38 = .ok (.iastore, 1) := by decide +kernel
theorem dX10_addTerm_39 : decode cX10_addTerm 39 = .ok (.aload_n 0, 1) := by decide +kernel
theorem dX10_addTerm_40 : decode cX10_addTerm 40 = .ok (.getfield 18, 3) := by decide +kernel
theorem dX10_addTerm_43 : decode cX10_addTerm 43 = .ok (.aload_n 0, 1) := by decide +kernel
theorem dX10_addTerm_44 : decode cX10_addTerm 44 = .ok (.getfield 24, 3) := by decide +kernel
theorem dX10_addTerm_47 : decode cX10_addTerm 47 = .ok (.iload_n 3, 1) := by decide +kernel
theorem dX10_addTerm_48 : decode cX10_addTerm 48 = .ok (.iastore, 1) := by decide +kernel
theorem dX10_addTerm_49 : decode cX10_addTerm 49 = .ok (.aload_n 0, 1) := by decide +kernel
theorem dX10_addTerm_50 : decode cX10_addTerm 50 = .ok (.dup, 1) := by decide +kernel
theorem dX10_addTerm_51 : decode cX10_addTerm 51 = .ok (.getfield 24, 3) := by decide +kernel
theorem dX10_addTerm_54 : decode cX10_addTerm 54 = .ok (.iconst 1, 1) := by decide +kernel
theorem dX10_addTerm_55 : decode cX10_addTerm 55 = .ok (.iadd, 1) := by decide +kernel
theorem dX10_addTerm_56 : decode cX10_addTerm 56 = .ok (.putfield 24, 3) := by decide +kernel
theorem dX10_addTerm_59 : decode cX10_addTerm 59 = .ok (.aload_n 0, 1) := by decide +kernel
theorem dX10_addTerm_60 : decode cX10_addTerm 60 = .ok (.getfield 21, 3) := by decide +kernel
theorem dX10_addTerm_63 : decode cX10_addTerm 63 = .ok (.aload_n 0, 1) := by decide +kernel
theorem dX10_addTerm_64 : decode cX10_addTerm 64 = .ok (.getfield 28, 3) := by decide +kernel
theorem dX10_addTerm_67 : decode cX10_addTerm 67 = .ok (.iconst 1, 1) := by decide +kernel
theorem dX10_addTerm_68 : decode cX10_addTerm 68 = .ok (.isub, 1) := by decide +kernel
theorem dX10_addTerm_69 : decode cX10_addTerm 69 = .ok (.aload_n 0, 1) := by decide +kernel
theorem dX10_addTerm_70 : decode cX10_addTerm 70 = .ok (.getfield 24, 3) := by decide +kernel
theorem dX10_addTerm_73 : decode cX10_addTerm 73 = .ok (.iastore, 1) := by decide +kernel
theorem dX10_addTerm_74 : decode cX10_addTerm 74 = .ok (.return_, 1) := by decide +kernel
theorem dX10_sum_0 : decode cX10_sum 0 = .ok (.lconst 0, 1) := by decide +kernel
theorem dX10_sum_1 : decode cX10_sum 1 = .ok (.lstore 4, 2) := by decide +kernel
theorem dX10_sum_3 : decode cX10_sum 3 = .ok (.lconst 1, 1) := by decide +kernel
theorem dX10_sum_4 : decode cX10_sum 4 = .ok (.lstore 6, 2) := by decide +kernel
theorem dX10_sum_6 : decode cX10_sum 6 = .ok (.iload_n 1, 1) := by decide +kernel
theorem dX10_sum_7 : decode cX10_sum 7 = .ok (.ifCond .ne 7, 3) := by decide +kernel
theorem dX10_sum_10 : decode cX10_sum 10 = .ok (.iconst 0, 1) := by decide +kernel
theorem dX10_sum_11 : decode cX10_sum 11 = .ok (.goto 11, 3) := by decide +kernel
theorem dX10_sum_14 : decode cX10_sum 14 = .ok (.aload_n 0, 1) := by decide +kernel
theorem dX10_sum_15 : decode cX10_sum 15 = .ok (.getfield 21, 3) := by decide +kernel
theorem dX10_sum_18 : decode cX10_sum 18 = .ok (.iload_n 1, 1) := by decide +kernel
theorem dX10_sum_19 : decode cX10_sum 19 = .ok (.iconst 1, 1) := by decide +kernel
theorem dX10_sum_20 : decode cX10_sum 20 = .ok (.isub, 1) := by decide +kernel
theorem dX10_sum_21 : decode cX10_sum 21 = .ok (.iaload, 1) := by decide +kernel
theorem dX10_sum_22 : decode cX10_sum 22 = .ok (.istore 8, 2) := by decide +kernel
theorem dX10_sum_24 : decode cX10_sum 24 = .ok (.iload 8, 2) := by decide +kernel
theorem dX10_sum_26 : decode cX10_sum 26 = .ok (.aload_n 0, 1) := by decide +kernel
theorem dX10_sum_27 : decode cX10_sum 27 = .ok (.getfield 21, 3) := by decide +kernel
theorem dX10_sum_30 : decode cX10_sum 30 = .ok (.iload_n 1, 1) := by decide +kernel
theorem dX10_sum_31 : decode cX10_sum 31 = .ok (.iaload, 1) := by decide +kernel
theorem dX10_sum_32 : decode cX10_sum 32 = .ok (.if_icmp .ge 87, 3) := by decide +kernel
theorem dX10_sum_35 : decode cX10_sum 35 = .ok (.aload_n 2, 1) := by decide +kernel
theorem dX10_sum_36 : decode cX10_sum 36 = .ok (.aload_n 0, 1) := by decide +kernel
theorem dX10_sum_37 : decode cX10_sum 37 = .ok (.getfield 18, 3) := by decide +kernel
theorem dX10_sum_40 : decode cX10_sum 40 = .ok (.iload 8, 2) := by decide +kernel
theorem dX10_sum_42 : decode cX10_sum 42 = .ok (.iaload, 1) := by decide +kernel
theorem dX10_sum_43 : decode cX10_sum 43 = .ok (.invokevirtual 31, 3) := by decide +kernel
theorem dX10_sum_46 : decode cX10_sum 46 = .ok (.i2l, 1) := by decide +kernel
theorem dX10_sum_47 : decode cX10_sum 47 = .ok (.lstore 9, 2) := by decide +kernel
theorem dX10_sum_49 : decode cX10_sum 49 = .ok (.lload 4, 2) := by decide +kernel
theorem dX10_sum_51 : decode cX10_sum 51 = .ok (.aload_n 0, 1) := by decide +kernel
theorem dX10_sum_52 : decode cX10_sum 52 = .ok (.getfield 15, 3) := by decide +kernel
theorem dX10_sum_55 : decode cX10_sum 55 = .ok (.iload 8, 2) := by decide +kernel
theorem dX10_sum_57 : decode cX10_sum 57 = .ok (.iaload, 1) := by decide +kernel
theorem dX10_sum_58 : decode cX10_sum 58 = .ok (.i2l, 1) := by decide +kernel
theorem dX10_sum_59 : decode cX10_sum 59 = .ok (.lmul, 1) := by decide +kernel
theorem dX10_sum_60 : decode cX10_sum 60 = .ok (.lload 6, 2) := by decide +kernel
theorem dX10_sum_62 : decode cX10_sum 62 = .ok (.aload_n 0, 1) := by decide +kernel
theorem dX10_sum_63 : decode cX10_sum 63 = .ok (.getfield 9, 3) := by decide +kernel
theorem dX10_sum_66 : decode cX10_sum 66 = .ok (.iload 8, 2) := by decide +kernel
theorem dX10_sum_68 : decode cX10_sum 68 = .ok (.iaload, 1) := by decide +kernel
theorem dX10_sum_69 : decode cX10_sum 69 = .ok (.i2l, 1) := by decide +kernel
theorem dX10_sum_70 : decode cX10_sum 70 = .ok (.lmul, 1) := by decide +kernel
theorem dX10_sum_71 : decode cX10_sum 71 = .ok (.lload 9, 2) := by decide +kernel
theorem dX10_sum_73 : decode cX10_sum 73 = .ok (.lmul, 1) := by decide +kernel
theorem dX10_sum_74 : decode cX10_sum 74 = .ok (.ladd, 1) := by decide +kernel
theorem dX10_sum_75 : decode cX10_sum 75 = .ok (.lstore 4, 2) := by decide +kernel
theorem dX10_sum_77 : decode cX10_sum 77 = .ok (.lload 6, 2) := by decide +kernel
theorem dX10_sum_79 : decode cX10_sum 79 = .ok (.aload_n 0, 1) := by decide +kernel
theorem dX10_sum_80 : decode cX10_sum 80 = .ok (.getfield 15, 3) := by decide +kernel
theorem dX10_sum_83 : decode cX10_sum 83 = .ok (.iload 8, 2) := by decide +kernel
theorem dX10_sum_85 : decode cX10_sum 85 = .ok (.iaload, 1) := by decide +kernel
theorem dX10_sum_86 : decode cX10_sum 86 = .ok (.i2l, 1) := by decide +kernel
theorem dX10_sum_87 : decode cX10_sum 87 = .ok (.lmul, 1) := by decide +kernel
theorem dX10_sum_88 : decode cX10_sum 88 = .ok (.lstore 6, 2) := by decide +kernel
theorem dX10_sum_90 : decode cX10_sum 90 = .ok (.lload 4, 2) := by decide +kernel
theorem dX10_sum_92 : decode cX10_sum 92 = .ok (.lload 6, 2) := by decide +kernel
theorem dX10_sum_94 : decode cX10_sum 94 = .ok (.invokestatic 37, 3) := by decide +kernel
theorem dX10_sum_97 : decode cX10_sum 97 = .ok (.lstore 11, 2) := by decide +kernel
theorem dX10_sum_99 : decode cX10_sum 99 = .ok (.lload 4, 2) := by decide +kernel
theorem dX10_sum_101 : decode cX10_sum 101 = .ok (.lload 11, 2) := by decide +kernel
theorem dX10_sum_103 : decode cX10_sum 103 = .ok (.ldiv, 1) := by decide +kernel
theorem dX10_sum_104 : decode cX10_sum 104 = .ok (.lstore 4, 2) := by decide +kernel
theorem dX10_sum_106 : decode cX10_sum 106 = .ok (.lload 6, 2) := by decide +kernel
theorem dX10_sum_108 : decode cX10_sum 108 = .ok (.lload 11, 2) := by decide +kernel
theorem dX10_sum_110 : decode cX10_sum 110 = .ok (.ldiv, 1) := by decide +kernel
theorem dX10_sum_111 : decode cX10_sum 111 = .ok (.lstore 6, 2) := by decide +kernel
theorem dX10_sum_113 : decode cX10_sum 113 = .ok (.iinc 8 1, 3) := by decide +kernel
theorem dX10_sum_116 : decode cX10_sum 116 = .ok (.goto (-92), 3) := by decide +kernel
theorem dX10_sum_119 : decode cX10_sum 119 = .ok (.iload_n 3, 1) := by decide +kernel
theorem dX10_sum_120 : decode cX10_sum 120 = .ok (.ifCond .eq 8, 3) := by decide +kernel
theorem dX10_sum_123 : decode cX10_sum 123 = .ok (.lload 6, 2) := by decide +kernel
theorem dX10_sum_125 : decode cX10_sum 125 = .ok (.goto 5, 3) := by decide +kernel
theorem dX10_sum_128 : decode cX10_sum 128 = .ok (.lload 4, 2) := by decide +kernel
theorem dX10_sum_130 : decode cX10_sum 130 = .ok (.lreturn, 1) := by decide +kernel
theorem dX11_init_0 : decode cX11_init 0 = .ok (.aload_n 0, 1) := by decide +kernel
theorem dX11_init_1 : decode cX11_init 1 = .ok (.invokespecial 3, 3) := by decide +kernel
theorem dX11_init_4 : decode cX11_init 4 = .ok (.aload_n 0, 1) := by decide +kernel
theorem dX11_init_5 : decode cX11_init 5 = .ok (.new 9, 3) := by decide +kernel
theorem dX11_init_8 : decode cX11_init 8 = .ok (.dup, 1) := by decide +kernel
theorem dX11_init_9 : decode cX11_init 9 = .ok (.invokespecial 11, 3) := by decide +kernel
theorem dX11_init_12 : decode cX11_init 12 = .ok (.putfield 12, 3) := by decide +kernel
theorem dX11_init_15 : decode cX11_init 15 = .ok (.aload_n 0, 1) := by decide +kernel
theorem dX11_init_16 : decode cX11_init 16 = .ok (.new 16, 3) := by decide +kernel
theorem dX11_init_19 : decode cX11_init 19 = .ok (.dup, 1) := by decide +kernel
theorem dX11_init_20 : decode cX11_init 20 = .ok (.invokespecial 18, 3) := by decide +kernel
theorem dX11_init_23 : decode cX11_init 23 = .ok (.putfield 19, 3) := by decide +kernel
theorem dX11_init_26 : decode cX11_init 26 = .ok (.aload_n 0, 1) := by decide +kernel
theorem dX11_init_27 : decode cX11_init 27 = .ok (.new 23, 3) := by decide +kernel
theorem dX11_init_30 : decode cX11_init 30 = .ok (.dup, 1) := by decide +kernel
theorem dX11_init_31 : decode cX11_init 31 = .ok (.invokespecial 25, 3) := by decide +kernel
theorem dX11_init_34 : decode cX11_init 34 = .ok (.putfield 26, 3) := by decide +kernel
theorem dX11_init_37 : decode cX11_init 37 = .ok (.aload_n 0, 1) := by decide +kernel
theorem dX11_init_38 : decode cX11_init 38 = .ok (.new 30, 3) := by decide +kernel
theorem dX11_init_41 : decode cX11_init 41 = .ok (.dup, 1) := by decide +kernel
theorem dX11_init_42 : decode cX11_init 42 = .ok (.invokespecial 32, 3) := by decide +kernel
theorem dX11_init_45 : decode cX11_init 45 = .ok (.putfield 33, 3) := by decide +kernel
theorem dX11_init_48 : decode cX11_init 48 = .ok (.aload_n 0, 1) := by decide +kernel
theorem dX11_init_49 : decode cX11_init 49 = .ok (.new 37, 3) := by decide +kernel
theorem dX11_init_52 : decode cX11_init 52 = .ok (.dup, 1) := by decide +kernel
theorem dX11_init_53 : decode cX11_init 53 = .ok (.invokespecial 39, 3) := by decide +kernel
theorem dX11_init_56 : decode cX11_init 56 = .ok (.putfield 40, 3) := by decide +kernel
theorem dX11_init_59 : decode cX11_init 59 = .ok (.aload_n 0, 1) := by decide +kernel
theorem dX11_init_60 : decode cX11_init 60 = .ok (.new 44, 3) := by decide +kernel
theorem dX11_init_63 : decode cX11_init 63 = .ok (.dup, 1) := by decide +kernel
theorem dX11_init_64 : decode cX11_init 64 = .ok (.invokespecial 46, 3) := by decide +kernel
theorem dX11_init_67 : decode cX11_init 67 = .ok (.putfield 47, 3) := by decide +kernel
theorem dX11_init_70 : decode cX11_init 70 = .ok (.aload_n 0, 1) := by decide +kernel
theorem dX11_init_71 : decode cX11_init 71 = .ok (.new 51, 3) := by decide +kernel
theorem dX11_init_74 : decode cX11_init 74 = .ok (.dup, 1) := by decide +kernel
theorem dX11_init_75 : decode cX11_init 75 = .ok (.invokespecial 53, 3) := by decide +kernel
theorem dX11_init_78 : decode cX11_init 78 = .ok (.putfield 54, 3) := by decide +kernel
theorem dX11_init_81 : decode cX11_init 81 = .ok (.aload_n 0, 1) := by decide +kernel
theorem dX11_init_82 : decode cX11_init 82 = .ok (.new 51, 3) := by decide +kernel
theorem dX11_init_85 : decode cX11_init 85 = .ok (.dup, 1) := by decide +kernel
theorem dX11_init_86 : decode cX11_init 86 = .ok (.invokespecial 53, 3) := by decide +kernel
theorem dX11_init_89 : decode cX11_init 89 = .ok (.putfield 58, 3) := by decide +kernel
theorem dX11_init_92 : decode cX11_init 92 = .ok (.aload_n 0, 1) := by decide +kernel
theorem dX11_init_93 : decode cX11_init 93 = .ok (.new 51, 3) := by decide +kernel
theorem dX11_init_96 : decode cX11_init 96 = .ok (.dup, 1) := by decide +kernel
theorem dX11_init_97 : decode cX11_init 97 = .ok (.invokespecial 53, 3) := by decide +kernel
theorem dX11_init_100 : decode cX11_init 100 = .ok (.putfield 61, 3) := by decide +kernel
theorem dX11_init_103 : decode cX11_init 103 = .ok (.aload_n 0, 1) := by decide +kernel
theorem dX11_init_104 : decode cX11_init 104 = .ok (.new 64, 3) := by decide +kernel
theorem dX11_init_107 : decode cX11_init 107 = .ok (.dup, 1) := by decide +kernel
theorem dX11_init_108 : decode cX11_init 108 = .ok (.invokespecial 66, 3) := by decide +kernel
theorem dX11_init_111 : decode cX11_init 111 = .ok (.putfield 67, 3) := by decide +kernel
theorem dX11_init_114 : decode cX11_init 114 = .ok (.aload_n 0, 1) := by decide +kernel
theorem dX11_init_115 : decode cX11_init 115 = .ok (.new 64, 3) := by decide +kernel
theorem dX11_init_118 : decode cX11_init 118 = .ok (.dup, 1) := by decide +kernel
theorem dX11_init_119 : decode cX11_init 119 = .ok (.invokespecial 66, 3) := by decide +kernel
theorem dX11_init_122 : decode cX11_init 122 = .ok (.putfield 71, 3) := by decide +kernel
theorem dX11_init_125 : decode cX11_init 125 = .ok (.aload_n 0, 1) := by decide +kernel
theorem dX11_init_126 : decode cX11_init 126 = .ok (.iconst (-1), 1) := by decide +kernel
theorem dX11_init_127 : decode cX11_init 127 = .ok (.putfield 74, 3) := by decide +kernel
theorem dX11_init_130 : decode cX11_init 130 = .ok (.aload_n 0, 1) := by decide +kernel
theorem dX11_init_131 : decode cX11_init 131 = .ok (.getfield 67, 3) := by decide +kernel
theorem dX11_init_134 : decode cX11_init 134 = .ok (.invokevirtual 78, 3) := by decide +kernel
theorem dX11_init_137 : decode cX11_init 137 = .ok (.aload_n 0, 1) := by decide +kernel
theorem dX11_init_138 : decode cX11_init 138 = .ok (.getfield 54, 3) := by decide +kernel
theorem dX11_init_141 : decode cX11_init 141 = .ok (.aload_n 0, 1) := by decide +kernel
theorem dX11_init_142 : decode cX11_init 142 = .ok (.getfield 67, 3) := by decide +kernel
theorem dX11_init_145 : decode cX11_init 145 = .ok (.invokevirtual 81, 3) := by decide +kernel
theorem dX11_init_148 : decode cX11_init 148 = .ok (.return_, 1) := by decide +kernel
theorem dX11_feed_0 : decode cX11_feed 0 = .ok (.aload_n 0, 1) := by decide +kernel
theorem dX11_feed_1 : decode cX11_feed 1 = .ok (.getfield 12, 3) := by decide +kernel
theorem dX11_feed_4 : decode cX11_feed 4 = .ok (.getfield 85, 3) := by decide +kernel
theorem dX11_feed_7 : decode cX11_feed 7 = .ok (.sipush 1980, 3) := by decide +kernel
theorem dX11_feed_10 : decode cX11_feed 10 = .ok (.if_icmp .le 5, 3) := by decide +kernel
theorem dX11_feed_13 : decode cX11_feed 13 = .ok (.iconst (-1), 1) := by decide +kernel
theorem dX11_feed_14 : decode cX11_feed 14 = .ok (.ireturn, 1) := by decide +kernel
theorem dX11_feed_15 : decode cX11_feed 15 = .ok (.aload_n 0, 1) := by decide +kernel
theorem dX11_feed_16 : decode cX11_feed 16 = .ok (.getfield 12, 3) := by decide +kernel
theorem dX11_feed_19 : decode cX11_feed 19 = .ok (.iload_n 1, 1) := by decide +kernel
theorem dX11_feed_20 : decode cX11_feed 20 = .ok (.invokevirtual 88, 3) := by decide +kernel
theorem dX11_feed_23 : decode cX11_feed 23 = .ok (.aload_n 0, 1) := by decide +kernel
theorem dX11_feed_24 : decode cX11_feed 24 = .ok (.getfield 12, 3) := by decide +kernel
theorem dX11_feed_27 : decode cX11_feed 27 = .ok (.iload_n 2, 1) := by decide +kernel
theorem dX11_feed_28 : decode cX11_feed 28 = .ok (.invokevirtual 88, 3) := by decide +kernel
theorem dX11_feed_31 : decode cX11_feed 31 = .ok (.aload_n 0, 1) := by decide +kernel
theorem dX11_feed_32 : decode cX11_feed 32 = .ok (.getfield 12, 3) := by decide +kernel
theorem dX11_feed_35 : decode cX11_feed 35 = .ok (.iload_n 3, 1) := by decide +kernel
theorem dX11_feed_36 : decode cX11_feed 36 = .ok (.invokevirtual 88, 3) := by decide +kernel
theorem dX11_feed_39 : decode cX11_feed 39 = .ok (.aload_n 0, 1) := by decide +kernel
theorem dX11_feed_40 : decode cX11_feed 40 = .ok (.getfield 12, 3) := by decide +kernel
theorem dX11_feed_43 : decode cX11_feed 43 = .ok (.iload 4, 2) := by decide +kernel
theorem dX11_feed_45 : decode cX11_feed 45 = .ok (.invokevirtual 88, 3) := by decide +kernel
theorem dX11_feed_48 : decode cX11_feed 48 = .ok (.aload_n 0, 1) := by decide +kernel
theorem dX11_feed_49 : decode cX11_feed 49 = .ok (.getfield 12, 3) := by decide +kernel
theorem dX11_feed_52 : decode cX11_feed 52 = .ok (.iload 5, 2) := by decide +kernel
theorem dX11_feed_54 : decode cX11_feed 54 = .ok (.invokevirtual 88, 3) := by decide +kernel
theorem dX11_feed_57 : decode cX11_feed 57 = .ok (.aload_n 0, 1) := by decide +kernel
theorem dX11_feed_58 : decode cX11_feed 58 = .ok (.getfield 12, 3) := by decide +kernel
theorem dX11_feed_61 : decode cX11_feed 61 = .ok (.getfield 85, 3) := by decide +kernel
theorem dX11_feed_64 : decode cX11_feed 64 = .ok (.ireturn, 1) := by decide +kernel
theorem dX11_back_0 : decode cX11_back 0 = .ok (.iload_n 1, 1) := by decide +kernel
theorem dX11_back_1 : decode cX11_back 1 = .ok (.ifCond .lt 14, 3) := by decide +kernel
theorem dX11_back_4 : decode cX11_back 4 = .ok (.iload_n 1, 1) := by decide +kernel
theorem dX11_back_5 : decode cX11_back 5 = .ok (.aload_n 0, 1) := by decide +kernel
theorem dX11_back_6 : decode cX11_back 6 = .ok (.getfield 12, 3) := by decide +kernel
theorem dX11_back_9 : decode cX11_back 9 = .ok (.getfield 85, 3) := by decide +kernel
theorem dX11_back_12 : decode cX11_back 12 = .ok (.if_icmp .le 5, 3) := by decide +kernel
theorem dX11_back_15 : decode cX11_back 15 = .ok (.iconst (-1), 1) := by decide +kernel
theorem dX11_back_16 : decode cX11_back 16 = .ok (.ireturn, 1) := by decide +kernel
theorem dX11_back_17 : decode cX11_back 17 = .ok (.aload_n 0, 1) := by decide +kernel
theorem dX11_back_18 : decode cX11_back 18 = .ok (.getfield 12, 3) := by decide +kernel
theorem dX11_back_21 : decode cX11_back 21 = .ok (.dup, 1) := by decide +kernel
theorem dX11_back_22 : decode cX11_back 22 = .ok (.getfield 85, 3) := by decide +kernel
theorem dX11_back_25 : decode cX11_back 25 = .ok (.iload_n 1, 1) := by decide +kernel
theorem dX11_back_26 : decode cX11_back 26 = .ok (.isub, 1) := by decide +kernel
theorem dX11_back_27 : decode cX11_back 27 = .ok (.putfield 85, 3) := by decide +kernel
theorem dX11_back_30 : decode cX11_back 30 = .ok (.aload_n 0, 1) := by decide +kernel
theorem dX11_back_31 : decode cX11_back 31 = .ok (.getfield 12, 3) := by decide +kernel
theorem dX11_back_34 : decode cX11_back 34 = .ok (.getfield 85, 3) := by decide +kernel
theorem dX11_back_37 : decode cX11_back 37 = .ok (.ireturn, 1) := by decide +kernel
theorem dX11_read_0 : decode cX11_read 0 = .ok (.aload_n 0, 1) := by decide +kernel
theorem dX11_read_1 : decode cX11_read 1 = .ok (.getfield 19, 3) := by decide +kernel
theorem dX11_read_4 : decode cX11_read 4 = .ok (.aload_n 0, 1) := by decide +kernel
theorem dX11_read_5 : decode cX11_read 5 = .ok (.getfield 12, 3) := by decide +kernel
theorem dX11_read_8 : decode cX11_read 8 = .ok (.aload_n 0, 1) := by decide +kernel
theorem dX11_read_9 : decode cX11_read 9 = .ok (.getfield 71, 3) := by decide +kernel
theorem dX11_read_12 : decode cX11_read 12 = .ok (.invokevirtual 92, 3) := by decide +kernel
theorem dX11_read_15 : decode cX11_read 15 = .ok (.istore_n 1, 1) := by decide +kernel
theorem dX11_read_16 : decode cX11_read 16 = .ok (.aload_n 0, 1) := by decide +kernel
theorem dX11_read_17 : decode cX11_read 17 = .ok (.getfield 12, 3) := by decide +kernel
theorem dX11_read_20 : decode cX11_read 20 = .ok (.iconst 0, 1) := by decide +kernel
theorem dX11_read_21 : decode cX11_read 21 = .ok (.putfield 85, 3) := by decide +kernel
theorem dX11_read_24 : decode cX11_read 24 = .ok (.aload_n 0, 1) := by decide +kernel
theorem dX11_read_25 : decode cX11_read 25 = .ok (.aload_n 0, 1) := by decide +kernel
theorem dX11_read_26 : decode cX11_read 26 = .ok (.getfield 19, 3) := by decide +kernel
theorem dX11_read_29 : decode cX11_read 29 = .ok (.getfield 96, 3) := by decide +kernel
theorem dX11_read_32 : decode cX11_read 32 = .ok (.putfield 74, 3) := by decide +kernel
theorem dX11_read_35 : decode cX11_read 35 = .ok (.iload_n 1, 1) := by decide +kernel
theorem dX11_read_36 : decode cX11_read 36 = .ok (.ifCond .eq 5, 3) := by decide +kernel
theorem dX11_read_39 : decode cX11_read 39 = .ok (.iload_n 1, 1) := by decide +kernel
theorem dX11_read_40 : decode cX11_read 40 = .ok (.ireturn, 1) := by decide +kernel
theorem dX11_read_41 : decode cX11_read 41 = .ok (.aload_n 0, 1) := by decide +kernel
theorem dX11_read_42 : decode cX11_read 42 = .ok (.getfield 67, 3) := by decide +kernel
theorem dX11_read_45 : decode cX11_read 45 = .ok (.astore_n 2, 1) := by decide +kernel
theorem dX11_read_46 : decode cX11_read 46 = .ok (.aload_n 0, 1) := by decide +kernel
theorem dX11_read_47 : decode cX11_read 47 = .ok (.aload_n 0, 1) := by decide +kernel
theorem dX11_read_48 : decode cX11_read 48 = .ok (.getfield 71, 3) := by decide +kernel
theorem dX11_read_51 : decode cX11_read 51 = .ok (.putfield 67, 3) := by decide +kernel
theorem dX11_read_54 : decode cX11_read 54 = .ok (.aload_n 0, 1) := by decide +kernel
theorem dX11_read_55 : decode cX11_read 55 = .ok (.aload_n 2, 1) := by decide +kernel
theorem dX11_read_56 : decode cX11_read 56 = .ok (.putfield 71, 3) := by decide +kernel
theorem dX11_read_59 : decode cX11_read 59 = .ok (.aload_n 0, 1) := by decide +kernel
theorem dX11_read_60 : decode cX11_read 60 = .ok (.getfield 54, 3) := by decide +kernel
theorem dX11_read_63 : decode cX11_read 63 = .ok (.aload_n 0, 1) := by decide +kernel
theorem dX11_read_64 : decode cX11_read 64 = .ok (.getfield 67, 3) := by decide +kernel
theorem dX11_read_67 : decode cX11_read 67 = .ok (.invokevirtual 81, 3) := by decide +kernel
theorem dX11_read_70 : decode cX11_read 70 = .ok (.aload_n 0, 1) := by decide +kernel
theorem dX11_read_71 : decode cX11_read 71 = .ok (.getfield 26, 3) := by decide +kernel
theorem dX11_read_74 : decode cX11_read 74 = .ok (.invokevirtual 99, 3) := by decide +kernel
theorem dX11_read_77 : decode cX11_read 77 = .ok (.aload_n 0, 1) := by decide +kernel
theorem dX11_read_78 : decode cX11_read 78 = .ok (.getfield 33, 3) := by decide +kernel
theorem dX11_read_81 : decode cX11_read 81 = .ok (.invokevirtual 100, 3) := by decide +kernel
theorem dX11_read_84 : decode cX11_read 84 = .ok (.aload_n 0, 1) := by decide +kernel
theorem dX11_read_85 : decode cX11_read 85 = .ok (.getfield 40, 3) := by decide +kernel
theorem dX11_read_88 : decode cX11_read 88 = .ok (.invokevirtual 101, 3) := by decide +kernel
theorem dX11_read_91 : decode cX11_read 91 = .ok (.iconst 0, 1) := by decide +kernel
theorem dX11_read_92 : decode cX11_read 92 = .ok (.ireturn, 1) := by decide +kernel
theorem dX11_place_0 : decode cX11_place 0 = .ok (.aload_n 0, 1) := by decide +kernel
theorem dX11_place_1 : decode cX11_place 1 = .ok (.getfield 74, 3) := by decide +kernel
theorem dX11_place_4 : decode cX11_place 4 = .ok (.ireturn, 1) := by decide +kernel
theorem dX11_heir_0 : decode cX11_heir 0 = .ok (.aload_n 0, 1) := by decide +kernel
theorem dX11_heir_1 : decode cX11_heir 1 = .ok (.getfield 67, 3) := by decide +kernel
theorem dX11_heir_4 : decode cX11_heir 4 = .ok (.iload_n 1, 1) := by decide +kernel
theorem dX11_heir_5 : decode cX11_heir 5 = .ok (.invokevirtual 102, 3) := by decide +kernel
theorem dX11_heir_8 : decode cX11_heir 8 = .ok (.ifCond .ne 5, 3) := by decide +kernel
theorem dX11_heir_11 : decode cX11_heir 11 = .ok (.iconst (-1), 1) := by decide +kernel
theorem dX11_heir_12 : decode cX11_heir 12 = .ok (.ireturn, 1) := by decide +kernel
theorem dX11_heir_13 : decode cX11_heir 13 = .ok (.iload_n 2, 1) := by decide +kernel
theorem dX11_heir_14 : decode cX11_heir 14 = .ok (.tableswitch 102 0 5 #[38, 47, 57, 67, 77, 86], 38) := by decide +kernel
theorem dX11_heir_52 : decode cX11_heir 52 = .ok (.aload_n 0, 1) := by decide +kernel
theorem dX11_heir_53 : decode cX11_heir 53 = .ok (.getfield 54, 3) := by decide +kernel
theorem dX11_heir_56 : decode cX11_heir 56 = .ok (.iload_n 1, 1) := by decide +kernel
theorem dX11_heir_57 : decode cX11_heir 57 = .ok (.invokevirtual 106, 3) := by decide +kernel
theorem dX11_heir_60 : decode cX11_heir 60 = .ok (.ireturn, 1) := by decide +kernel
theorem dX11_heir_61 : decode cX11_heir 61 = .ok (.aload_n 0, 1) := by decide +kernel
theorem dX11_heir_62 : decode cX11_heir 62 = .ok (.getfield 54, 3) := by decide +kernel
theorem dX11_heir_65 : decode cX11_heir 65 = .ok (.getfield 110, 3) := by decide +kernel
theorem dX11_heir_68 : decode cX11_heir 68 = .ok (.iload_n 1, 1) := by decide +kernel
theorem dX11_heir_69 : decode cX11_heir 69 = .ok (.iaload, 1) := by decide +kernel
theorem dX11_heir_70 : decode cX11_heir 70 = .ok (.ireturn, 1) := by decide +kernel
theorem dX11_heir_71 : decode cX11_heir 71 = .ok (.aload_n 0, 1) := by decide +kernel
theorem dX11_heir_72 : decode cX11_heir 72 = .ok (.getfield 54, 3) := by decide +kernel
theorem dX11_heir_75 : decode cX11_heir 75 = .ok (.getfield 114, 3) := by decide +kernel
theorem dX11_heir_78 : decode cX11_heir 78 = .ok (.iload_n 1, 1) := by decide +kernel
theorem dX11_heir_79 : decode cX11_heir 79 = .ok (.iaload, 1) := by decide +kernel
theorem dX11_heir_80 : decode cX11_heir 80 = .ok (.ireturn, 1) := by decide +kernel
theorem dX11_heir_81 : decode cX11_heir 81 = .ok (.aload_n 0, 1) := by decide +kernel
theorem dX11_heir_82 : decode cX11_heir 82 = .ok (.getfield 54, 3) := by decide +kernel
theorem dX11_heir_85 : decode cX11_heir 85 = .ok (.getfield 117, 3) := by decide +kernel
theorem dX11_heir_88 : decode cX11_heir 88 = .ok (.iload_n 1, 1) := by decide +kernel
theorem dX11_heir_89 : decode cX11_heir 89 = .ok (.iaload, 1) := by decide +kernel
theorem dX11_heir_90 : decode cX11_heir 90 = .ok (.ireturn, 1) := by decide +kernel
theorem dX11_heir_91 : decode cX11_heir 91 = .ok (.aload_n 0, 1) := by decide +kernel
theorem dX11_heir_92 : decode cX11_heir 92 = .ok (.getfield 54, 3) := by decide +kernel
theorem dX11_heir_95 : decode cX11_heir 95 = .ok (.iload_n 1, 1) := by decide +kernel
theorem dX11_heir_96 : decode cX11_heir 96 = .ok (.invokevirtual 120, 3) := by decide +kernel
theorem dX11_heir_99 : decode cX11_heir 99 = .ok (.ireturn, 1) := by decide +kernel
theorem dX11_heir_100 : decode cX11_heir 100 = .ok (.aload_n 0, 1) := by decide +kernel
theorem dX11_heir_101 : decode cX11_heir 101 = .ok (.getfield 54, 3) := by decide +kernel
theorem dX11_heir_104 : decode cX11_heir 104 = .ok (.iload_n 1, 1) := by decide +kernel
theorem dX11_heir_105 : decode cX11_heir 105 = .ok (.aload_n 0, 1) := by decide +kernel
theorem dX11_heir_106 : decode cX11_heir 106 = .ok (.getfield 67, 3) := by decide +kernel
theorem dX11_heir_109 : decode cX11_heir 109 = .ok (.getfield 123, 3) := by decide +kernel
theorem dX11_heir_112 : decode cX11_heir 112 = .ok (.invokevirtual 126, 3) := by decide +kernel
theorem dX11_heir_115 : decode cX11_heir 115 = .ok (.ireturn, 1) := by decide +kernel
theorem dX11_heir_116 : decode cX11_heir 116 = .ok (.iconst (-1), 1) := by decide +kernel
theorem dX11_heir_117 : decode cX11_heir 117 = .ok (.ireturn, 1) := by decide +kernel
theorem dX11_drops_0 : decode cX11_drops 0 = .ok (.iload_n 1, 1) := by decide +kernel
theorem dX11_drops_1 : decode cX11_drops 1 = .ok (.iconst (-1), 1) := by decide +kernel
theorem dX11_drops_2 : decode cX11_drops 2 = .ok (.if_icmp .eq 14, 3) := by decide +kernel
theorem dX11_drops_5 : decode cX11_drops 5 = .ok (.aload_n 0, 1) := by decide +kernel
theorem dX11_drops_6 : decode cX11_drops 6 = .ok (.getfield 67, 3) := by decide +kernel
theorem dX11_drops_9 : decode cX11_drops 9 = .ok (.iload_n 1, 1) := by decide +kernel
theorem dX11_drops_10 : decode cX11_drops 10 = .ok (.invokevirtual 102, 3) := by decide +kernel
theorem dX11_drops_13 : decode cX11_drops 13 = .ok (.ifCond .eq 19, 3) := by decide +kernel
theorem dX11_drops_16 : decode cX11_drops 16 = .ok (.iload_n 2, 1) := by decide +kernel
theorem dX11_drops_17 : decode cX11_drops 17 = .ok (.iconst (-1), 1) := by decide +kernel
theorem dX11_drops_18 : decode cX11_drops 18 = .ok (.if_icmp .eq 16, 3) := by decide +kernel
theorem dX11_drops_21 : decode cX11_drops 21 = .ok (.aload_n 0, 1) := by decide +kernel
theorem dX11_drops_22 : decode cX11_drops 22 = .ok (.getfield 67, 3) := by decide +kernel
theorem dX11_drops_25 : decode cX11_drops 25 = .ok (.iload_n 2, 1) := by decide +kernel
theorem dX11_drops_26 : decode cX11_drops 26 = .ok (.invokevirtual 130, 3) := by decide +kernel
theorem dX11_drops_29 : decode cX11_drops 29 = .ok (.ifCond .ne 5, 3) := by decide +kernel
theorem dX11_drops_32 : decode cX11_drops 32 = .ok (.iconst (-1), 1) := by decide +kernel
theorem dX11_drops_33 : decode cX11_drops 33 = .ok (.ireturn, 1) := by decide +kernel
theorem dX11_drops_34 : decode cX11_drops 34 = .ok (.aload_n 0, 1) := by decide +kernel
theorem dX11_drops_35 : decode cX11_drops 35 = .ok (.getfield 54, 3) := by decide +kernel
theorem dX11_drops_38 : decode cX11_drops 38 = .ok (.iload_n 1, 1) := by decide +kernel
theorem dX11_drops_39 : decode cX11_drops 39 = .ok (.iload_n 2, 1) := by decide +kernel
theorem dX11_drops_40 : decode cX11_drops 40 = .ok (.invokevirtual 133, 3) := by decide +kernel
theorem dX11_drops_43 : decode cX11_drops 43 = .ok (.ireturn, 1) := by decide +kernel
theorem dX11_salt_0 : decode cX11_salt 0 = .ok (.aload_n 0, 1) := by decide +kernel
theorem dX11_salt_1 : decode cX11_salt 1 = .ok (.getfield 54, 3) := by decide +kernel
theorem dX11_salt_4 : decode cX11_salt 4 = .ok (.getfield 136, 3) := by decide +kernel
theorem dX11_salt_7 : decode cX11_salt 7 = .ok (.ireturn, 1) := by decide +kernel
theorem dX11_owns_0 : decode cX11_owns 0 = .ok (.aload_n 0, 1) := by decide +kernel
theorem dX11_owns_1 : decode cX11_owns 1 = .ok (.getfield 67, 3) := by decide +kernel
theorem dX11_owns_4 : decode cX11_owns 4 = .ok (.iload_n 1, 1) := by decide +kernel
theorem dX11_owns_5 : decode cX11_owns 5 = .ok (.invokevirtual 102, 3) := by decide +kernel
theorem dX11_owns_8 : decode cX11_owns 8 = .ok (.ifCond .ne 5, 3) := by decide +kernel
theorem dX11_owns_11 : decode cX11_owns 11 = .ok (.iconst (-1), 1) := by decide +kernel
theorem dX11_owns_12 : decode cX11_owns 12 = .ok (.ireturn, 1) := by decide +kernel
theorem dX11_owns_13 : decode cX11_owns 13 = .ok (.aload_n 0, 1) := by decide +kernel
theorem dX11_owns_14 : decode cX11_owns 14 = .ok (.getfield 54, 3) := by decide +kernel
theorem dX11_owns_17 : decode cX11_owns 17 = .ok (.iload_n 1, 1) := by decide +kernel
theorem dX11_owns_18 : decode cX11_owns 18 = .ok (.invokevirtual 106, 3) := by decide +kernel
theorem dX11_owns_21 : decode cX11_owns 21 = .ok (.istore_n 3, 1) := by decide +kernel
theorem dX11_owns_22 : decode cX11_owns 22 = .ok (.iconst 1, 1) := by decide +kernel
theorem dX11_owns_23 : decode cX11_owns 23 = .ok (.aload_n 0, 1) := by decide +kernel
theorem dX11_owns_24 : decode cX11_owns 24 = .ok (.getfield 54, 3) := by decide +kernel
theorem dX11_owns_27 : decode cX11_owns 27 = .ok (.getfield 139, 3) := by decide +kernel
theorem dX11_owns_30 : decode cX11_owns 30 = .ok (.invokestatic 142, 3) := by decide +kernel
theorem dX11_owns_33 : decode cX11_owns 33 = .ok (.istore 4, 2) := by decide +kernel
theorem dX11_owns_35 : decode cX11_owns 35 = .ok (.iload_n 3, 1) := by decide +kernel
theorem dX11_owns_36 : decode cX11_owns 36 = .ok (.i2l, 1) := by decide +kernel
theorem dX11_owns_37 : decode cX11_owns 37 = .ok (.iload 4, 2) := by decide +kernel
theorem dX11_owns_39 : decode cX11_owns 39 = .ok (.i2l, 1) := by decide +kernel
theorem dX11_owns_40 : decode cX11_owns 40 = .ok (.invokestatic 147, 3) := by decide +kernel
theorem dX11_owns_43 : decode cX11_owns 43 = .ok (.l2i, 1) := by decide +kernel
theorem dX11_owns_44 : decode cX11_owns 44 = .ok (.istore 5, 2) := by decide +kernel
theorem dX11_owns_46 : decode cX11_owns 46 = .ok (.iload_n 2, 1) := by decide +kernel
theorem dX11_owns_47 : decode cX11_owns 47 = .ok (.ifCond .eq 8, 3) := by decide +kernel
theorem dX11_owns_50 : decode cX11_owns 50 = .ok (.iload 4, 2) := by decide +kernel
theorem dX11_owns_52 : decode cX11_owns 52 = .ok (.goto 4, 3) := by decide +kernel
theorem dX11_owns_55 : decode cX11_owns 55 = .ok (.iload_n 3, 1) := by decide +kernel
theorem dX11_owns_56 : decode cX11_owns 56 = .ok (.iload 5, 2) := by decide +kernel
theorem dX11_owns_58 : decode cX11_owns 58 = .ok (.idiv, 1) := by decide +kernel
theorem dX11_owns_59 : decode cX11_owns 59 = .ok (.ireturn, 1) := by decide +kernel
theorem dX11_claim_0 : decode cX11_claim 0 = .ok (.iload_n 1, 1) := by decide +kernel
theorem dX11_claim_1 : decode cX11_claim 1 = .ok (.ifCond .lt 17, 3) := by decide +kernel
theorem dX11_claim_4 : decode cX11_claim 4 = .ok (.iload_n 1, 1) := by decide +kernel
theorem dX11_claim_5 : decode cX11_claim 5 = .ok (.aload_n 0, 1) := by decide +kernel
theorem dX11_claim_6 : decode cX11_claim 6 = .ok (.getfield 67, 3) := by decide +kernel
theorem dX11_claim_9 : decode cX11_claim 9 = .ok (.getfield 151, 3) := by decide +kernel
theorem dX11_claim_12 : decode cX11_claim 12 = .ok (.getfield 155, 3) := by decide +kernel
theorem dX11_claim_15 : decode cX11_claim 15 = .ok (.if_icmp .lt 7, 3) := by decide +kernel
theorem dX11_claim_18 : decode cX11_claim 18 = .ok (.ldc2_w 160, 3) := by decide +kernel
theorem dX11_claim_21 : decode cX11_claim 21 = .ok (.lreturn, 1) := by decide +kernel
theorem dX11_claim_22 : decode cX11_claim 22 = .ok (.aload_n 0, 1) := by decide +kernel
theorem dX11_claim_23 : decode cX11_claim 23 = .ok (.getfield 67, 3) := by decide +kernel
theorem dX11_claim_26 : decode cX11_claim 26 = .ok (.getfield 151, 3) := by decide +kernel
theorem dX11_claim_29 : decode cX11_claim 29 = .ok (.iload_n 1, 1) := by decide +kernel
theorem dX11_claim_30 : decode cX11_claim 30 = .ok (.aload_n 0, 1) := by decide +kernel
theorem dX11_claim_31 : decode cX11_claim 31 = .ok (.getfield 54, 3) := by decide +kernel
theorem dX11_claim_34 : decode cX11_claim 34 = .ok (.iload_n 2, 1) := by decide +kernel
theorem dX11_claim_35 : decode cX11_claim 35 = .ok (.invokevirtual 162, 3) := by decide +kernel
theorem dX11_claim_38 : decode cX11_claim 38 = .ok (.lreturn, 1) := by decide +kernel
theorem dX11_ranked_0 : decode cX11_ranked 0 = .ok (.aload_n 0, 1) := by decide +kernel
theorem dX11_ranked_1 : decode cX11_ranked 1 = .ok (.getfield 54, 3) := by decide +kernel
theorem dX11_ranked_4 : decode cX11_ranked 4 = .ok (.iload_n 1, 1) := by decide +kernel

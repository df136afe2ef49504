theorem dX11_ranked_5 : decode cX11_ranked 5 = .ok (.aload_n 0, 1) := by decide +kernel
theorem dX11_ranked_6 : decode cX11_ranked 6 = .ok (.getfield 67, 3) := by decide +kernel
theorem dX11_ranked_9 : decode cX11_ranked 9 = .ok (.getfield 123, 3) := by decide +kernel
theorem dX11_ranked_12 : decode cX11_ranked 12 = .ok (.invokevirtual 166, 3) := by decide +kernel
theorem dX11_ranked_15 : decode cX11_ranked 15 = .ok (.ireturn, 1) := by decide +kernel
theorem dX11_run_0 : decode cX11_run 0 = .ok (.iload_n 1, 1) := by decide +kernel
theorem dX11_run_1 : decode cX11_run 1 = .ok (.ifCond .lt 10, 3) := by decide +kernel
theorem dX11_run_4 : decode cX11_run 4 = .ok (.iload_n 1, 1) := by decide +kernel
theorem dX11_run_5 : decode cX11_run 5 = .ok (.sipush 200, 3) := by decide +kernel
theorem dX11_run_8 : decode cX11_run 8 = .ok (.if_icmp .le 5, 3) := by decide +kernel
theorem dX11_run_11 : decode cX11_run 11 = .ok (.iconst (-1), 1) := by decide +kernel
theorem dX11_run_12 : decode cX11_run 12 = .ok (.ireturn, 1) := by decide +kernel
theorem dX11_run_13 : decode cX11_run 13 = .ok (.iload_n 1, 1) := by decide +kernel
theorem dX11_run_14 : decode cX11_run 14 = .ok (.ifCond .le 27, 3) := by decide +kernel
theorem dX11_run_17 : decode cX11_run 17 = .ok (.aload_n 0, 1) := by decide +kernel
theorem dX11_run_18 : decode cX11_run 18 = .ok (.getfield 26, 3) := by decide +kernel
theorem dX11_run_21 : decode cX11_run 21 = .ok (.aload_n 0, 1) := by decide +kernel
theorem dX11_run_22 : decode cX11_run 22 = .ok (.getfield 54, 3) := by decide +kernel
theorem dX11_run_25 : decode cX11_run 25 = .ok (.invokevirtual 169, 3) := by decide +kernel
theorem dX11_run_28 : decode cX11_run 28 = .ok (.aload_n 0, 1) := by decide +kernel
theorem dX11_run_29 : decode cX11_run 29 = .ok (.getfield 54, 3) := by decide +kernel
theorem dX11_run_32 : decode cX11_run 32 = .ok (.aload_n 0, 1) := by decide +kernel
theorem dX11_run_33 : decode cX11_run 33 = .ok (.getfield 67, 3) := by decide +kernel
theorem dX11_run_36 : decode cX11_run 36 = .ok (.iload_n 1, 1) := by decide +kernel
theorem dX11_run_37 : decode cX11_run 37 = .ok (.iconst (-1), 1) := by decide +kernel
theorem dX11_run_38 : decode cX11_run 38 = .ok (.invokevirtual 173, 3) := by decide +kernel
theorem dX11_run_41 : decode cX11_run 41 = .ok (.aload_n 0, 1) := by decide +kernel
theorem dX11_run_42 : decode cX11_run 42 = .ok (.getfield 54, 3) := by decide +kernel
theorem dX11_run_45 : decode cX11_run 45 = .ok (.getfield 177, 3) := by decide +kernel
theorem dX11_run_48 : decode cX11_run 48 = .ok (.ireturn, 1) := by decide +kernel
theorem dX11_tells_0 : decode cX11_tells 0 = .ok (.iload_n 1, 1) := by decide +kernel
theorem dX11_tells_1 : decode cX11_tells 1 = .ok (.ifCond .lt 14, 3) := by decide +kernel
theorem dX11_tells_4 : decode cX11_tells 4 = .ok (.iload_n 1, 1) := by decide +kernel
theorem dX11_tells_5 : decode cX11_tells 5 = .ok (.aload_n 0, 1) := by decide +kernel
theorem dX11_tells_6 : decode cX11_tells 6 = .ok (.getfield 67, 3) := by decide +kernel
theorem dX11_tells_9 : decode cX11_tells 9 = .ok (.getfield 180, 3) := by decide +kernel
theorem dX11_tells_12 : decode cX11_tells 12 = .ok (.if_icmp .lt 5, 3) := by decide +kernel
theorem dX11_tells_15 : decode cX11_tells 15 = .ok (.iconst (-1), 1) := by decide +kernel
theorem dX11_tells_16 : decode cX11_tells 16 = .ok (.ireturn, 1) := by decide +kernel
theorem dX11_tells_17 : decode cX11_tells 17 = .ok (.aload_n 0, 1) := by decide +kernel
theorem dX11_tells_18 : decode cX11_tells 18 = .ok (.getfield 54, 3) := by decide +kernel
theorem dX11_tells_21 : decode cX11_tells 21 = .ok (.aload_n 0, 1) := by decide +kernel
theorem dX11_tells_22 : decode cX11_tells 22 = .ok (.getfield 67, 3) := by decide +kernel
theorem dX11_tells_25 : decode cX11_tells 25 = .ok (.iload_n 1, 1) := by decide +kernel
theorem dX11_tells_26 : decode cX11_tells 26 = .ok (.invokevirtual 183, 3) := by decide +kernel
theorem dX11_tells_29 : decode cX11_tells 29 = .ok (.ireturn, 1) := by decide +kernel
theorem dX11_merge_0 : decode cX11_merge 0 = .ok (.aload_n 0, 1) := by decide +kernel
theorem dX11_merge_1 : decode cX11_merge 1 = .ok (.iload_n 1, 1) := by decide +kernel
theorem dX11_merge_2 : decode cX11_merge 2 = .ok (.iload_n 2, 1) := by decide +kernel
theorem dX11_merge_3 : decode cX11_merge 3 = .ok (.invokevirtual 187, 3) := by decide +kernel
theorem dX11_merge_6 : decode cX11_merge 6 = .ok (.ifCond .ne 5, 3) := by decide +kernel
theorem dX11_merge_9 : decode cX11_merge 9 = .ok (.iconst (-1), 1) := by decide +kernel
theorem dX11_merge_10 : decode cX11_merge 10 = .ok (.ireturn, 1) := by decide +kernel
theorem dX11_merge_11 : decode cX11_merge 11 = .ok (.aload_n 0, 1) := by decide +kernel
theorem dX11_merge_12 : decode cX11_merge 12 = .ok (.getfield 26, 3) := by decide +kernel
theorem dX11_merge_15 : decode cX11_merge 15 = .ok (.aload_n 0, 1) := by decide +kernel
theorem dX11_merge_16 : decode cX11_merge 16 = .ok (.getfield 54, 3) := by decide +kernel
theorem dX11_merge_19 : decode cX11_merge 19 = .ok (.invokevirtual 169, 3) := by decide +kernel
theorem dX11_merge_22 : decode cX11_merge 22 = .ok (.aload_n 0, 1) := by decide +kernel
theorem dX11_merge_23 : decode cX11_merge 23 = .ok (.getfield 54, 3) := by decide +kernel
theorem dX11_merge_26 : decode cX11_merge 26 = .ok (.iload_n 1, 1) := by decide +kernel
theorem dX11_merge_27 : decode cX11_merge 27 = .ok (.iload_n 2, 1) := by decide +kernel
theorem dX11_merge_28 : decode cX11_merge 28 = .ok (.invokevirtual 191, 3) := by decide +kernel
theorem dX11_merge_31 : decode cX11_merge 31 = .ok (.ireturn, 1) := by decide +kernel
theorem dX11_split_0 : decode cX11_split 0 = .ok (.aload_n 0, 1) := by decide +kernel
theorem dX11_split_1 : decode cX11_split 1 = .ok (.iload_n 1, 1) := by decide +kernel
theorem dX11_split_2 : decode cX11_split 2 = .ok (.iload_n 2, 1) := by decide +kernel
theorem dX11_split_3 : decode cX11_split 3 = .ok (.invokevirtual 187, 3) := by decide +kernel
theorem dX11_split_6 : decode cX11_split 6 = .ok (.ifCond .eq 26, 3) := by decide +kernel
theorem dX11_split_9 : decode cX11_split 9 = .ok (.iload 4, 2) := by decide +kernel
theorem dX11_split_11 : decode cX11_split 11 = .ok (.iconst 1, 1) := by decide +kernel
theorem dX11_split_12 : decode cX11_split 12 = .ok (.if_icmp .lt 20, 3) := by decide +kernel
theorem dX11_split_15 : decode cX11_split 15 = .ok (.iload 4, 2) := by decide +kernel
theorem dX11_split_17 : decode cX11_split 17 = .ok (.bipush 99, 2) := by decide +kernel
theorem dX11_split_19 : decode cX11_split 19 = .ok (.if_icmp .gt 13, 3) := by decide +kernel
theorem dX11_split_22 : decode cX11_split 22 = .ok (.iload_n 3, 1) := by decide +kernel
theorem dX11_split_23 : decode cX11_split 23 = .ok (.ifCond .lt 9, 3) := by decide +kernel
theorem dX11_split_26 : decode cX11_split 26 = .ok (.iload_n 3, 1) := by decide +kernel
theorem dX11_split_27 : decode cX11_split 27 = .ok (.iload 4, 2) := by decide +kernel
theorem dX11_split_29 : decode cX11_split 29 = .ok (.if_icmp .le 5, 3) := by decide +kernel
theorem dX11_split_32 : decode cX11_split 32 = .ok (.iconst (-1), 1) := by decide +kernel
theorem dX11_split_33 : decode cX11_split 33 = .ok (.ireturn, 1) := by decide +kernel
theorem dX11_split_34 : decode cX11_split 34 = .ok (.aload_n 0, 1) := by decide +kernel
theorem dX11_split_35 : decode cX11_split 35 = .ok (.getfield 26, 3) := by decide +kernel
theorem dX11_split_38 : decode cX11_split 38 = .ok (.aload_n 0, 1) := by decide +kernel
theorem dX11_split_39 : decode cX11_split 39 = .ok (.getfield 54, 3) := by decide +kernel
theorem dX11_split_42 : decode cX11_split 42 = .ok (.invokevirtual 169, 3) := by decide +kernel
theorem dX11_split_45 : decode cX11_split 45 = .ok (.aload_n 0, 1) := by decide +kernel
theorem dX11_split_46 : decode cX11_split 46 = .ok (.getfield 54, 3) := by decide +kernel
theorem dX11_split_49 : decode cX11_split 49 = .ok (.iload_n 1, 1) := by decide +kernel
theorem dX11_split_50 : decode cX11_split 50 = .ok (.iload_n 2, 1) := by decide +kernel
theorem dX11_split_51 : decode cX11_split 51 = .ok (.iload_n 3, 1) := by decide +kernel
theorem dX11_split_52 : decode cX11_split 52 = .ok (.iload 4, 2) := by decide +kernel
theorem dX11_split_54 : decode cX11_split 54 = .ok (.invokevirtual 194, 3) := by decide +kernel
theorem dX11_split_57 : decode cX11_split 57 = .ok (.ireturn, 1) := by decide +kernel
theorem dX11_spoon_0 : decode cX11_spoon 0 = .ok (.iload_n 1, 1) := by decide +kernel
theorem dX11_spoon_1 : decode cX11_spoon 1 = .ok (.iconst 1, 1) := by decide +kernel
theorem dX11_spoon_2 : decode cX11_spoon 2 = .ok (.if_icmp .lt 14, 3) := by decide +kernel
theorem dX11_spoon_5 : decode cX11_spoon 5 = .ok (.iload_n 1, 1) := by decide +kernel
theorem dX11_spoon_6 : decode cX11_spoon 6 = .ok (.aload_n 0, 1) := by decide +kernel
theorem dX11_spoon_7 : decode cX11_spoon 7 = .ok (.getfield 54, 3) := by decide +kernel
theorem dX11_spoon_10 : decode cX11_spoon 10 = .ok (.getfield 139, 3) := by decide +kernel
theorem dX11_spoon_13 : decode cX11_spoon 13 = .ok (.if_icmp .le 5, 3) := by decide +kernel
theorem dX11_spoon_16 : decode cX11_spoon 16 = .ok (.iconst (-1), 1) := by decide +kernel
theorem dX11_spoon_17 : decode cX11_spoon 17 = .ok (.ireturn, 1) := by decide +kernel
theorem dX11_spoon_18 : decode cX11_spoon 18 = .ok (.aload_n 0, 1) := by decide +kernel
theorem dX11_spoon_19 : decode cX11_spoon 19 = .ok (.getfield 26, 3) := by decide +kernel
theorem dX11_spoon_22 : decode cX11_spoon 22 = .ok (.aload_n 0, 1) := by decide +kernel
theorem dX11_spoon_23 : decode cX11_spoon 23 = .ok (.getfield 54, 3) := by decide +kernel
theorem dX11_spoon_26 : decode cX11_spoon 26 = .ok (.invokevirtual 169, 3) := by decide +kernel
theorem dX11_spoon_29 : decode cX11_spoon 29 = .ok (.aload_n 0, 1) := by decide +kernel
theorem dX11_spoon_30 : decode cX11_spoon 30 = .ok (.getfield 54, 3) := by decide +kernel
theorem dX11_spoon_33 : decode cX11_spoon 33 = .ok (.iload_n 1, 1) := by decide +kernel
theorem dX11_spoon_34 : decode cX11_spoon 34 = .ok (.invokevirtual 198, 3) := by decide +kernel
theorem dX11_spoon_37 : decode cX11_spoon 37 = .ok (.ireturn, 1) := by decide +kernel
theorem dX11_undo_0 : decode cX11_undo 0 = .ok (.aload_n 0, 1) := by decide +kernel
theorem dX11_undo_1 : decode cX11_undo 1 = .ok (.getfield 26, 3) := by decide +kernel
theorem dX11_undo_4 : decode cX11_undo 4 = .ok (.aload_n 0, 1) := by decide +kernel
theorem dX11_undo_5 : decode cX11_undo 5 = .ok (.getfield 54, 3) := by decide +kernel
theorem dX11_undo_8 : decode cX11_undo 8 = .ok (.invokevirtual 201, 3) := by decide +kernel
theorem dX11_undo_11 : decode cX11_undo 11 = .ok (.ireturn, 1) := by decide +kernel
theorem dX11_enough_0 : decode cX11_enough 0 = .ok (.iload_n 1, 1) := by decide +kernel
theorem dX11_enough_1 : decode cX11_enough 1 = .ok (.ifCond .ge 5, 3) := by decide +kernel
theorem dX11_enough_4 : decode cX11_enough 4 = .ok (.iconst (-1), 1) := by decide +kernel
theorem dX11_enough_5 : decode cX11_enough 5 = .ok (.ireturn, 1) := by decide +kernel
theorem dX11_enough_6 : decode cX11_enough 6 = .ok (.aload_n 0, 1) := by decide +kernel
theorem dX11_enough_7 : decode cX11_enough 7 = .ok (.getfield 58, 3) := by decide +kernel
theorem dX11_enough_10 : decode cX11_enough 10 = .ok (.aload_n 0, 1) := by decide +kernel
theorem dX11_enough_11 : decode cX11_enough 11 = .ok (.getfield 54, 3) := by decide +kernel
theorem dX11_enough_14 : decode cX11_enough 14 = .ok (.invokevirtual 205, 3) := by decide +kernel
theorem dX11_enough_17 : decode cX11_enough 17 = .ok (.iconst 0, 1) := by decide +kernel
theorem dX11_enough_18 : decode cX11_enough 18 = .ok (.istore_n 2, 1) := by decide +kernel
theorem dX11_enough_19 : decode cX11_enough 19 = .ok (.iload_n 2, 1) := by decide +kernel
theorem dX11_enough_20 : decode cX11_enough 20 = .ok (.sipush 200, 3) := by decide +kernel
theorem dX11_enough_23 : decode cX11_enough 23 = .ok (.if_icmp .gt 34, 3) := by decide +kernel
theorem dX11_enough_26 : decode cX11_enough 26 = .ok (.aload_n 0, 1) := by decide +kernel
theorem dX11_enough_27 : decode cX11_enough 27 = .ok (.getfield 58, 3) := by decide +kernel
theorem dX11_enough_30 : decode cX11_enough 30 = .ok (.getfield 139, 3) := by decide +kernel
theorem dX11_enough_33 : decode cX11_enough 33 = .ok (.iload_n 1, 1) := by decide +kernel
theorem dX11_enough_34 : decode cX11_enough 34 = .ok (.if_icmp .lt 5, 3) := by decide +kernel
theorem dX11_enough_37 : decode cX11_enough 37 = .ok (.iload_n 2, 1) := by decide +kernel
theorem dX11_enough_38 : decode cX11_enough 38 = .ok (.ireturn, 1) := by decide +kernel
theorem dX11_enough_39 : decode cX11_enough 39 = .ok (.aload_n 0, 1) := by decide +kernel
theorem dX11_enough_40 : decode cX11_enough 40 = .ok (.getfield 58, 3) := by decide +kernel
theorem dX11_enough_43 : decode cX11_enough 43 = .ok (.aload_n 0, 1) := by decide +kernel
theorem dX11_enough_44 : decode cX11_enough 44 = .ok (.getfield 67, 3) := by decide +kernel
theorem dX11_enough_47 : decode cX11_enough 47 = .ok (.iconst (-1), 1) := by decide +kernel
theorem dX11_enough_48 : decode cX11_enough 48 = .ok (.invokevirtual 208, 3) := by decide +kernel
theorem dX11_enough_51 : decode cX11_enough 51 = .ok (.iinc 2 1, 3) := by decide +kernel
theorem dX11_enough_54 : decode cX11_enough 54 = .ok (.goto (-35), 3) := by decide +kernel
theorem dX11_enough_57 : decode cX11_enough 57 = .ok (.bipush (-2), 2) := by decide +kernel
theorem dX11_enough_59 : decode cX11_enough 59 = .ok (.ireturn, 1) := by decide +kernel
theorem dX11_salty_0 : decode cX11_salty 0 = .ok (.iload_n 1, 1) := by decide +kernel
theorem dX11_salty_1 : decode cX11_salty 1 = .ok (.ifCond .ge 5, 3) := by decide +kernel
theorem dX11_salty_4 : decode cX11_salty 4 = .ok (.iconst (-1), 1) := by decide +kernel
theorem dX11_salty_5 : decode cX11_salty 5 = .ok (.ireturn, 1) := by decide +kernel
theorem dX11_salty_6 : decode cX11_salty 6 = .ok (.aload_n 0, 1) := by decide +kernel
theorem dX11_salty_7 : decode cX11_salty 7 = .ok (.getfield 58, 3) := by decide +kernel
theorem dX11_salty_10 : decode cX11_salty 10 = .ok (.aload_n 0, 1) := by decide +kernel
theorem dX11_salty_11 : decode cX11_salty 11 = .ok (.getfield 54, 3) := by decide +kernel
theorem dX11_salty_14 : decode cX11_salty 14 = .ok (.invokevirtual 205, 3) := by decide +kernel
theorem dX11_salty_17 : decode cX11_salty 17 = .ok (.iconst 0, 1) := by decide +kernel
theorem dX11_salty_18 : decode cX11_salty 18 = .ok (.istore_n 2, 1) := by decide +kernel
theorem dX11_salty_19 : decode cX11_salty 19 = .ok (.iload_n 2, 1) := by decide +kernel
theorem dX11_salty_20 : decode cX11_salty 20 = .ok (.sipush 200, 3) := by decide +kernel
theorem dX11_salty_23 : decode cX11_salty 23 = .ok (.if_icmp .gt 36, 3) := by decide +kernel
theorem dX11_salty_26 : decode cX11_salty 26 = .ok (.aload_n 0, 1) := by decide +kernel
theorem dX11_salty_27 : decode cX11_salty 27 = .ok (.getfield 58, 3) := by decide +kernel
theorem dX11_salty_30 : decode cX11_salty 30 = .ok (.invokevirtual 212, 3) := by decide +kernel
theorem dX11_salty_33 : decode cX11_salty 33 = .ok (.iload_n 1, 1) := by decide +kernel
theorem dX11_salty_34 : decode cX11_salty 34 = .ok (.i2l, 1) := by decide +kernel
theorem dX11_salty_35 : decode cX11_salty 35 = .ok (.lcmp, 1) := by decide +kernel
theorem dX11_salty_36 : decode cX11_salty 36 = .ok (.ifCond .lt 5, 3) := by decide +kernel
theorem dX11_salty_39 : decode cX11_salty 39 = .ok (.iload_n 2, 1) := by decide +kernel
theorem dX11_salty_40 : decode cX11_salty 40 = .ok (.ireturn, 1) := by decide +kernel
theorem dX11_salty_41 : decode cX11_salty 41 = .ok (.aload_n 0, 1) := by decide +kernel
theorem dX11_salty_42 : decode cX11_salty 42 = .ok (.getfield 58, 3) := by decide +kernel
theorem dX11_salty_45 : decode cX11_salty 45 = .ok (.aload_n 0, 1) := by decide +kernel
theorem dX11_salty_46 : decode cX11_salty 46 = .ok (.getfield 67, 3) := by decide +kernel
theorem dX11_salty_49 : decode cX11_salty 49 = .ok (.iconst (-1), 1) := by decide +kernel
theorem dX11_salty_50 : decode cX11_salty 50 = .ok (.invokevirtual 208, 3) := by decide +kernel
theorem dX11_salty_53 : decode cX11_salty 53 = .ok (.iinc 2 1, 3) := by decide +kernel
theorem dX11_salty_56 : decode cX11_salty 56 = .ok (.goto (-37), 3) := by decide +kernel
theorem dX11_salty_59 : decode cX11_salty 59 = .ok (.bipush (-2), 2) := by decide +kernel
theorem dX11_salty_61 : decode cX11_salty 61 = .ok (.ireturn, 1) := by decide +kernel
theorem dX11_crossed_0 : decode cX11_crossed 0 = .ok (.iload_n 2, 1) := by decide +kernel
theorem dX11_crossed_1 : decode cX11_crossed 1 = .ok (.iconst 1, 1) := by decide +kernel
theorem dX11_crossed_2 : decode cX11_crossed 2 = .ok (.if_icmp .lt 28, 3) := by decide +kernel
theorem dX11_crossed_5 : decode cX11_crossed 5 = .ok (.iload_n 2, 1) := by decide +kernel
theorem dX11_crossed_6 : decode cX11_crossed 6 = .ok (.bipush 99, 2) := by decide +kernel
theorem dX11_crossed_8 : decode cX11_crossed 8 = .ok (.if_icmp .gt 22, 3) := by decide +kernel
theorem dX11_crossed_11 : decode cX11_crossed 11 = .ok (.iload_n 1, 1) := by decide +kernel
theorem dX11_crossed_12 : decode cX11_crossed 12 = .ok (.iconst 1, 1) := by decide +kernel
theorem dX11_crossed_13 : decode cX11_crossed 13 = .ok (.if_icmp .lt 17, 3) := by decide +kernel
theorem dX11_crossed_16 : decode cX11_crossed 16 = .ok (.iload_n 1, 1) := by decide +kernel
theorem dX11_crossed_17 : decode cX11_crossed 17 = .ok (.iload_n 2, 1) := by decide +kernel
theorem dX11_crossed_18 : decode cX11_crossed 18 = .ok (.if_icmp .gt 12, 3) := by decide +kernel
theorem dX11_crossed_21 : decode cX11_crossed 21 = .ok (.iload_n 3, 1) := by decide +kernel
theorem dX11_crossed_22 : decode cX11_crossed 22 = .ok (.ifCond .lt 8, 3) := by decide +kernel
theorem dX11_crossed_25 : decode cX11_crossed 25 = .ok (.iload_n 3, 1) := by decide +kernel
theorem dX11_crossed_26 : decode cX11_crossed 26 = .ok (.iconst 1, 1) := by decide +kernel
theorem dX11_crossed_27 : decode cX11_crossed 27 = .ok (.if_icmp .le 5, 3) := by decide +kernel
theorem dX11_crossed_30 : decode cX11_crossed 30 = .ok (.iconst (-1), 1) := by decide +kernel
theorem dX11_crossed_31 : decode cX11_crossed 31 = .ok (.ireturn, 1) := by decide +kernel
theorem dX11_crossed_32 : decode cX11_crossed 32 = .ok (.aload_n 0, 1) := by decide +kernel
theorem dX11_crossed_33 : decode cX11_crossed 33 = .ok (.getfield 58, 3) := by decide +kernel
theorem dX11_crossed_36 : decode cX11_crossed 36 = .ok (.aload_n 0, 1) := by decide +kernel
theorem dX11_crossed_37 : decode cX11_crossed 37 = .ok (.getfield 54, 3) := by decide +kernel
theorem dX11_crossed_40 : decode cX11_crossed 40 = .ok (.invokevirtual 205, 3) := by decide +kernel
theorem dX11_crossed_43 : decode cX11_crossed 43 = .ok (.iconst 0, 1) := by decide +kernel
theorem dX11_crossed_44 : decode cX11_crossed 44 = .ok (.istore 4, 2) := by decide +kernel
theorem dX11_crossed_46 : decode cX11_crossed 46 = .ok (.iload 4, 2) := by decide +kernel
theorem dX11_crossed_48 : decode cX11_crossed 48 = .ok (.sipush 200, 3) := by decide +kernel
theorem dX11_crossed_51 : decode cX11_crossed 51 = .ok (.if_icmp .gt 89, 3) := by decide +kernel
theorem dX11_crossed_54 : decode cX11_crossed 54 = .ok (.aload_n 0, 1) := by decide +kernel
theorem dX11_crossed_55 : decode cX11_crossed 55 = .ok (.getfield 58, 3) := by decide +kernel
theorem dX11_crossed_58 : decode cX11_crossed 58 = .ok (.iconst 0, 1) := by decide +kernel
theorem dX11_crossed_59 : decode cX11_crossed 59 = .ok (.aload_n 0, 1) := by decide +kernel
theorem dX11_crossed_60 : decode cX11_crossed 60 = .ok (.getfield 67, 3) := by decide +kernel
theorem dX11_crossed_63 : decode cX11_crossed 63 = .ok (.getfield 123, 3) := by decide +kernel
theorem dX11_crossed_66 : decode cX11_crossed 66 = .ok (.invokevirtual 166, 3) := by decide +kernel
theorem dX11_crossed_69 : decode cX11_crossed 69 = .ok (.istore 5, 2) := by decide +kernel
theorem dX11_crossed_71 : decode cX11_crossed 71 = .ok (.iload 5, 2) := by decide +kernel
theorem dX11_crossed_73 : decode cX11_crossed 73 = .ok (.iconst (-1), 1) := by decide +kernel
theorem dX11_crossed_74 : decode cX11_crossed 74 = .ok (.if_icmp .eq 48, 3) := by decide +kernel
theorem dX11_crossed_77 : decode cX11_crossed 77 = .ok (.aload_n 0, 1) := by decide +kernel
theorem dX11_crossed_78 : decode cX11_crossed 78 = .ok (.getfield 58, 3) := by decide +kernel
theorem dX11_crossed_81 : decode cX11_crossed 81 = .ok (.getfield 139, 3) := by decide +kernel
theorem dX11_crossed_84 : decode cX11_crossed 84 = .ok (.ifCond .le 38, 3) := by decide +kernel
theorem dX11_crossed_87 : decode cX11_crossed 87 = .ok (.aload_n 0, 1) := by decide +kernel
theorem dX11_crossed_88 : decode cX11_crossed 88 = .ok (.getfield 58, 3) := by decide +kernel
theorem dX11_crossed_91 : decode cX11_crossed 91 = .ok (.iload 5, 2) := by decide +kernel
theorem dX11_crossed_93 : decode cX11_crossed 93 = .ok (.invokevirtual 106, 3) := by decide +kernel
theorem dX11_crossed_96 : decode cX11_crossed 96 = .ok (.iload_n 2, 1) := by decide +kernel
theorem dX11_crossed_97 : decode cX11_crossed 97 = .ok (.imul, 1) := by decide +kernel
theorem dX11_crossed_98 : decode cX11_crossed 98 = .ok (.aload_n 0, 1) := by decide +kernel
theorem dX11_crossed_99 : decode cX11_crossed 99 = .ok (.getfield 58, 3) := by decide +kernel
theorem dX11_crossed_102 : decode cX11_crossed 102 = .ok (.getfield 139, 3) := by decide +kernel
theorem dX11_crossed_105 : decode cX11_crossed 105 = .ok (.iload_n 1, 1) := by decide +kernel
theorem dX11_crossed_106 : decode cX11_crossed 106 = .ok (.imul, 1) := by decide +kernel
theorem dX11_crossed_107 : decode cX11_crossed 107 = .ok (.if_icmp .lt 15, 3) := by decide +kernel
theorem dX11_crossed_110 : decode cX11_crossed 110 = .ok (.iload_n 3, 1) := by decide +kernel
theorem dX11_crossed_111 : decode cX11_crossed 111 = .ok (.ifCond .ne 8, 3) := by decide +kernel
theorem dX11_crossed_114 : decode cX11_crossed 114 = .ok (.iload 4, 2) := by decide +kernel
theorem dX11_crossed_116 : decode cX11_crossed 116 = .ok (.goto 5, 3) := by decide +kernel
theorem dX11_crossed_119 : decode cX11_crossed 119 = .ok (.iload 5, 2) := by decide +kernel
theorem dX11_crossed_121 : decode cX11_crossed 121 = .ok (.ireturn, 1) := by decide +kernel
theorem dX11_crossed_122 : decode cX11_crossed 122 = .ok (.aload_n 0, 1) := by decide +kernel
theorem dX11_crossed_123 : decode cX11_crossed 123 = .ok (.getfield 58, 3) := by decide +kernel
theorem dX11_crossed_126 : decode cX11_crossed 126 = .ok (.aload_n 0, 1) := by decide +kernel
theorem dX11_crossed_127 : decode cX11_crossed 127 = .ok (.getfield 67, 3) := by decide +kernel
theorem dX11_crossed_130 : decode cX11_crossed 130 = .ok (.iconst (-1), 1) := by decide +kernel
theorem dX11_crossed_131 : decode cX11_crossed 131 = .ok (.invokevirtual 208, 3) := by decide +kernel
theorem dX11_crossed_134 : decode cX11_crossed 134 = .ok (.iinc 4 1, 3) := by decide +kernel
theorem dX11_crossed_137 : decode cX11_crossed 137 = .ok (.goto (-91), 3) := by decide +kernel
theorem dX11_crossed_140 : decode cX11_crossed 140 = .ok (.bipush (-2), 2) := by decide +kernel
theorem dX11_crossed_142 : decode cX11_crossed 142 = .ok (.ireturn, 1) := by decide +kernel
theorem dX11_league_0 : decode cX11_league 0 = .ok (.bipush (-2), 2) := by decide +kernel
theorem dX11_league_2 : decode cX11_league 2 = .ok (.istore_n 1, 1) := by decide +kernel
theorem dX11_league_3 : decode cX11_league 3 = .ok (.bipush 9, 2) := by decide +kernel
theorem dX11_league_5 : decode cX11_league 5 = .ok (.istore_n 2, 1) := by decide +kernel
theorem dX11_league_6 : decode cX11_league 6 = .ok (.iconst 0, 1) := by decide +kernel
theorem dX11_league_7 : decode cX11_league 7 = .ok (.istore_n 3, 1) := by decide +kernel
theorem dX11_league_8 : decode cX11_league 8 = .ok (.iload_n 3, 1) := by decide +kernel
theorem dX11_league_9 : decode cX11_league 9 = .ok (.iconst 1, 1) := by decide +kernel
theorem dX11_league_10 : decode cX11_league 10 = .ok (.aload_n 0, 1) := by decide +kernel
theorem dX11_league_11 : decode cX11_league 11 = .ok (.getfield 67, 3) := by decide +kernel
theorem dX11_league_14 : decode cX11_league 14 = .ok (.getfield 123, 3) := by decide +kernel
theorem dX11_league_17 : decode cX11_league 17 = .ok (.ishl, 1) := by decide +kernel
theorem dX11_league_18 : decode cX11_league 18 = .ok (.if_icmp .ge 35, 3) := by decide +kernel
theorem dX11_league_21 : decode cX11_league 21 = .ok (.iload_n 3, 1) := by decide +kernel
theorem dX11_league_22 : decode cX11_league 22 = .ok (.invokestatic 216, 3) := by decide +kernel
theorem dX11_league_25 : decode cX11_league 25 = .ok (.iload_n 2, 1) := by decide +kernel
theorem dX11_league_26 : decode cX11_league 26 = .ok (.if_icmp .ge 21, 3) := by decide +kernel
theorem dX11_league_29 : decode cX11_league 29 = .ok (.aload_n 0, 1) := by decide +kernel
theorem dX11_league_30 : decode cX11_league 30 = .ok (.getfield 54, 3) := by decide +kernel
theorem dX11_league_33 : decode cX11_league 33 = .ok (.iload_n 3, 1) := by decide +kernel
theorem dX11_league_34 : decode cX11_league 34 = .ok (.invokevirtual 221, 3) := by decide +kernel
theorem dX11_league_37 : decode cX11_league 37 = .ok (.ifCond .eq 10, 3) := by decide +kernel
theorem dX11_league_40 : decode cX11_league 40 = .ok (.iload_n 3, 1) := by decide +kernel
theorem dX11_league_41 : decode cX11_league 41 = .ok (.istore_n 1, 1) := by decide +kernel
theorem dX11_league_42 : decode cX11_league 42 = .ok (.iload_n 3, 1) := by decide +kernel
theorem dX11_league_43 : decode cX11_league 43 = .ok (.invokestatic 216, 3) := by decide +kernel
theorem dX11_league_46 : decode cX11_league 46 = .ok (.istore_n 2, 1) := by decide +kernel
theorem dX11_league_47 : decode cX11_league 47 = .ok (.iinc 3 1, 3) := by decide +kernel
theorem dX11_league_50 : decode cX11_league 50 = .ok (.goto (-42), 3) := by decide +kernel
theorem dX11_league_53 : decode cX11_league 53 = .ok (.iload_n 1, 1) := by decide +kernel
theorem dX11_league_54 : decode cX11_league 54 = .ok (.ireturn, 1) := by decide +kernel
theorem dX11_power_0 : decode cX11_power 0 = .ok (.aload_n 0, 1) := by decide +kernel
theorem dX11_power_1 : decode cX11_power 1 = .ok (.getfield 67, 3) := by decide +kernel
theorem dX11_power_4 : decode cX11_power 4 = .ok (.iload_n 1, 1) := by decide +kernel
theorem dX11_power_5 : decode cX11_power 5 = .ok (.invokevirtual 102, 3) := by decide +kernel
theorem dX11_power_8 : decode cX11_power 8 = .ok (.ifCond .ne 5, 3) := by decide +kernel
theorem dX11_power_11 : decode cX11_power 11 = .ok (.iconst (-1), 1) := by decide +kernel
theorem dX11_power_12 : decode cX11_power 12 = .ok (.ireturn, 1) := by decide +kernel
theorem dX11_power_13 : decode cX11_power 13 = .ok (.iconst 1, 1) := by decide +kernel
theorem dX11_power_14 : decode cX11_power 14 = .ok (.iload_n 1, 1) := by decide +kernel
theorem dX11_power_15 : decode cX11_power 15 = .ok (.ishl, 1) := by decide +kernel
theorem dX11_power_16 : decode cX11_power 16 = .ok (.istore_n 2, 1) := by decide +kernel
theorem dX11_power_17 : decode cX11_power 17 = .ok (.iconst 0, 1) := by decide +kernel
theorem dX11_power_18 : decode cX11_power 18 = .ok (.istore_n 3, 1) := by decide +kernel
theorem dX11_power_19 : decode cX11_power 19 = .ok (.iconst 0, 1) := by decide +kernel
theorem dX11_power_20 : decode cX11_power 20 = .ok (.istore 4, 2) := by decide +kernel
theorem dX11_power_22 : decode cX11_power 22 = .ok (.iload 4, 2) := by decide +kernel
theorem dX11_power_24 : decode cX11_power 24 = .ok (.iconst 1, 1) := by decide +kernel
theorem dX11_power_25 : decode cX11_power 25 = .ok (.aload_n 0, 1) := by decide +kernel
theorem dX11_power_26 : decode cX11_power 26 = .ok (.getfield 67, 3) := by decide +kernel
theorem dX11_power_29 : decode cX11_power 29 = .ok (.getfield 123, 3) := by decide +kernel
theorem dX11_power_32 : decode cX11_power 32 = .ok (.ishl, 1) := by decide +kernel
theorem dX11_power_33 : decode cX11_power 33 = .ok (.if_icmp .ge 47, 3) := by decide +kernel
theorem dX11_power_36 : decode cX11_power 36 = .ok (.iload 4, 2) := by decide +kernel
theorem dX11_power_38 : decode cX11_power 38 = .ok (.iload_n 2, 1) := by decide +kernel
theorem dX11_power_39 : decode cX11_power 39 = .ok (.iand, 1) := by decide +kernel
theorem dX11_power_40 : decode cX11_power 40 = .ok (.ifCond .eq 34, 3) := by decide +kernel
theorem dX11_power_43 : decode cX11_power 43 = .ok (.aload_n 0, 1) := by decide +kernel
theorem dX11_power_44 : decode cX11_power 44 = .ok (.getfield 54, 3) := by decide +kernel
theorem dX11_power_47 : decode cX11_power 47 = .ok (.iload 4, 2) := by decide +kernel
theorem dX11_power_49 : decode cX11_power 49 = .ok (.invokevirtual 221, 3) := by decide +kernel
theorem dX11_power_52 : decode cX11_power 52 = .ok (.ifCond .eq 22, 3) := by decide +kernel
theorem dX11_power_55 : decode cX11_power 55 = .ok (.aload_n 0, 1) := by decide +kernel
theorem dX11_power_56 : decode cX11_power 56 = .ok (.getfield 54, 3) := by decide +kernel
theorem dX11_power_59 : decode cX11_power 59 = .ok (.iload 4, 2) := by decide +kernel
theorem dX11_power_61 : decode cX11_power 61 = .ok (.iload_n 2, 1) := by decide +kernel
theorem dX11_power_62 : decode cX11_power 62 = .ok (.iconst (-1), 1) := by decide +kernel
theorem dX11_power_63 : decode cX11_power 63 = .ok (.ixor, 1) := by decide +kernel
theorem dX11_power_64 : decode cX11_power 64 = .ok (.iand, 1) := by decide +kernel
theorem dX11_power_65 : decode cX11_power 65 = .ok (.invokevirtual 221, 3) := by decide +kernel
theorem dX11_power_68 : decode cX11_power 68 = .ok (.ifCond .ne 6, 3) := by decide +kernel
theorem dX11_power_71 : decode cX11_power 71 = .ok (.iinc 3 1, 3) := by decide +kernel
theorem dX11_power_74 : decode cX11_power 74 = .ok (.iinc 4 1, 3) := by decide +kernel
theorem dX11_power_77 : decode cX11_power 77 = .ok (.goto (-55), 3) := by decide +kernel
theorem dX11_power_80 : decode cX11_power 80 = .ok (.iload_n 3, 1) := by decide +kernel
theorem dX11_power_81 : decode cX11_power 81 = .ok (.ireturn, 1) := by decide +kernel
theorem dX11_without_0 : decode cX11_without 0 = .ok (.aload_n 0, 1) := by decide +kernel
theorem dX11_without_1 : decode cX11_without 1 = .ok (.getfield 67, 3) := by decide +kernel
theorem dX11_without_4 : decode cX11_without 4 = .ok (.iload_n 1, 1) := by decide +kernel
theorem dX11_without_5 : decode cX11_without 5 = .ok (.invokevirtual 102, 3) := by decide +kernel
theorem dX11_without_8 : decode cX11_without 8 = .ok (.ifCond .eq 31, 3) := by decide +kernel
theorem dX11_without_11 : decode cX11_without 11 = .ok (.iload_n 2, 1) := by decide +kernel
theorem dX11_without_12 : decode cX11_without 12 = .ok (.iconst 1, 1) := by decide +kernel
theorem dX11_without_13 : decode cX11_without 13 = .ok (.if_icmp .lt 26, 3) := by decide +kernel
theorem dX11_without_16 : decode cX11_without 16 = .ok (.iload_n 2, 1) := by decide +kernel
theorem dX11_without_17 : decode cX11_without 17 = .ok (.sipush 200, 3) := by decide +kernel
theorem dX11_without_20 : decode cX11_without 20 = .ok (.if_icmp .gt 19, 3) := by decide +kernel
theorem dX11_without_23 : decode cX11_without 23 = .ok (.iload_n 3, 1) := by decide +kernel
theorem dX11_without_24 : decode cX11_without 24 = .ok (.iconst (-1), 1) := by decide +kernel
theorem dX11_without_25 : decode cX11_without 25 = .ok (.if_icmp .eq 17, 3) := by decide +kernel
theorem dX11_without_28 : decode cX11_without 28 = .ok (.aload_n 0, 1) := by decide +kernel
theorem dX11_without_29 : decode cX11_without 29 = .ok (.getfield 67, 3) := by decide +kernel
theorem dX11_without_32 : decode cX11_without 32 = .ok (.iload_n 3, 1) := by decide +kernel
theorem dX11_without_33 : decode cX11_without 33 = .ok (.invokevirtual 102, 3) := by decide +kernel
theorem dX11_without_36 : decode cX11_without 36 = .ok (.ifCond .ne 6, 3) := by decide +kernel
theorem dX11_without_39 : decode cX11_without 39 = .ok (.ldc 224, 2) := by decide +kernel
theorem dX11_without_41 : decode cX11_without 41 = .ok (.ireturn, 1) := by decide +kernel
theorem dX11_without_42 : decode cX11_without 42 = .ok (.aload_n 0, 1) := by decide +kernel
theorem dX11_without_43 : decode cX11_without 43 = .ok (.getfield 58, 3) := by decide +kernel
theorem dX11_without_46 : decode cX11_without 46 = .ok (.aload_n 0, 1) := by decide +kernel
theorem dX11_without_47 : decode cX11_without 47 = .ok (.getfield 54, 3) := by decide +kernel
theorem dX11_without_50 : decode cX11_without 50 = .ok (.invokevirtual 205, 3) := by decide +kernel
theorem dX11_without_53 : decode cX11_without 53 = .ok (.aload_n 0, 1) := by decide +kernel
theorem dX11_without_54 : decode cX11_without 54 = .ok (.getfield 58, 3) := by decide +kernel
theorem dX11_without_57 : decode cX11_without 57 = .ok (.aload_n 0, 1) := by decide +kernel
theorem dX11_without_58 : decode cX11_without 58 = .ok (.getfield 67, 3) := by decide +kernel
theorem dX11_without_61 : decode cX11_without 61 = .ok (.iload_n 2, 1) := by decide +kernel
theorem dX11_without_62 : decode cX11_without 62 = .ok (.iconst (-1), 1) := by decide +kernel
theorem dX11_without_63 : decode cX11_without 63 = .ok (.invokevirtual 173, 3) := by decide +kernel
theorem dX11_without_66 : decode cX11_without 66 = .ok (.aload_n 0, 1) := by decide +kernel
theorem dX11_without_67 : decode cX11_without 67 = .ok (.getfield 61, 3) := by decide +kernel
theorem dX11_without_70 : decode cX11_without 70 = .ok (.aload_n 0, 1) := by decide +kernel
theorem dX11_without_71 : decode cX11_without 71 = .ok (.getfield 54, 3) := by decide +kernel
theorem dX11_without_74 : decode cX11_without 74 = .ok (.invokevirtual 205, 3) := by decide +kernel
theorem dX11_without_77 : decode cX11_without 77 = .ok (.aload_n 0, 1) := by decide +kernel
theorem dX11_without_78 : decode cX11_without 78 = .ok (.getfield 61, 3) := by decide +kernel
theorem dX11_without_81 : decode cX11_without 81 = .ok (.aload_n 0, 1) := by decide +kernel
theorem dX11_without_82 : decode cX11_without 82 = .ok (.getfield 67, 3) := by decide +kernel
theorem dX11_without_85 : decode cX11_without 85 = .ok (.iload_n 2, 1) := by decide +kernel
theorem dX11_without_86 : decode cX11_without 86 = .ok (.iload_n 1, 1) := by decide +kernel
theorem dX11_without_87 : decode cX11_without 87 = .ok (.invokevirtual 173, 3) := by decide +kernel
theorem dX11_without_90 : decode cX11_without 90 = .ok (.iload_n 3, 1) := by decide +kernel
theorem dX11_without_91 : decode cX11_without 91 = .ok (.iconst (-1), 1) := by decide +kernel
theorem dX11_without_92 : decode cX11_without 92 = .ok (.if_icmp .ne 19, 3) := by decide +kernel
theorem dX11_without_95 : decode cX11_without 95 = .ok (.aload_n 0, 1) := by decide +kernel
theorem dX11_without_96 : decode cX11_without 96 = .ok (.getfield 58, 3) := by decide +kernel
theorem dX11_without_99 : decode cX11_without 99 = .ok (.getfield 139, 3) := by decide +kernel
theorem dX11_without_102 : decode cX11_without 102 = .ok (.aload_n 0, 1) := by decide +kernel
theorem dX11_without_103 : decode cX11_without 103 = .ok (.getfield 61, 3) := by decide +kernel
theorem dX11_without_106 : decode cX11_without 106 = .ok (.getfield 139, 3) := by decide +kernel
theorem dX11_without_109 : decode cX11_without 109 = .ok (.isub, 1) := by decide +kernel
theorem dX11_without_110 : decode cX11_without 110 = .ok (.ireturn, 1) := by decide +kernel
theorem dX11_without_111 : decode cX11_without 111 = .ok (.aload_n 0, 1) := by decide +kernel
theorem dX11_without_112 : decode cX11_without 112 = .ok (.getfield 61, 3) := by decide +kernel
theorem dX11_without_115 : decode cX11_without 115 = .ok (.iload_n 3, 1) := by decide +kernel
theorem dX11_without_116 : decode cX11_without 116 = .ok (.invokevirtual 106, 3) := by decide +kernel
theorem dX11_without_119 : decode cX11_without 119 = .ok (.aload_n 0, 1) := by decide +kernel
theorem dX11_without_120 : decode cX11_without 120 = .ok (.getfield 58, 3) := by decide +kernel
theorem dX11_without_123 : decode cX11_without 123 = .ok (.iload_n 3, 1) := by decide +kernel
theorem dX11_without_124 : decode cX11_without 124 = .ok (.invokevirtual 106, 3) := by decide +kernel
theorem dX11_without_127 : decode cX11_without 127 = .ok (.isub, 1) := by decide +kernel
theorem dX11_without_128 : decode cX11_without 128 = .ok (.ireturn, 1) := by decide +kernel
theorem dX11_asked_0 : decode cX11_asked 0 = .ok (.iload_n 1, 1) := by decide +kernel
theorem dX11_asked_1 : decode cX11_asked 1 = .ok (.iconst 1, 1) := by decide +kernel
theorem dX11_asked_2 : decode cX11_asked 2 = .ok (.if_icmp .lt 19, 3) := by decide +kernel
theorem dX11_asked_5 : decode cX11_asked 5 = .ok (.iload_n 1, 1) := by decide +kernel
theorem dX11_asked_6 : decode cX11_asked 6 = .ok (.sipush 999, 3) := by decide +kernel
theorem dX11_asked_9 : decode cX11_asked 9 = .ok (.if_icmp .gt 12, 3) := by decide +kernel
theorem dX11_asked_12 : decode cX11_asked 12 = .ok (.iload_n 2, 1) := by decide +kernel
theorem dX11_asked_13 : decode cX11_asked 13 = .ok (.ifCond .lt 8, 3) := by decide +kernel
theorem dX11_asked_16 : decode cX11_asked 16 = .ok (.iload_n 2, 1) := by decide +kernel
theorem dX11_asked_17 : decode cX11_asked 17 = .ok (.iconst 1, 1) := by decide +kernel
theorem dX11_asked_18 : decode cX11_asked 18 = .ok (.if_icmp .le 5, 3) := by decide +kernel
theorem dX11_asked_21 : decode cX11_asked 21 = .ok (.iconst (-1), 1) := by decide +kernel
theorem dX11_asked_22 : decode cX11_asked 22 = .ok (.ireturn, 1) := by decide +kernel
theorem dX11_asked_23 : decode cX11_asked 23 = .ok (.aload_n 0, 1) := by decide +kernel
theorem dX11_asked_24 : decode cX11_asked 24 = .ok (.getfield 47, 3) := by decide +kernel
theorem dX11_asked_27 : decode cX11_asked 27 = .ok (.aload_n 0, 1) := by decide +kernel
theorem dX11_asked_28 : decode cX11_asked 28 = .ok (.getfield 67, 3) := by decide +kernel
theorem dX11_asked_31 : decode cX11_asked 31 = .ok (.iload_n 1, 1) := by decide +kernel
theorem dX11_asked_32 : decode cX11_asked 32 = .ok (.invokevirtual 225, 3) := by decide +kernel
theorem dX11_asked_35 : decode cX11_asked 35 = .ok (.aload_n 0, 1) := by decide +kernel
theorem dX11_asked_36 : decode cX11_asked 36 = .ok (.getfield 47, 3) := by decide +kernel
theorem dX11_asked_39 : decode cX11_asked 39 = .ok (.getfield 228, 3) := by decide +kernel
theorem dX11_asked_42 : decode cX11_asked 42 = .ok (.iconst (-1), 1) := by decide +kernel
theorem dX11_asked_43 : decode cX11_asked 43 = .ok (.if_icmp .ne 6, 3) := by decide +kernel
theorem dX11_asked_46 : decode cX11_asked 46 = .ok (.bipush (-2), 2) := by decide +kernel
theorem dX11_asked_48 : decode cX11_asked 48 = .ok (.ireturn, 1) := by decide +kernel
theorem dX11_asked_49 : decode cX11_asked 49 = .ok (.iload_n 2, 1) := by decide +kernel
theorem dX11_asked_50 : decode cX11_asked 50 = .ok (.ifCond .ne 13, 3) := by decide +kernel
theorem dX11_asked_53 : decode cX11_asked 53 = .ok (.aload_n 0, 1) := by decide +kernel
theorem dX11_asked_54 : decode cX11_asked 54 = .ok (.getfield 47, 3) := by decide +kernel
theorem dX11_asked_57 : decode cX11_asked 57 = .ok (.getfield 228, 3) := by decide +kernel
theorem dX11_asked_60 : decode cX11_asked 60 = .ok (.goto 10, 3) := by decide +kernel
theorem dX11_asked_63 : decode cX11_asked 63 = .ok (.aload_n 0, 1) := by decide +kernel
theorem dX11_asked_64 : decode cX11_asked 64 = .ok (.getfield 47, 3) := by decide +kernel
theorem dX11_asked_67 : decode cX11_asked 67 = .ok (.getfield 231, 3) := by decide +kernel
theorem dX11_asked_70 : decode cX11_asked 70 = .ok (.ireturn, 1) := by decide +kernel
theorem dX11_gives_0 : decode cX11_gives 0 = .ok (.iload_n 1, 1) := by decide +kernel
theorem dX11_gives_1 : decode cX11_gives 1 = .ok (.iconst 1, 1) := by decide +kernel
theorem dX11_gives_2 : decode cX11_gives 2 = .ok (.if_icmp .lt 21, 3) := by decide +kernel
theorem dX11_gives_5 : decode cX11_gives 5 = .ok (.iload_n 1, 1) := by decide +kernel
theorem dX11_gives_6 : decode cX11_gives 6 = .ok (.sipush 999, 3) := by decide +kernel
theorem dX11_gives_9 : decode cX11_gives 9 = .ok (.if_icmp .gt 14, 3) := by decide +kernel
theorem dX11_gives_12 : decode cX11_gives 12 = .ok (.aload_n 0, 1) := by decide +kernel
theorem dX11_gives_13 : decode cX11_gives 13 = .ok (.getfield 67, 3) := by decide +kernel
theorem dX11_gives_16 : decode cX11_gives 16 = .ok (.iload_n 2, 1) := by decide +kernel
theorem dX11_gives_17 : decode cX11_gives 17 = .ok (.invokevirtual 102, 3) := by decide +kernel
theorem dX11_gives_20 : decode cX11_gives 20 = .ok (.ifCond .ne 5, 3) := by decide +kernel
theorem dX11_gives_23 : decode cX11_gives 23 = .ok (.iconst (-1), 1) := by decide +kernel
theorem dX11_gives_24 : decode cX11_gives 24 = .ok (.ireturn, 1) := by decide +kernel
theorem dX11_gives_25 : decode cX11_gives 25 = .ok (.aload_n 0, 1) := by decide +kernel
theorem dX11_gives_26 : decode cX11_gives 26 = .ok (.getfield 47, 3) := by decide +kernel
theorem dX11_gives_29 : decode cX11_gives 29 = .ok (.aload_n 0, 1) := by decide +kernel
theorem dX11_gives_30 : decode cX11_gives 30 = .ok (.getfield 67, 3) := by decide +kernel
theorem dX11_gives_33 : decode cX11_gives 33 = .ok (.iload_n 1, 1) := by decide +kernel
theorem dX11_gives_34 : decode cX11_gives 34 = .ok (.invokevirtual 225, 3) := by decide +kernel
theorem dX11_gives_37 : decode cX11_gives 37 = .ok (.aload_n 0, 1) := by decide +kernel
theorem dX11_gives_38 : decode cX11_gives 38 = .ok (.getfield 47, 3) := by decide +kernel
theorem dX11_gives_41 : decode cX11_gives 41 = .ok (.getfield 228, 3) := by decide +kernel
theorem dX11_gives_44 : decode cX11_gives 44 = .ok (.iconst (-1), 1) := by decide +kernel
theorem dX11_gives_45 : decode cX11_gives 45 = .ok (.if_icmp .ne 8, 3) := by decide +kernel
theorem dX11_gives_48 : decode cX11_gives 48 = .ok (.bipush (-2), 2) := by decide +kernel
theorem dX11_gives_50 : decode cX11_gives 50 = .ok (.goto 12, 3) := by decide +kernel
theorem dX11_gives_53 : decode cX11_gives 53 = .ok (.aload_n 0, 1) := by decide +kernel
theorem dX11_gives_54 : decode cX11_gives 54 = .ok (.getfield 47, 3) := by decide +kernel
theorem dX11_gives_57 : decode cX11_gives 57 = .ok (.getfield 234, 3) := by decide +kernel
theorem dX11_gives_60 : decode cX11_gives 60 = .ok (.iload_n 2, 1) := by decide +kernel
theorem dX11_gives_61 : decode cX11_gives 61 = .ok (.iaload, 1) := by decide +kernel
theorem dX11_gives_62 : decode cX11_gives 62 = .ok (.ireturn, 1) := by decide +kernel
theorem dX11_thimble_0 : decode cX11_thimble 0 = .ok (.iload_n 1, 1) := by decide +kernel
theorem dX11_thimble_1 : decode cX11_thimble 1 = .ok (.iload_n 2, 1) := by decide +kernel
theorem dX11_thimble_2 : decode cX11_thimble 2 = .ok (.iload_n 3, 1) := by decide +kernel
theorem dX11_thimble_3 : decode cX11_thimble 3 = .ok (.invokestatic 237, 3) := by decide +kernel
theorem dX11_thimble_6 : decode cX11_thimble 6 = .ok (.ifCond .ne 7, 3) := by decide +kernel
theorem dX11_thimble_9 : decode cX11_thimble 9 = .ok (.ldc2_w 160, 3) := by decide +kernel
theorem dX11_thimble_12 : decode cX11_thimble 12 = .ok (.lreturn, 1) := by decide +kernel
theorem dX11_thimble_13 : decode cX11_thimble 13 = .ok (.aload_n 0, 1) := by decide +kernel
theorem dX11_thimble_14 : decode cX11_thimble 14 = .ok (.getfield 40, 3) := by decide +kernel
theorem dX11_thimble_17 : decode cX11_thimble 17 = .ok (.aload_n 0, 1) := by decide +kernel
theorem dX11_thimble_18 : decode cX11_thimble 18 = .ok (.getfield 67, 3) := by decide +kernel
theorem dX11_thimble_21 : decode cX11_thimble 21 = .ok (.iload_n 1, 1) := by decide +kernel
theorem dX11_thimble_22 : decode cX11_thimble 22 = .ok (.iload_n 2, 1) := by decide +kernel
theorem dX11_thimble_23 : decode cX11_thimble 23 = .ok (.iload_n 3, 1) := by decide +kernel
theorem dX11_thimble_24 : decode cX11_thimble 24 = .ok (.invokevirtual 241, 3) := by decide +kernel
theorem dX11_thimble_27 : decode cX11_thimble 27 = .ok (.aload_n 0, 1) := by decide +kernel
theorem dX11_thimble_28 : decode cX11_thimble 28 = .ok (.getfield 40, 3) := by decide +kernel
theorem dX11_thimble_31 : decode cX11_thimble 31 = .ok (.getfield 244, 3) := by decide +kernel
theorem dX11_thimble_34 : decode cX11_thimble 34 = .ok (.lreturn, 1) := by decide +kernel
theorem dX11_surely_0 : decode cX11_surely 0 = .ok (.iload_n 1, 1) := by decide +kernel
theorem dX11_surely_1 : decode cX11_surely 1 = .ok (.iload_n 2, 1) := by decide +kernel
theorem dX11_surely_2 : decode cX11_surely 2 = .ok (.iload_n 3, 1) := by decide +kernel
theorem dX11_surely_3 : decode cX11_surely 3 = .ok (.invokestatic 237, 3) := by decide +kernel
theorem dX11_surely_6 : decode cX11_surely 6 = .ok (.ifCond .ne 5, 3) := by decide +kernel
theorem dX11_surely_9 : decode cX11_surely 9 = .ok (.iconst (-1), 1) := by decide +kernel
theorem dX11_surely_10 : decode cX11_surely 10 = .ok (.ireturn, 1) := by decide +kernel
theorem dX11_surely_11 : decode cX11_surely 11 = .ok (.aload_n 0, 1) := by decide +kernel
theorem dX11_surely_12 : decode cX11_surely 12 = .ok (.getfield 40, 3) := by decide +kernel
theorem dX11_surely_15 : decode cX11_surely 15 = .ok (.aload_n 0, 1) := by decide +kernel
theorem dX11_surely_16 : decode cX11_surely 16 = .ok (.getfield 67, 3) := by decide +kernel
theorem dX11_surely_19 : decode cX11_surely 19 = .ok (.iload_n 1, 1) := by decide +kernel
theorem dX11_surely_20 : decode cX11_surely 20 = .ok (.iload_n 2, 1) := by decide +kernel
theorem dX11_surely_21 : decode cX11_surely 21 = .ok (.iload_n 3, 1) := by decide +kernel
theorem dX11_surely_22 : decode cX11_surely 22 = .ok (.invokevirtual 241, 3) := by decide +kernel
theorem dX11_surely_25 : decode cX11_surely 25 = .ok (.aload_n 0, 1) := by decide +kernel
theorem dX11_surely_26 : decode cX11_surely 26 = .ok (.getfield 40, 3) := by decide +kernel
theorem dX11_surely_29 : decode cX11_surely 29 = .ok (.getfield 244, 3) := by decide +kernel
theorem dX11_surely_32 : decode cX11_surely 32 = .ok (.lconst 0, 1) := by decide +kernel
theorem dX11_surely_33 : decode cX11_surely 33 = .ok (.lcmp, 1) := by decide +kernel
theorem dX11_surely_34 : decode cX11_surely 34 = .ok (.ifCond .ne 7, 3) := by decide +kernel
theorem dX11_surely_37 : decode cX11_surely 37 = .ok (.iconst 0, 1) := by decide +kernel
theorem dX11_surely_38 : decode cX11_surely 38 = .ok (.goto 10, 3) := by decide +kernel
theorem dX11_surely_41 : decode cX11_surely 41 = .ok (.aload_n 0, 1) := by decide +kernel
theorem dX11_surely_42 : decode cX11_surely 42 = .ok (.getfield 40, 3) := by decide +kernel
theorem dX11_surely_45 : decode cX11_surely 45 = .ok (.getfield 248, 3) := by decide +kernel
theorem dX11_surely_48 : decode cX11_surely 48 = .ok (.ireturn, 1) := by decide +kernel
theorem dX11_firstRow_0 : decode cX11_firstRow 0 = .ok (.iload_n 1, 1) := by decide +kernel
theorem dX11_firstRow_1 : decode cX11_firstRow 1 = .ok (.iload_n 2, 1) := by decide +kernel
theorem dX11_firstRow_2 : decode cX11_firstRow 2 = .ok (.iload_n 3, 1) := by decide +kernel
theorem dX11_firstRow_3 : decode cX11_firstRow 3 = .ok (.invokestatic 237, 3) := by decide +kernel
theorem dX11_firstRow_6 : decode cX11_firstRow 6 = .ok (.ifCond .eq 15, 3) := by decide +kernel
theorem dX11_firstRow_9 : decode cX11_firstRow 9 = .ok (.aload_n 0, 1) := by decide +kernel
theorem dX11_firstRow_10 : decode cX11_firstRow 10 = .ok (.getfield 67, 3) := by decide +kernel
theorem dX11_firstRow_13 : decode cX11_firstRow 13 = .ok (.iload 4, 2) := by decide +kernel
theorem dX11_firstRow_15 : decode cX11_firstRow 15 = .ok (.invokevirtual 130, 3) := by decide +kernel
theorem dX11_firstRow_18 : decode cX11_firstRow 18 = .ok (.ifCond .ne 5, 3) := by decide +kernel
theorem dX11_firstRow_21 : decode cX11_firstRow 21 = .ok (.iconst (-1), 1) := by decide +kernel
theorem dX11_firstRow_22 : decode cX11_firstRow 22 = .ok (.ireturn, 1) := by decide +kernel
theorem dX11_firstRow_23 : decode cX11_firstRow 23 = .ok (.aload_n 0, 1) := by decide +kernel
theorem dX11_firstRow_24 : decode cX11_firstRow 24 = .ok (.getfield 40, 3) := by decide +kernel
theorem dX11_firstRow_27 : decode cX11_firstRow 27 = .ok (.aload_n 0, 1) := by decide +kernel
theorem dX11_firstRow_28 : decode cX11_firstRow 28 = .ok (.getfield 67, 3) := by decide +kernel
theorem dX11_firstRow_31 : decode cX11_firstRow 31 = .ok (.iload_n 1, 1) := by decide +kernel
theorem dX11_firstRow_32 : decode cX11_firstRow 32 = .ok (.iload_n 2, 1) := by decide +kernel
theorem dX11_firstRow_33 : decode cX11_firstRow 33 = .ok (.iload_n 3, 1) := by decide +kernel
theorem dX11_firstRow_34 : decode cX11_firstRow 34 = .ok (.invokevirtual 241, 3) := by decide +kernel
theorem dX11_firstRow_37 : decode cX11_firstRow 37 = .ok (.aload_n 0, 1) := by decide +kernel
theorem dX11_firstRow_38 : decode cX11_firstRow 38 = .ok (.getfield 40, 3) := by decide +kernel
theorem dX11_firstRow_41 : decode cX11_firstRow 41 = .ok (.getfield 244, 3) := by decide +kernel
theorem dX11_firstRow_44 : decode cX11_firstRow 44 = .ok (.lconst 0, 1) := by decide +kernel
theorem dX11_firstRow_45 : decode cX11_firstRow 45 = .ok (.lcmp, 1) := by decide +kernel
theorem dX11_firstRow_46 : decode cX11_firstRow 46 = .ok (.ifCond .ne 8, 3) := by decide +kernel
theorem dX11_firstRow_49 : decode cX11_firstRow 49 = .ok (.bipush (-2), 2) := by decide +kernel
theorem dX11_firstRow_51 : decode cX11_firstRow 51 = .ok (.goto 13, 3) := by decide +kernel
theorem dX11_firstRow_54 : decode cX11_firstRow 54 = .ok (.aload_n 0, 1) := by decide +kernel
theorem dX11_firstRow_55 : decode cX11_firstRow 55 = .ok (.getfield 40, 3) := by decide +kernel
theorem dX11_firstRow_58 : decode cX11_firstRow 58 = .ok (.getfield 251, 3) := by decide +kernel
theorem dX11_firstRow_61 : decode cX11_firstRow 61 = .ok (.iload 4, 2) := by decide +kernel
theorem dX11_firstRow_63 : decode cX11_firstRow 63 = .ok (.iaload, 1) := by decide +kernel
theorem dX11_firstRow_64 : decode cX11_firstRow 64 = .ok (.ireturn, 1) := by decide +kernel
theorem dX11_tell_0 : decode cX11_tell 0 = .ok (.iload_n 1, 1) := by decide +kernel
theorem dX11_tell_1 : decode cX11_tell 1 = .ok (.ifCond .lt 20, 3) := by decide +kernel
theorem dX11_tell_4 : decode cX11_tell 4 = .ok (.iload_n 1, 1) := by decide +kernel
theorem dX11_tell_5 : decode cX11_tell 5 = .ok (.bipush 100, 2) := by decide +kernel
theorem dX11_tell_7 : decode cX11_tell 7 = .ok (.if_icmp .ge 14, 3) := by decide +kernel
theorem dX11_tell_10 : decode cX11_tell 10 = .ok (.iload_n 2, 1) := by decide +kernel
theorem dX11_tell_11 : decode cX11_tell 11 = .ok (.ifCond .lt 10, 3) := by decide +kernel
theorem dX11_tell_14 : decode cX11_tell 14 = .ok (.iload_n 2, 1) := by decide +kernel
theorem dX11_tell_15 : decode cX11_tell 15 = .ok (.sipush 9999, 3) := by decide +kernel
theorem dX11_tell_18 : decode cX11_tell 18 = .ok (.if_icmp .le 5, 3) := by decide +kernel
theorem dX11_tell_21 : decode cX11_tell 21 = .ok (.iconst (-1), 1) := by decide +kernel
theorem dX11_tell_22 : decode cX11_tell 22 = .ok (.ireturn, 1) := by decide +kernel
theorem dX11_tell_23 : decode cX11_tell 23 = .ok (.aload_n 0, 1) := by decide +kernel
theorem dX11_tell_24 : decode cX11_tell 24 = .ok (.getfield 33, 3) := by decide +kernel
theorem dX11_tell_27 : decode cX11_tell 27 = .ok (.iload_n 1, 1) := by decide +kernel
theorem dX11_tell_28 : decode cX11_tell 28 = .ok (.iload_n 2, 1) := by decide +kernel
theorem dX11_tell_29 : decode cX11_tell 29 = .ok (.invokevirtual 254, 3) := by decide +kernel
theorem dX11_tell_32 : decode cX11_tell 32 = .ok (.ireturn, 1) := by decide +kernel
theorem dX11_forget_0 : decode cX11_forget 0 = .ok (.aload_n 0, 1) := by decide +kernel
theorem dX11_forget_1 : decode cX11_forget 1 = .ok (.getfield 33, 3) := by decide +kernel
theorem dX11_forget_4 : decode cX11_forget 4 = .ok (.getfield 257, 3) := by decide +kernel
theorem dX11_forget_7 : decode cX11_forget 7 = .ok (.istore_n 1, 1) := by decide +kernel
theorem dX11_forget_8 : decode cX11_forget 8 = .ok (.aload_n 0, 1) := by decide +kernel
theorem dX11_forget_9 : decode cX11_forget 9 = .ok (.getfield 33, 3) := by decide +kernel
theorem dX11_forget_12 : decode cX11_forget 12 = .ok (.invokevirtual 100, 3) := by decide +kernel
theorem dX11_forget_15 : decode cX11_forget 15 = .ok (.iload_n 1, 1) := by decide +kernel
theorem dX11_forget_16 : decode cX11_forget 16 = .ok (.ireturn, 1) := by decide +kernel
theorem dX11_forged_0 : decode cX11_forged 0 = .ok (.iload_n 1, 1) := by decide +kernel
theorem dX11_forged_1 : decode cX11_forged 1 = .ok (.ifCond .lt 14, 3) := by decide +kernel
theorem dX11_forged_4 : decode cX11_forged 4 = .ok (.iload_n 1, 1) := by decide +kernel
theorem dX11_forged_5 : decode cX11_forged 5 = .ok (.aload_n 0, 1) := by decide +kernel
theorem dX11_forged_6 : decode cX11_forged 6 = .ok (.getfield 33, 3) := by decide +kernel
theorem dX11_forged_9 : decode cX11_forged 9 = .ok (.getfield 257, 3) := by decide +kernel
theorem dX11_forged_12 : decode cX11_forged 12 = .ok (.if_icmp .le 5, 3) := by decide +kernel
theorem dX11_forged_15 : decode cX11_forged 15 = .ok (.iconst (-1), 1) := by decide +kernel
theorem dX11_forged_16 : decode cX11_forged 16 = .ok (.ireturn, 1) := by decide +kernel
theorem dX11_forged_17 : decode cX11_forged 17 = .ok (.aload_n 0, 1) := by decide +kernel
theorem dX11_forged_18 : decode cX11_forged 18 = .ok (.getfield 33, 3) := by decide +kernel
theorem dX11_forged_21 : decode cX11_forged 21 = .ok (.iload_n 1, 1) := by decide +kernel
theorem dX11_forged_22 : decode cX11_forged 22 = .ok (.aload_n 0, 1) := by decide +kernel
theorem dX11_forged_23 : decode cX11_forged 23 = .ok (.getfield 67, 3) := by decide +kernel
theorem dX11_forged_26 : decode cX11_forged 26 = .ok (.aload_n 0, 1) := by decide +kernel
theorem dX11_forged_27 : decode cX11_forged 27 = .ok (.getfield 58, 3) := by decide +kernel
theorem dX11_forged_30 : decode cX11_forged 30 = .ok (.invokevirtual 258, 3) := by decide +kernel
theorem dX11_forged_33 : decode cX11_forged 33 = .ok (.ireturn, 1) := by decide +kernel
theorem dX11_explains_0 : decode cX11_explains 0 = .ok (.iload_n 1, 1) := by decide +kernel
theorem dX11_explains_1 : decode cX11_explains 1 = .ok (.ifCond .lt 19, 3) := by decide +kernel
theorem dX11_explains_4 : decode cX11_explains 4 = .ok (.iload_n 1, 1) := by decide +kernel
theorem dX11_explains_5 : decode cX11_explains 5 = .ok (.aload_n 0, 1) := by decide +kernel
theorem dX11_explains_6 : decode cX11_explains 6 = .ok (.getfield 33, 3) := by decide +kernel
theorem dX11_explains_9 : decode cX11_explains 9 = .ok (.getfield 257, 3) := by decide +kernel
theorem dX11_explains_12 : decode cX11_explains 12 = .ok (.if_icmp .gt 8, 3) := by decide +kernel
theorem dX11_explains_15 : decode cX11_explains 15 = .ok (.iload_n 2, 1) := by decide +kernel
theorem dX11_explains_16 : decode cX11_explains 16 = .ok (.iconst (-1), 1) := by decide +kernel
theorem dX11_explains_17 : decode cX11_explains 17 = .ok (.if_icmp .ge 5, 3) := by decide +kernel
theorem dX11_explains_20 : decode cX11_explains 20 = .ok (.iconst (-1), 1) := by decide +kernel
theorem dX11_explains_21 : decode cX11_explains 21 = .ok (.ireturn, 1) := by decide +kernel
theorem dX11_explains_22 : decode cX11_explains 22 = .ok (.aload_n 0, 1) := by decide +kernel
theorem dX11_explains_23 : decode cX11_explains 23 = .ok (.getfield 33, 3) := by decide +kernel
theorem dX11_explains_26 : decode cX11_explains 26 = .ok (.iload_n 1, 1) := by decide +kernel
theorem dX11_explains_27 : decode cX11_explains 27 = .ok (.aload_n 0, 1) := by decide +kernel
theorem dX11_explains_28 : decode cX11_explains 28 = .ok (.getfield 67, 3) := by decide +kernel
theorem dX11_explains_31 : decode cX11_explains 31 = .ok (.aload_n 0, 1) := by decide +kernel
theorem dX11_explains_32 : decode cX11_explains 32 = .ok (.getfield 58, 3) := by decide +kernel
theorem dX11_explains_35 : decode cX11_explains 35 = .ok (.aload_n 0, 1) := by decide +kernel
theorem dX11_explains_36 : decode cX11_explains 36 = .ok (.getfield 61, 3) := by decide +kernel
theorem dX11_explains_39 : decode cX11_explains 39 = .ok (.invokevirtual 262, 3) := by decide +kernel
theorem dX11_explains_42 : decode cX11_explains 42 = .ok (.iload_n 2, 1) := by decide +kernel
theorem dX11_explains_43 : decode cX11_explains 43 = .ok (.iconst (-1), 1) := by decide +kernel
theorem dX11_explains_44 : decode cX11_explains 44 = .ok (.if_icmp .ne 13, 3) := by decide +kernel
theorem dX11_explains_47 : decode cX11_explains 47 = .ok (.aload_n 0, 1) := by decide +kernel
theorem dX11_explains_48 : decode cX11_explains 48 = .ok (.getfield 33, 3) := by decide +kernel
theorem dX11_explains_51 : decode cX11_explains 51 = .ok (.invokevirtual 265, 3) := by decide +kernel
theorem dX11_explains_54 : decode cX11_explains 54 = .ok (.goto 11, 3) := by decide +kernel
theorem dX11_explains_57 : decode cX11_explains 57 = .ok (.aload_n 0, 1) := by decide +kernel
theorem dX11_explains_58 : decode cX11_explains 58 = .ok (.getfield 33, 3) := by decide +kernel
theorem dX11_explains_61 : decode cX11_explains 61 = .ok (.iload_n 2, 1) := by decide +kernel
theorem dX11_explains_62 : decode cX11_explains 62 = .ok (.invokevirtual 269, 3) := by decide +kernel
theorem dX11_explains_65 : decode cX11_explains 65 = .ok (.ireturn, 1) := by decide +kernel
theorem dX11_hold_0 : decode cX11_hold 0 = .ok (.aload_n 0, 1) := by decide +kernel
theorem dX11_hold_1 : decode cX11_hold 1 = .ok (.getfield 26, 3) := by decide +kernel
theorem dX11_hold_4 : decode cX11_hold 4 = .ok (.iload_n 1, 1) := by decide +kernel
theorem dX11_hold_5 : decode cX11_hold 5 = .ok (.aload_n 0, 1) := by decide +kernel
theorem dX11_hold_6 : decode cX11_hold 6 = .ok (.getfield 54, 3) := by decide +kernel
theorem dX11_hold_9 : decode cX11_hold 9 = .ok (.invokevirtual 272, 3) := by decide +kernel
theorem dX11_hold_12 : decode cX11_hold 12 = .ok (.ireturn, 1) := by decide +kernel
theorem dX11_restore_0 : decode cX11_restore 0 = .ok (.aload_n 0, 1) := by decide +kernel
theorem dX11_restore_1 : decode cX11_restore 1 = .ok (.getfield 26, 3) := by decide +kernel
theorem dX11_restore_4 : decode cX11_restore 4 = .ok (.iload_n 1, 1) := by decide +kernel
theorem dX11_restore_5 : decode cX11_restore 5 = .ok (.aload_n 0, 1) := by decide +kernel
theorem dX11_restore_6 : decode cX11_restore 6 = .ok (.getfield 54, 3) := by decide +kernel
theorem dX11_restore_9 : decode cX11_restore 9 = .ok (.invokevirtual 276, 3) := by decide +kernel
theorem dX11_restore_12 : decode cX11_restore 12 = .ok (.ireturn, 1) := by decide +kernel
theorem dX11_count_0 : decode cX11_count 0 = .ok (.iload_n 1, 1) := by decide +kernel
theorem dX11_count_1 : decode cX11_count 1 = .ok (.tableswitch 184 0 12 #[67, 75, 83, 91, 102, 110, 118, 126, 137, 145, 153, 161, 169], 67) := by decide +kernel
theorem dX11_count_68 : decode cX11_count 68 = .ok (.aload_n 0, 1) := by decide +kernel
theorem dX11_count_69 : decode cX11_count 69 = .ok (.getfield 67, 3) := by decide +kernel
theorem dX11_count_72 : decode cX11_count 72 = .ok (.getfield 279, 3) := by decide +kernel
theorem dX11_count_75 : decode cX11_count 75 = .ok (.ireturn, 1) := by decide +kernel
theorem dX11_count_76 : decode cX11_count 76 = .ok (.aload_n 0, 1) := by decide +kernel
theorem dX11_count_77 : decode cX11_count 77 = .ok (.getfield 67, 3) := by decide +kernel
theorem dX11_count_80 : decode cX11_count 80 = .ok (.getfield 123, 3) := by decide +kernel
theorem dX11_count_83 : decode cX11_count 83 = .ok (.ireturn, 1) := by decide +kernel
theorem dX11_count_84 : decode cX11_count 84 = .ok (.aload_n 0, 1) := by decide +kernel
theorem dX11_count_85 : decode cX11_count 85 = .ok (.getfield 67, 3) := by decide +kernel
theorem dX11_count_88 : decode cX11_count 88 = .ok (.getfield 180, 3) := by decide +kernel
theorem dX11_count_91 : decode cX11_count 91 = .ok (.ireturn, 1) := by decide +kernel
theorem dX11_count_92 : decode cX11_count 92 = .ok (.aload_n 0, 1) := by decide +kernel
theorem dX11_count_93 : decode cX11_count 93 = .ok (.getfield 67, 3) := by decide +kernel
theorem dX11_count_96 : decode cX11_count 96 = .ok (.getfield 151, 3) := by decide +kernel
theorem dX11_count_99 : decode cX11_count 99 = .ok (.getfield 155, 3) := by decide +kernel
theorem dX11_count_102 : decode cX11_count 102 = .ok (.ireturn, 1) := by decide +kernel
theorem dX11_count_103 : decode cX11_count 103 = .ok (.aload_n 0, 1) := by decide +kernel
theorem dX11_count_104 : decode cX11_count 104 = .ok (.getfield 54, 3) := by decide +kernel
theorem dX11_count_107 : decode cX11_count 107 = .ok (.getfield 177, 3) := by decide +kernel
theorem dX11_count_110 : decode cX11_count 110 = .ok (.ireturn, 1) := by decide +kernel
theorem dX11_count_111 : decode cX11_count 111 = .ok (.aload_n 0, 1) := by decide +kernel
theorem dX11_count_112 : decode cX11_count 112 = .ok (.getfield 54, 3) := by decide +kernel
theorem dX11_count_115 : decode cX11_count 115 = .ok (.getfield 139, 3) := by decide +kernel
theorem dX11_count_118 : decode cX11_count 118 = .ok (.ireturn, 1) := by decide +kernel
theorem dX11_count_119 : decode cX11_count 119 = .ok (.aload_n 0, 1) := by decide +kernel
theorem dX11_count_120 : decode cX11_count 120 = .ok (.getfield 67, 3) := by decide +kernel
theorem dX11_count_123 : decode cX11_count 123 = .ok (.getfield 282, 3) := by decide +kernel
theorem dX11_count_126 : decode cX11_count 126 = .ok (.ireturn, 1) := by decide +kernel
theorem dX11_count_127 : decode cX11_count 127 = .ok (.aload_n 0, 1) := by decide +kernel
theorem dX11_count_128 : decode cX11_count 128 = .ok (.getfield 54, 3) := by decide +kernel
theorem dX11_count_131 : decode cX11_count 131 = .ok (.getfield 110, 3) := by decide +kernel
theorem dX11_count_134 : decode cX11_count 134 = .ok (.invokestatic 285, 3) := by decide +kernel
theorem dX11_count_137 : decode cX11_count 137 = .ok (.ireturn, 1) := by decide +kernel
theorem dX11_count_138 : decode cX11_count 138 = .ok (.aload_n 0, 1) := by decide +kernel
theorem dX11_count_139 : decode cX11_count 139 = .ok (.getfield 12, 3) := by decide +kernel
theorem dX11_count_142 : decode cX11_count 142 = .ok (.getfield 85, 3) := by decide +kernel
theorem dX11_count_145 : decode cX11_count 145 = .ok (.ireturn, 1) := by decide +kernel
theorem dX11_count_146 : decode cX11_count 146 = .ok (.aload_n 0, 1) := by decide +kernel
theorem dX11_count_147 : decode cX11_count 147 = .ok (.getfield 26, 3) := by decide +kernel
theorem dX11_count_150 : decode cX11_count 150 = .ok (.getfield 289, 3) := by decide +kernel
theorem dX11_count_153 : decode cX11_count 153 = .ok (.ireturn, 1) := by decide +kernel
theorem dX11_count_154 : decode cX11_count 154 = .ok (.aload_n 0, 1) := by decide +kernel
theorem dX11_count_155 : decode cX11_count 155 = .ok (.getfield 33, 3) := by decide +kernel
theorem dX11_count_158 : decode cX11_count 158 = .ok (.getfield 257, 3) := by decide +kernel
theorem dX11_count_161 : decode cX11_count 161 = .ok (.ireturn, 1) := by decide +kernel
theorem dX11_count_162 : decode cX11_count 162 = .ok (.aload_n 0, 1) := by decide +kernel
theorem dX11_count_163 : decode cX11_count 163 = .ok (.getfield 26, 3) := by decide +kernel
theorem dX11_count_166 : decode cX11_count 166 = .ok (.invokevirtual 290, 3) := by decide +kernel
theorem dX11_count_169 : decode cX11_count 169 = .ok (.ireturn, 1) := by decide +kernel
theorem dX11_count_170 : decode cX11_count 170 = .ok (.ldc2_w 293, 3) := by decide +kernel
theorem dX11_count_173 : decode cX11_count 173 = .ok (.aload_n 0, 1) := by decide +kernel
theorem dX11_count_174 : decode cX11_count 174 = .ok (.getfield 54, 3) := by decide +kernel
theorem dX11_count_177 : decode cX11_count 177 = .ok (.invokevirtual 212, 3) := by decide +kernel
theorem dX11_count_180 : decode cX11_count 180 = .ok (.invokestatic 295, 3) := by decide +kernel
theorem dX11_count_183 : decode cX11_count 183 = .ok (.l2i, 1) := by decide +kernel
theorem dX11_count_184 : decode cX11_count 184 = .ok (.ireturn, 1) := by decide +kernel
theorem dX11_count_185 : decode cX11_count 185 = .ok (.iconst (-1), 1) := by decide +kernel
theorem dX11_count_186 : decode cX11_count 186 = .ok (.ireturn, 1) := by decide +kernel
theorem dX11_areTwo_0 : decode cX11_areTwo 0 = .ok (.aload_n 0, 1) := by decide +kernel
theorem dX11_areTwo_1 : decode cX11_areTwo 1 = .ok (.getfield 67, 3) := by decide +kernel
theorem dX11_areTwo_4 : decode cX11_areTwo 4 = .ok (.iload_n 1, 1) := by decide +kernel
theorem dX11_areTwo_5 : decode cX11_areTwo 5 = .ok (.invokevirtual 102, 3) := by decide +kernel
theorem dX11_areTwo_8 : decode cX11_areTwo 8 = .ok (.ifCond .eq 23, 3) := by decide +kernel
theorem dX11_areTwo_11 : decode cX11_areTwo 11 = .ok (.aload_n 0, 1) := by decide +kernel
theorem dX11_areTwo_12 : decode cX11_areTwo 12 = .ok (.getfield 67, 3) := by decide +kernel
theorem dX11_areTwo_15 : decode cX11_areTwo 15 = .ok (.iload_n 2, 1) := by decide +kernel
theorem dX11_areTwo_16 : decode cX11_areTwo 16 = .ok (.invokevirtual 102, 3) := by decide +kernel
theorem dX11_areTwo_19 : decode cX11_areTwo 19 = .ok (.ifCond .eq 12, 3) := by decide +kernel
theorem dX11_areTwo_22 : decode cX11_areTwo 22 = .ok (.iload_n 1, 1) := by decide +kernel
theorem dX11_areTwo_23 : decode cX11_areTwo 23 = .ok (.iload_n 2, 1) := by decide +kernel
theorem dX11_areTwo_24 : decode cX11_areTwo 24 = .ok (.if_icmp .eq 7, 3) := by decide +kernel
theorem dX11_areTwo_27 : decode cX11_areTwo 27 = .ok (.iconst 1, 1) := by decide +kernel
theorem dX11_areTwo_28 : decode cX11_areTwo 28 = .ok (.goto 4, 3) := by decide +kernel
theorem dX11_areTwo_31 : decode cX11_areTwo 31 = .ok (.iconst 0, 1) := by decide +kernel
theorem dX11_areTwo_32 : decode cX11_areTwo 32 = .ok (.ireturn, 1) := by decide +kernel
theorem dX11_isThimble_0 : decode cX11_isThimble 0 = .ok (.iload_n 0, 1) := by decide +kernel
theorem dX11_isThimble_1 : decode cX11_isThimble 1 = .ok (.ifCond .lt 21, 3) := by decide +kernel
theorem dX11_isThimble_4 : decode cX11_isThimble 4 = .ok (.iload_n 0, 1) := by decide +kernel
theorem dX11_isThimble_5 : decode cX11_isThimble 5 = .ok (.bipush 60, 2) := by decide +kernel
theorem dX11_isThimble_7 : decode cX11_isThimble 7 = .ok (.if_icmp .gt 15, 3) := by decide +kernel
theorem dX11_isThimble_10 : decode cX11_isThimble 10 = .ok (.iload_n 1, 1) := by decide +kernel
theorem dX11_isThimble_11 : decode cX11_isThimble 11 = .ok (.ifCond .lt 11, 3) := by decide +kernel
theorem dX11_isThimble_14 : decode cX11_isThimble 14 = .ok (.iload_n 2, 1) := by decide +kernel
theorem dX11_isThimble_15 : decode cX11_isThimble 15 = .ok (.ifCond .lt 7, 3) := by decide +kernel
theorem dX11_isThimble_18 : decode cX11_isThimble 18 = .ok (.iconst 1, 1) := by decide +kernel
theorem dX11_isThimble_19 : decode cX11_isThimble 19 = .ok (.goto 4, 3) := by decide +kernel
theorem dX11_isThimble_22 : decode cX11_isThimble 22 = .ok (.iconst 0, 1) := by decide +kernel
theorem dX11_isThimble_23 : decode cX11_isThimble 23 = .ok (.ireturn, 1) := by decide +kernel
theorem dX11_total_0 : decode cX11_total 0 = .ok (.iconst 0, 1) := by decide +kernel
theorem dX11_total_1 : decode cX11_total 1 = .ok (.istore_n 1, 1) := by decide +kernel
theorem dX11_total_2 : decode cX11_total 2 = .ok (.iconst 0, 1) := by decide +kernel
theorem dX11_total_3 : decode cX11_total 3 = .ok (.istore_n 2, 1) := by decide +kernel
theorem dX11_total_4 : decode cX11_total 4 = .ok (.iload_n 2, 1) := by decide +kernel
theorem dX11_total_5 : decode cX11_total 5 = .ok (.aload_n 0, 1) := by decide +kernel
theorem dX11_total_6 : decode cX11_total 6 = .ok (.arraylength, 1) := by decide +kernel
theorem dX11_total_7 : decode cX11_total 7 = .ok (.if_icmp .ge 15, 3) := by decide +kernel
theorem dX11_total_10 : decode cX11_total 10 = .ok (.iload_n 1, 1) := by decide +kernel
theorem dX11_total_11 : decode cX11_total 11 = .ok (.aload_n 0, 1) := by decide +kernel
theorem dX11_total_12 : decode cX11_total 12 = .ok (.iload_n 2, 1) := by decide +kernel
theorem dX11_total_13 : decode cX11_total 13 = .ok (.iaload, 1) := by decide +kernel
theorem dX11_total_14 : decode cX11_total 14 = .ok (.iadd, 1) := by decide +kernel
theorem dX11_total_15 : decode cX11_total 15 = .ok (.istore_n 1, 1) := by decide +kernel
theorem dX11_total_16 : decode cX11_total 16 = .ok (.iinc 2 1, 3) := by decide +kernel
theorem dX11_total_19 : decode cX11_total 19 = .ok (.goto (-15), 3) := by decide +kernel
theorem dX11_total_22 : decode cX11_total 22 = .ok (.iload_n 1, 1) := by decide +kernel
theorem dX11_total_23 : decode cX11_total 23 = .ok (.ireturn, 1) := by decide +kernel
theorem dX11_greatestDivisor_0 : decode cX11_greatestDivisor 0 = .ok (.lload_n 2, 1) := by decide +kernel
theorem dX11_greatestDivisor_1 : decode cX11_greatestDivisor 1 = .ok (.lstore 4, 2) := by decide +kernel
theorem dX11_greatestDivisor_3 : decode cX11_greatestDivisor 3 = .ok (.lload_n 0, 1) := by decide +kernel
theorem dX11_greatestDivisor_4 : decode cX11_greatestDivisor 4 = .ok (.lstore 6, 2) := by decide +kernel
theorem dX11_greatestDivisor_6 : decode cX11_greatestDivisor 6 = .ok (.iconst 0, 1) := by decide +kernel
theorem dX11_greatestDivisor_7 : decode cX11_greatestDivisor 7 = .ok (.istore 8, 2) := by decide +kernel
theorem dX11_greatestDivisor_9 : decode cX11_greatestDivisor 9 = .ok (.iload 8, 2) := by decide +kernel
theorem dX11_greatestDivisor_11 : decode cX11_greatestDivisor 11 = .ok (.sipush 1000, 3) := by decide +kernel
theorem dX11_greatestDivisor_14 : decode cX11_greatestDivisor 14 = .ok (.if_icmp .ge 31, 3) := by decide +kernel
theorem dX11_greatestDivisor_17 : decode cX11_greatestDivisor 17 = .ok (.lload 6, 2) := by decide +kernel
theorem dX11_greatestDivisor_19 : decode cX11_greatestDivisor 19 = .ok (.lconst 0, 1) := by decide +kernel
theorem dX11_greatestDivisor_20 : decode cX11_greatestDivisor 20 = .ok (.lcmp, 1) := by decide +kernel
theorem dX11_greatestDivisor_21 : decode cX11_greatestDivisor 21 = .ok (.ifCond .eq 24, 3) := by decide +kernel
theorem dX11_greatestDivisor_24 : decode cX11_greatestDivisor 24 = .ok (.lload 4, 2) := by decide +kernel
theorem dX11_greatestDivisor_26 : decode cX11_greatestDivisor 26 = .ok (.lload 6, 2) := by decide +kernel
theorem dX11_greatestDivisor_28 : decode cX11_greatestDivisor 28 = .ok (.lrem, 1) := by decide +kernel
theorem dX11_greatestDivisor_29 : decode cX11_greatestDivisor 29 = .ok (.lstore 9, 2) := by decide +kernel
theorem dX11_greatestDivisor_31 : decode cX11_greatestDivisor 31 = .ok (.lload 6, 2) := by decide +kernel
theorem dX11_greatestDivisor_33 : decode cX11_greatestDivisor 33 = .ok (.lstore 4, 2) := by decide +kernel
theorem dX11_greatestDivisor_35 : decode cX11_greatestDivisor 35 = .ok (.lload 9, 2) := by decide +kernel
theorem dX11_greatestDivisor_37 : decode cX11_greatestDivisor 37 = .ok (.lstore 6, 2) := by decide +kernel
theorem dX11_greatestDivisor_39 : decode cX11_greatestDivisor 39 = .ok (.iinc 8 1, 3) := by decide +kernel
theorem dX11_greatestDivisor_42 : decode cX11_greatestDivisor 42 = .ok (.goto (-33), 3) := by decide +kernel
theorem dX11_greatestDivisor_45 : decode cX11_greatestDivisor 45 = .ok (.lconst 1, 1) := by decide +kernel
theorem dX11_greatestDivisor_46 : decode cX11_greatestDivisor 46 = .ok (.lload 4, 2) := by decide +kernel
theorem dX11_greatestDivisor_48 : decode cX11_greatestDivisor 48 = .ok (.invokestatic 298, 3) := by decide +kernel
theorem dX11_greatestDivisor_51 : decode cX11_greatestDivisor 51 = .ok (.lreturn, 1) := by decide +kernel
theorem dX12_init_0 : decode cX12_init 0 = .ok (.aload_n 0, 1) := by decide +kernel
theorem dX12_init_1 : decode cX12_init 1 = .ok (.invokespecial 7, 3) := by decide +kernel
theorem dX12_init_4 : decode cX12_init 4 = .ok (.aload_n 0, 1) := by decide +kernel
theorem dX12_init_5 : decode cX12_init 5 = .ok (.sipush 2000, 3) := by decide +kernel
theorem dX12_init_8 : decode cX12_init 8 = .ok (.newarray .byte, 2) := by decide +kernel
theorem dX12_init_10 : decode cX12_init 10 = .ok (.putfield 13, 3) := by decide +kernel
theorem dX12_init_13 : decode cX12_init 13 = .ok (.aload_n 0, 1) := by decide +kernel
theorem dX12_init_14 : decode cX12_init 14 = .ok (.sipush 2000, 3) := by decide +kernel
theorem dX12_init_17 : decode cX12_init 17 = .ok (.newarray .byte, 2) := by decide +kernel
theorem dX12_init_19 : decode cX12_init 19 = .ok (.putfield 17, 3) := by decide +kernel
theorem dX12_init_22 : decode cX12_init 22 = .ok (.aload_n 0, 1) := by decide +kernel
theorem dX12_init_23 : decode cX12_init 23 = .ok (.sipush 403, 3) := by decide +kernel
theorem dX12_init_26 : decode cX12_init 26 = .ok (.newarray .int, 2) := by decide +kernel
theorem dX12_init_28 : decode cX12_init 28 = .ok (.putfield 20, 3) := by decide +kernel
theorem dX12_init_31 : decode cX12_init 31 = .ok (.aload_n 0, 1) := by decide +kernel
theorem dX12_init_32 : decode cX12_init 32 = .ok (.sipush 403, 3) := by decide +kernel
theorem dX12_init_35 : decode cX12_init 35 = .ok (.newarray .int, 2) := by decide +kernel
theorem dX12_init_37 : decode cX12_init 37 = .ok (.putfield 24, 3) := by decide +kernel
theorem dX12_init_40 : decode cX12_init 40 = .ok (.aload_n 0, 1) := by decide +kernel
theorem dX12_init_41 : decode cX12_init 41 = .ok (.sipush 403, 3) := by decide +kernel
theorem dX12_init_44 : decode cX12_init 44 = .ok (.newarray .int, 2) := by decide +kernel
theorem dX12_init_46 : decode cX12_init 46 = .ok (.putfield 27, 3) := by decide +kernel
theorem dX12_init_49 : decode cX12_init 49 = .ok (.aload_n 0, 1) := by decide +kernel
theorem dX12_init_50 : decode cX12_init 50 = .ok (.sipush 403, 3) := by decide +kernel
theorem dX12_init_53 : decode cX12_init 53 = .ok (.newarray .long, 2) := by decide +kernel
theorem dX12_init_55 : decode cX12_init 55 = .ok (.putfield 30, 3) := by decide +kernel
theorem dX12_init_58 : decode cX12_init 58 = .ok (.aload_n 0, 1) := by decide +kernel
theorem dX12_init_59 : decode cX12_init 59 = .ok (.bipush 17, 2) := by decide +kernel
theorem dX12_init_61 : decode cX12_init 61 = .ok (.newarray .long, 2) := by decide +kernel
theorem dX12_init_63 : decode cX12_init 63 = .ok (.putfield 34, 3) := by decide +kernel
theorem dX12_init_66 : decode cX12_init 66 = .ok (.aload_n 0, 1) := by decide +kernel
theorem dX12_init_67 : decode cX12_init 67 = .ok (.iconst (-1), 1) := by decide +kernel
theorem dX12_init_68 : decode cX12_init 68 = .ok (.putfield 37, 3) := by decide +kernel
theorem dX12_init_71 : decode cX12_init 71 = .ok (.aload_n 0, 1) := by decide +kernel
theorem dX12_init_72 : decode cX12_init 72 = .ok (.bipush 24, 2) := by decide +kernel
theorem dX12_init_74 : decode cX12_init 74 = .ok (.newarray .long, 2) := by decide +kernel
theorem dX12_init_76 : decode cX12_init 76 = .ok (.putfield 40, 3) := by decide +kernel
theorem dX12_init_79 : decode cX12_init 79 = .ok (.aload_n 0, 1) := by decide +kernel
theorem dX12_init_80 : decode cX12_init 80 = .ok (.bipush 24, 2) := by decide +kernel
theorem dX12_init_82 : decode cX12_init 82 = .ok (.newarray .int, 2) := by decide +kernel
theorem dX12_init_84 : decode cX12_init 84 = .ok (.putfield 43, 3) := by decide +kernel
theorem dX12_init_87 : decode cX12_init 87 = .ok (.aload_n 0, 1) := by decide +kernel
theorem dX12_init_88 : decode cX12_init 88 = .ok (.bipush 24, 2) := by decide +kernel
theorem dX12_init_90 : decode cX12_init 90 = .ok (.newarray .int, 2) := by decide +kernel
theorem dX12_init_92 : decode cX12_init 92 = .ok (.putfield 46, 3) := by decide +kernel
theorem dX12_init_95 : decode cX12_init 95 = .ok (.aload_n 0, 1) := by decide +kernel
theorem dX12_init_96 : decode cX12_init 96 = .ok (.iconst 2, 1) := by decide +kernel
theorem dX12_init_97 : decode cX12_init 97 = .ok (.newarray .int, 2) := by decide +kernel
theorem dX12_init_99 : decode cX12_init 99 = .ok (.putfield 49, 3) := by decide +kernel
theorem dX12_init_102 : decode cX12_init 102 = .ok (.aload_n 0, 1) := by decide +kernel
theorem dX12_init_103 : decode cX12_init 103 = .ok (.bipush 10, 2) := by decide +kernel
theorem dX12_init_105 : decode cX12_init 105 = .ok (.newarray .int, 2) := by decide +kernel
theorem dX12_init_107 : decode cX12_init 107 = .ok (.putfield 52, 3) := by decide +kernel
theorem dX12_init_110 : decode cX12_init 110 = .ok (.aload_n 0, 1) := by decide +kernel
theorem dX12_init_111 : decode cX12_init 111 = .ok (.bipush 10, 2) := by decide +kernel
theorem dX12_init_113 : decode cX12_init 113 = .ok (.newarray .int, 2) := by decide +kernel
theorem dX12_init_115 : decode cX12_init 115 = .ok (.putfield 55, 3) := by decide +kernel
theorem dX12_init_118 : decode cX12_init 118 = .ok (.aload_n 0, 1) := by decide +kernel
theorem dX12_init_119 : decode cX12_init 119 = .ok (.iconst 2, 1) := by decide +kernel
theorem dX12_init_120 : decode cX12_init 120 = .ok (.newarray .int, 2) := by decide +kernel
theorem dX12_init_122 : decode cX12_init 122 = .ok (.putfield 58, 3) := by decide +kernel
theorem dX12_init_125 : decode cX12_init 125 = .ok (.aload_n 0, 1) := by decide +kernel
theorem dX12_init_126 : decode cX12_init 126 = .ok (.bipush 16, 2) := by decide +kernel
theorem dX12_init_128 : decode cX12_init 128 = .ok (.newarray .int, 2) := by decide +kernel
theorem dX12_init_130 : decode cX12_init 130 = .ok (.putfield 61, 3) := by decide +kernel
theorem dX12_init_133 : decode cX12_init 133 = .ok (.aload_n 0, 1) := by decide +kernel
theorem dX12_init_134 : decode cX12_init 134 = .ok (.bipush 16, 2) := by decide +kernel
theorem dX12_init_136 : decode cX12_init 136 = .ok (.newarray .int, 2) := by decide +kernel
theorem dX12_init_138 : decode cX12_init 138 = .ok (.putfield 64, 3) := by decide +kernel
theorem dX12_init_141 : decode cX12_init 141 = .ok (.aload_n 0, 1) := by decide +kernel
theorem dX12_init_142 : decode cX12_init 142 = .ok (.bipush 16, 2) := by decide +kernel
theorem dX12_init_144 : decode cX12_init 144 = .ok (.newarray .int, 2) := by decide +kernel
theorem dX12_init_146 : decode cX12_init 146 = .ok (.putfield 67, 3) := by decide +kernel
theorem dX12_init_149 : decode cX12_init 149 = .ok (.aload_n 0, 1) := by decide +kernel
theorem dX12_init_150 : decode cX12_init 150 = .ok (.bipush 16, 2) := by decide +kernel
theorem dX12_init_152 : decode cX12_init 152 = .ok (.newarray .int, 2) := by decide +kernel
theorem dX12_init_154 : decode cX12_init 154 = .ok (.putfield 70, 3) := by decide +kernel
theorem dX12_init_157 : decode cX12_init 157 = .ok (.aload_n 0, 1) := by decide +kernel
theorem dX12_init_158 : decode cX12_init 158 = .ok (.iconst 2, 1) := by decide +kernel
theorem dX12_init_159 : decode cX12_init 159 = .ok (.newarray .int, 2) := by decide +kernel
theorem dX12_init_161 : decode cX12_init 161 = .ok (.putfield 73, 3) := by decide +kernel
theorem dX12_init_164 : decode cX12_init 164 = .ok (.aload_n 0, 1) := by decide +kernel
theorem dX12_init_165 : decode cX12_init 165 = .ok (.bipush 32, 2) := by decide +kernel
theorem dX12_init_167 : decode cX12_init 167 = .ok (.newarray .int, 2) := by decide +kernel
theorem dX12_init_169 : decode cX12_init 169 = .ok (.putfield 76, 3) := by decide +kernel
theorem dX12_init_172 : decode cX12_init 172 = .ok (.aload_n 0, 1) := by decide +kernel
theorem dX12_init_173 : decode cX12_init 173 = .ok (.bipush 32, 2) := by decide +kernel
theorem dX12_init_175 : decode cX12_init 175 = .ok (.newarray .int, 2) := by decide +kernel
theorem dX12_init_177 : decode cX12_init 177 = .ok (.putfield 79, 3) := by decide +kernel
theorem dX12_init_180 : decode cX12_init 180 = .ok (.aload_n 0, 1) := by decide +kernel
theorem dX12_init_181 : decode cX12_init 181 = .ok (.iconst 2, 1) := by decide +kernel
theorem dX12_init_182 : decode cX12_init 182 = .ok (.newarray .int, 2) := by decide +kernel
theorem dX12_init_184 : decode cX12_init 184 = .ok (.putfield 82, 3) := by decide +kernel
theorem dX12_init_187 : decode cX12_init 187 = .ok (.aload_n 0, 1) := by decide +kernel
theorem dX12_init_188 : decode cX12_init 188 = .ok (.bipush 12, 2) := by decide +kernel
theorem dX12_init_190 : decode cX12_init 190 = .ok (.newarray .int, 2) := by decide +kernel
theorem dX12_init_192 : decode cX12_init 192 = .ok (.putfield 85, 3) := by decide +kernel
theorem dX12_init_195 : decode cX12_init 195 = .ok (.aload_n 0, 1) := by decide +kernel
theorem dX12_init_196 : decode cX12_init 196 = .ok (.bipush 72, 2) := by decide +kernel
theorem dX12_init_198 : decode cX12_init 198 = .ok (.newarray .int, 2) := by decide +kernel
theorem dX12_init_200 : decode cX12_init 200 = .ok (.putfield 88, 3) := by decide +kernel
theorem dX12_init_203 : decode cX12_init 203 = .ok (.aload_n 0, 1) := by decide +kernel
theorem dX12_init_204 : decode cX12_init 204 = .ok (.bipush 72, 2) := by decide +kernel
theorem dX12_init_206 : decode cX12_init 206 = .ok (.newarray .int, 2) := by decide +kernel
theorem dX12_init_208 : decode cX12_init 208 = .ok (.putfield 91, 3) := by decide +kernel
theorem dX12_init_211 : decode cX12_init 211 = .ok (.aload_n 0, 1) := by decide +kernel
theorem dX12_init_212 : decode cX12_init 212 = .ok (.bipush 72, 2) := by decide +kernel
theorem dX12_init_214 : decode cX12_init 214 = .ok (.newarray .int, 2) := by decide +kernel
theorem dX12_init_216 : decode cX12_init 216 = .ok (.putfield 94, 3) := by decide +kernel
theorem dX12_init_219 : decode cX12_init 219 = .ok (.aload_n 0, 1) := by decide +kernel
theorem dX12_init_220 : decode cX12_init 220 = .ok (.iconst 2, 1) := by decide +kernel
theorem dX12_init_221 : decode cX12_init 221 = .ok (.newarray .int, 2) := by decide +kernel
theorem dX12_init_223 : decode cX12_init 223 = .ok (.putfield 97, 3) := by decide +kernel
theorem dX12_init_226 : decode cX12_init 226 = .ok (.aload_n 0, 1) := by decide +kernel
theorem dX12_init_227 : decode cX12_init 227 = .ok (.iconst 2, 1) := by decide +kernel
theorem dX12_init_228 : decode cX12_init 228 = .ok (.newarray .int, 2) := by decide +kernel
theorem dX12_init_230 : decode cX12_init 230 = .ok (.putfield 100, 3) := by decide +kernel
theorem dX12_init_233 : decode cX12_init 233 = .ok (.aload_n 0, 1) := by decide +kernel
theorem dX12_init_234 : decode cX12_init 234 = .ok (.bipush 34, 2) := by decide +kernel
theorem dX12_init_236 : decode cX12_init 236 = .ok (.newarray .int, 2) := by decide +kernel
theorem dX12_init_238 : decode cX12_init 238 = .ok (.putfield 103, 3) := by decide +kernel
theorem dX12_init_241 : decode cX12_init 241 = .ok (.aload_n 0, 1) := by decide +kernel
theorem dX12_init_242 : decode cX12_init 242 = .ok (.bipush 34, 2) := by decide +kernel
theorem dX12_init_244 : decode cX12_init 244 = .ok (.newarray .int, 2) := by decide +kernel
theorem dX12_init_246 : decode cX12_init 246 = .ok (.putfield 106, 3) := by decide +kernel
theorem dX12_init_249 : decode cX12_init 249 = .ok (.aload_n 0, 1) := by decide +kernel
theorem dX12_init_250 : decode cX12_init 250 = .ok (.sipush 260, 3) := by decide +kernel
theorem dX12_init_253 : decode cX12_init 253 = .ok (.newarray .boolean, 2) := by decide +kernel
theorem dX12_init_255 : decode cX12_init 255 = .ok (.putfield 109, 3) := by decide +kernel
theorem dX12_init_258 : decode cX12_init 258 = .ok (.aload_n 0, 1) := by decide +kernel
theorem dX12_init_259 : decode cX12_init 259 = .ok (.sipush 260, 3) := by decide +kernel
theorem dX12_init_262 : decode cX12_init 262 = .ok (.newarray .int, 2) := by decide +kernel
theorem dX12_init_264 : decode cX12_init 264 = .ok (.putfield 113, 3) := by decide +kernel
theorem dX12_init_267 : decode cX12_init 267 = .ok (.aload_n 0, 1) := by decide +kernel
theorem dX12_init_268 : decode cX12_init 268 = .ok (.sipush 260, 3) := by decide +kernel
theorem dX12_init_271 : decode cX12_init 271 = .ok (.newarray .int, 2) := by decide +kernel
theorem dX12_init_273 : decode cX12_init 273 = .ok (.putfield 116, 3) := by decide +kernel
theorem dX12_init_276 : decode cX12_init 276 = .ok (.aload_n 0, 1) := by decide +kernel
theorem dX12_init_277 : decode cX12_init 277 = .ok (.sipush 260, 3) := by decide +kernel
theorem dX12_init_280 : decode cX12_init 280 = .ok (.newarray .int, 2) := by decide +kernel
theorem dX12_init_282 : decode cX12_init 282 = .ok (.putfield 119, 3) := by decide +kernel
theorem dX12_init_285 : decode cX12_init 285 = .ok (.aload_n 0, 1) := by decide +kernel
theorem dX12_init_286 : decode cX12_init 286 = .ok (.sipush 260, 3) := by decide +kernel
theorem dX12_init_289 : decode cX12_init 289 = .ok (.newarray .int, 2) := by decide +kernel
theorem dX12_init_291 : decode cX12_init 291 = .ok (.putfield 122, 3) := by decide +kernel
theorem dX12_init_294 : decode cX12_init 294 = .ok (.aload_n 0, 1) := by decide +kernel
theorem dX12_init_295 : decode cX12_init 295 = .ok (.sipush 840, 3) := by decide +kernel
theorem dX12_init_298 : decode cX12_init 298 = .ok (.newarray .int, 2) := by decide +kernel
theorem dX12_init_300 : decode cX12_init 300 = .ok (.putfield 125, 3) := by decide +kernel
theorem dX12_init_303 : decode cX12_init 303 = .ok (.aload_n 0, 1) := by decide +kernel
theorem dX12_init_304 : decode cX12_init 304 = .ok (.sipush 840, 3) := by decide +kernel
theorem dX12_init_307 : decode cX12_init 307 = .ok (.newarray .int, 2) := by decide +kernel
theorem dX12_init_309 : decode cX12_init 309 = .ok (.putfield 128, 3) := by decide +kernel
theorem dX12_init_312 : decode cX12_init 312 = .ok (.aload_n 0, 1) := by decide +kernel
theorem dX12_init_313 : decode cX12_init 313 = .ok (.bipush 64, 2) := by decide +kernel
theorem dX12_init_315 : decode cX12_init 315 = .ok (.newarray .int, 2) := by decide +kernel
theorem dX12_init_317 : decode cX12_init 317 = .ok (.putfield 131, 3) := by decide +kernel
theorem dX12_init_320 : decode cX12_init 320 = .ok (.aload_n 0, 1) := by decide +kernel
theorem dX12_init_321 : decode cX12_init 321 = .ok (.bipush 6, 2) := by decide +kernel
theorem dX12_init_323 : decode cX12_init 323 = .ok (.newarray .int, 2) := by decide +kernel
theorem dX12_init_325 : decode cX12_init 325 = .ok (.putfield 134, 3) := by decide +kernel
theorem dX12_init_328 : decode cX12_init 328 = .ok (.aload_n 0, 1) := by decide +kernel
theorem dX12_init_329 : decode cX12_init 329 = .ok (.sipush 400, 3) := by decide +kernel
theorem dX12_init_332 : decode cX12_init 332 = .ok (.newarray .int, 2) := by decide +kernel
theorem dX12_init_334 : decode cX12_init 334 = .ok (.putfield 137, 3) := by decide +kernel
theorem dX12_init_337 : decode cX12_init 337 = .ok (.aload_n 0, 1) := by decide +kernel
theorem dX12_init_338 : decode cX12_init 338 = .ok (.bipush 80, 2) := by decide +kernel
theorem dX12_init_340 : decode cX12_init 340 = .ok (.newarray .int, 2) := by decide +kernel
theorem dX12_init_342 : decode cX12_init 342 = .ok (.putfield 140, 3) := by decide +kernel
theorem dX12_init_345 : decode cX12_init 345 = .ok (.aload_n 0, 1) := by decide +kernel
theorem dX12_init_346 : decode cX12_init 346 = .ok (.bipush 80, 2) := by decide +kernel
theorem dX12_init_348 : decode cX12_init 348 = .ok (.newarray .int, 2) := by decide +kernel
theorem dX12_init_350 : decode cX12_init 350 = .ok (.putfield 143, 3) := by decide +kernel
theorem dX12_init_353 : decode cX12_init 353 = .ok (.aload_n 0, 1) := by decide +kernel
theorem dX12_init_354 : decode cX12_init 354 = .ok (.bipush 40, 2) := by decide +kernel
theorem dX12_init_356 : decode cX12_init 356 = .ok (.newarray .int, 2) := by decide +kernel
theorem dX12_init_358 : decode cX12_init 358 = .ok (.putfield 146, 3) := by decide +kernel
theorem dX12_init_361 : decode cX12_init 361 = .ok (.aload_n 0, 1) := by decide +kernel
theorem dX12_init_362 : decode cX12_init 362 = .ok (.bipush 40, 2) := by decide +kernel
theorem dX12_init_364 : decode cX12_init 364 = .ok (.newarray .long, 2) := by decide +kernel
theorem dX12_init_366 : decode cX12_init 366 = .ok (.putfield 149, 3) := by decide +kernel
theorem dX12_init_369 : decode cX12_init 369 = .ok (.aload_n 0, 1) := by decide +kernel
theorem dX12_init_370 : decode cX12_init 370 = .ok (.sipush 2400, 3) := by decide +kernel
theorem dX12_init_373 : decode cX12_init 373 = .ok (.newarray .int, 2) := by decide +kernel
theorem dX12_init_375 : decode cX12_init 375 = .ok (.putfield 152, 3) := by decide +kernel
theorem dX12_init_378 : decode cX12_init 378 = .ok (.aload_n 0, 1) := by decide +kernel
theorem dX12_init_379 : decode cX12_init 379 = .ok (.bipush 8, 2) := by decide +kernel
theorem dX12_init_381 : decode cX12_init 381 = .ok (.newarray .int, 2) := by decide +kernel
theorem dX12_init_383 : decode cX12_init 383 = .ok (.putfield 155, 3) := by decide +kernel
theorem dX12_init_386 : decode cX12_init 386 = .ok (.aload_n 0, 1) := by decide +kernel
theorem dX12_init_387 : decode cX12_init 387 = .ok (.iconst 5, 1) := by decide +kernel
theorem dX12_init_388 : decode cX12_init 388 = .ok (.newarray .int, 2) := by decide +kernel
theorem dX12_init_390 : decode cX12_init 390 = .ok (.putfield 158, 3) := by decide +kernel
theorem dX12_init_393 : decode cX12_init 393 = .ok (.aload_n 0, 1) := by decide +kernel
theorem dX12_init_394 : decode cX12_init 394 = .ok (.iconst 5, 1) := by decide +kernel
theorem dX12_init_395 : decode cX12_init 395 = .ok (.newarray .int, 2) := by decide +kernel
theorem dX12_init_397 : decode cX12_init 397 = .ok (.putfield 161, 3) := by decide +kernel
theorem dX12_init_400 : decode cX12_init 400 = .ok (.aload_n 0, 1) := by decide +kernel
theorem dX12_init_401 : decode cX12_init 401 = .ok (.bipush 20, 2) := by decide +kernel
theorem dX12_init_403 : decode cX12_init 403 = .ok (.newarray .int, 2) := by decide +kernel
theorem dX12_init_405 : decode cX12_init 405 = .ok (.putfield 164, 3) := by decide +kernel
theorem dX12_init_408 : decode cX12_init 408 = .ok (.aload_n 0, 1) := by decide +kernel
theorem dX12_init_409 : decode cX12_init 409 = .ok (.bipush 20, 2) := by decide +kernel
theorem dX12_init_411 : decode cX12_init 411 = .ok (.newarray .int, 2) := by decide +kernel
theorem dX12_init_413 : decode cX12_init 413 = .ok (.putfield 167, 3) := by decide +kernel
theorem dX12_init_416 : decode cX12_init 416 = .ok (.aload_n 0, 1) := by decide +kernel
theorem dX12_init_417 : decode cX12_init 417 = .ok (.iconst 3, 1) := by decide +kernel
theorem dX12_init_418 : decode cX12_init 418 = .ok (.newarray .boolean, 2) := by decide +kernel
theorem dX12_init_420 : decode cX12_init 420 = .ok (.putfield 170, 3) := by decide +kernel
theorem dX12_init_423 : decode cX12_init 423 = .ok (.aload_n 0, 1) := by decide +kernel
theorem dX12_init_424 : decode cX12_init 424 = .ok (.sipush 240, 3) := by decide +kernel
theorem dX12_init_427 : decode cX12_init 427 = .ok (.newarray .int, 2) := by decide +kernel
theorem dX12_init_429 : decode cX12_init 429 = .ok (.putfield 173, 3) := by decide +kernel
theorem dX12_init_432 : decode cX12_init 432 = .ok (.aload_n 0, 1) := by decide +kernel
theorem dX12_init_433 : decode cX12_init 433 = .ok (.getfield 97, 3) := by decide +kernel
theorem dX12_init_436 : decode cX12_init 436 = .ok (.iconst 0, 1) := by decide +kernel
theorem dX12_init_437 : decode cX12_init 437 = .ok (.sipush 999, 3) := by decide +kernel
theorem dX12_init_440 : decode cX12_init 440 = .ok (.iastore, 1) := by decide +kernel
theorem dX12_init_441 : decode cX12_init 441 = .ok (.aload_n 0, 1) := by decide +kernel
theorem dX12_init_442 : decode cX12_init 442 = .ok (.getfield 34, 3) := by decide +kernel
theorem dX12_init_445 : decode cX12_init 445 = .ok (.iconst 0, 1) := by decide +kernel
theorem dX12_init_446 : decode cX12_init 446 = .ok (.bipush 119, 2) := by decide +kernel
theorem dX12_init_448 : decode cX12_init 448 = .ok (.bipush 97, 2) := by decide +kernel
theorem dX12_init_450 : decode cX12_init 450 = .ok (.bipush 116, 2) := by decide +kernel
theorem dX12_init_452 : decode cX12_init 452 = .ok (.bipush 101, 2) := by decide +kernel
theorem dX12_init_454 : decode cX12_init 454 = .ok (.bipush 114, 2) := by decide +kernel
theorem dX12_init_456 : decode cX12_init 456 = .ok (.iconst 0, 1) := by decide +kernel
theorem dX12_init_457 : decode cX12_init 457 = .ok (.iconst 0, 1) := by decide +kernel
theorem dX12_init_458 : decode cX12_init 458 = .ok (.invokestatic 176, 3) := by decide +kernel
theorem dX12_init_461 : decode cX12_init 461 = .ok (.lastore, 1) := by decide +kernel
theorem dX12_init_462 : decode cX12_init 462 = .ok (.aload_n 0, 1) := by decide +kernel
theorem dX12_init_463 : decode cX12_init 463 = .ok (.getfield 34, 3) := by decide +kernel
theorem dX12_init_466 : decode cX12_init 466 = .ok (.iconst 1, 1) := by decide +kernel
theorem dX12_init_467 : decode cX12_init 467 = .ok (.bipush 104, 2) := by decide +kernel
theorem dX12_init_469 : decode cX12_init 469 = .ok (.bipush 101, 2) := by decide +kernel
theorem dX12_init_471 : decode cX12_init 471 = .ok (.bipush 105, 2) := by decide +kernel
theorem dX12_init_473 : decode cX12_init 473 = .ok (.bipush 114, 2) := by decide +kernel
theorem dX12_init_475 : decode cX12_init 475 = .ok (.iconst 0, 1) := by decide +kernel
theorem dX12_init_476 : decode cX12_init 476 = .ok (.iconst 0, 1) := by decide +kernel
theorem dX12_init_477 : decode cX12_init 477 = .ok (.iconst 0, 1) := by decide +kernel
theorem dX12_init_478 : decode cX12_init 478 = .ok (.invokestatic 176, 3) := by decide +kernel
theorem dX12_init_481 : decode cX12_init 481 = .ok (.lastore, 1) := by decide +kernel
theorem dX12_init_482 : decode cX12_init 482 = .ok (.aload_n 0, 1) := by decide +kernel
theorem dX12_init_483 : decode cX12_init 483 = .ok (.getfield 34, 3) := by decide +kernel
theorem dX12_init_486 : decode cX12_init 486 = .ok (.iconst 2, 1) := by decide +kernel
theorem dX12_init_487 : decode cX12_init 487 = .ok (.bipush 115, 2) := by decide +kernel
theorem dX12_init_489 : decode cX12_init 489 = .ok (.bipush 101, 2) := by decide +kernel
theorem dX12_init_491 : decode cX12_init 491 = .ok (.bipush 110, 2) := by decide +kernel
theorem dX12_init_493 : decode cX12_init 493 = .ok (.bipush 100, 2) := by decide +kernel
theorem dX12_init_495 : decode cX12_init 495 = .ok (.bipush 115, 2) := by decide +kernel
theorem dX12_init_497 : decode cX12_init 497 = .ok (.iconst 0, 1) := by decide +kernel
theorem dX12_init_498 : decode cX12_init 498 = .ok (.iconst 0, 1) := by decide +kernel
theorem dX12_init_499 : decode cX12_init 499 = .ok (.invokestatic 176, 3) := by decide +kernel
theorem dX12_init_502 : decode cX12_init 502 = .ok (.lastore, 1) := by decide +kernel
theorem dX12_init_503 : decode cX12_init 503 = .ok (.aload_n 0, 1) := by decide +kernel
theorem dX12_init_504 : decode cX12_init 504 = .ok (.getfield 34, 3) := by decide +kernel
theorem dX12_init_507 : decode cX12_init 507 = .ok (.iconst 3, 1) := by decide +kernel
theorem dX12_init_508 : decode cX12_init 508 = .ok (.bipush 100, 2) := by decide +kernel
theorem dX12_init_510 : decode cX12_init 510 = .ok (.bipush 114, 2) := by decide +kernel
theorem dX12_init_512 : decode cX12_init 512 = .ok (.bipush 121, 2) := by decide +kernel
theorem dX12_init_514 : decode cX12_init 514 = .ok (.iconst 0, 1) := by decide +kernel
theorem dX12_init_515 : decode cX12_init 515 = .ok (.iconst 0, 1) := by decide +kernel
theorem dX12_init_516 : decode cX12_init 516 = .ok (.iconst 0, 1) := by decide +kernel
theorem dX12_init_517 : decode cX12_init 517 = .ok (.iconst 0, 1) := by decide +kernel
theorem dX12_init_518 : decode cX12_init 518 = .ok (.invokestatic 176, 3) := by decide +kernel
theorem dX12_init_521 : decode cX12_init 521 = .ok (.lastore, 1) := by decide +kernel
theorem dX12_init_522 : decode cX12_init 522 = .ok (.aload_n 0, 1) := by decide +kernel
theorem dX12_init_523 : decode cX12_init 523 = .ok (.getfield 34, 3) := by decide +kernel
theorem dX12_init_526 : decode cX12_init 526 = .ok (.iconst 4, 1) := by decide +kernel
theorem dX12_init_527 : decode cX12_init 527 = .ok (.bipush 98, 2) := by decide +kernel
theorem dX12_init_529 : decode cX12_init 529 = .ok (.bipush 97, 2) := by decide +kernel
theorem dX12_init_531 : decode cX12_init 531 = .ok (.bipush 115, 2) := by decide +kernel
theorem dX12_init_533 : decode cX12_init 533 = .ok (.bipush 105, 2) := by decide +kernel
theorem dX12_init_535 : decode cX12_init 535 = .ok (.bipush 110, 2) := by decide +kernel
theorem dX12_init_537 : decode cX12_init 537 = .ok (.iconst 0, 1) := by decide +kernel
theorem dX12_init_538 : decode cX12_init 538 = .ok (.iconst 0, 1) := by decide +kernel
theorem dX12_init_539 : decode cX12_init 539 = .ok (.invokestatic 176, 3) := by decide +kernel
theorem dX12_init_542 : decode cX12_init 542 = .ok (.lastore, 1) := by decide +kernel
theorem dX12_init_543 : decode cX12_init 543 = .ok (.aload_n 0, 1) := by decide +kernel
theorem dX12_init_544 : decode cX12_init 544 = .ok (.getfield 34, 3) := by decide +kernel
theorem dX12_init_547 : decode cX12_init 547 = .ok (.iconst 5, 1) := by decide +kernel
theorem dX12_init_548 : decode cX12_init 548 = .ok (.bipush 99, 2) := by decide +kernel
theorem dX12_init_550 : decode cX12_init 550 = .ok (.bipush 108, 2) := by decide +kernel
theorem dX12_init_552 : decode cX12_init 552 = .ok (.bipush 97, 2) := by decide +kernel
theorem dX12_init_554 : decode cX12_init 554 = .ok (.bipush 105, 2) := by decide +kernel
theorem dX12_init_556 : decode cX12_init 556 = .ok (.bipush 109, 2) := by decide +kernel
theorem dX12_init_558 : decode cX12_init 558 = .ok (.iconst 0, 1) := by decide +kernel
theorem dX12_init_559 : decode cX12_init 559 = .ok (.iconst 0, 1) := by decide +kernel
theorem dX12_init_560 : decode cX12_init 560 = .ok (.invokestatic 176, 3) := by decide +kernel
theorem dX12_init_563 : decode cX12_init 563 = .ok (.lastore, 1) := by decide +kernel
theorem dX12_init_564 : decode cX12_init 564 = .ok (.aload_n 0, 1) := by decide +kernel
theorem dX12_init_565 : decode cX12_init 565 = .ok (.getfield 34, 3) := by decide +kernel
theorem dX12_init_568 : decode cX12_init 568 = .ok (.bipush 6, 2) := by decide +kernel
theorem dX12_init_570 : decode cX12_init 570 = .ok (.bipush 111, 2) := by decide +kernel
theorem dX12_init_572 : decode cX12_init 572 = .ok (.bipush 102, 2) := by decide +kernel
theorem dX12_init_574 : decode cX12_init 574 = .ok (.iconst 0, 1) := by decide +kernel
theorem dX12_init_575 : decode cX12_init 575 = .ok (.iconst 0, 1) := by decide +kernel
theorem dX12_init_576 : decode cX12_init 576 = .ok (.iconst 0, 1) := by decide +kernel
theorem dX12_init_577 : decode cX12_init 577 = .ok (.iconst 0, 1) := by decide +kernel
theorem dX12_init_578 : decode cX12_init 578 = .ok (.iconst 0, 1) := by decide +kernel
theorem dX12_init_579 : decode cX12_init 579 = .ok (.invokestatic 176, 3) := by decide +kernel
theorem dX12_init_582 : decode cX12_init 582 = .ok (.lastore, 1) := by decide +kernel
theorem dX12_init_583 : decode cX12_init 583 = .ok (.aload_n 0, 1) := by decide +kernel
theorem dX12_init_584 : decode cX12_init 584 = .ok (.getfield 34, 3) := by decide +kernel
theorem dX12_init_587 : decode cX12_init 587 = .ok (.bipush 7, 2) := by decide +kernel
theorem dX12_init_589 : decode cX12_init 589 = .ok (.bipush 115, 2) := by decide +kernel
theorem dX12_init_591 : decode cX12_init 591 = .ok (.bipush 101, 2) := by decide +kernel
theorem dX12_init_593 : decode cX12_init 593 = .ok (.bipush 101, 2) := by decide +kernel
theorem dX12_init_595 : decode cX12_init 595 = .ok (.bipush 100, 2) := by decide +kernel
theorem dX12_init_597 : decode cX12_init 597 = .ok (.iconst 0, 1) := by decide +kernel
theorem dX12_init_598 : decode cX12_init 598 = .ok (.iconst 0, 1) := by decide +kernel
theorem dX12_init_599 : decode cX12_init 599 = .ok (.iconst 0, 1) := by decide +kernel
theorem dX12_init_600 : decode cX12_init 600 = .ok (.invokestatic 176, 3) := by decide +kernel
theorem dX12_init_603 : decode cX12_init 603 = .ok (.lastore, 1) := by decide +kernel
theorem dX12_init_604 : decode cX12_init 604 = .ok (.aload_n 0, 1) := by decide +kernel
theorem dX12_init_605 : decode cX12_init 605 = .ok (.getfield 34, 3) := by decide +kernel
theorem dX12_init_608 : decode cX12_init 608 = .ok (.bipush 8, 2) := by decide +kernel
theorem dX12_init_610 : decode cX12_init 610 = .ok (.bipush 105, 2) := by decide +kernel
theorem dX12_init_612 : decode cX12_init 612 = .ok (.bipush 102, 2) := by decide +kernel
theorem dX12_init_614 : decode cX12_init 614 = .ok (.iconst 0, 1) := by decide +kernel
theorem dX12_init_615 : decode cX12_init 615 = .ok (.iconst 0, 1) := by decide +kernel
theorem dX12_init_616 : decode cX12_init 616 = .ok (.iconst 0, 1) := by decide +kernel
theorem dX12_init_617 : decode cX12_init 617 = .ok (.iconst 0, 1) := by decide +kernel
theorem dX12_init_618 : decode cX12_init 618 = .ok (.iconst 0, 1) := by decide +kernel
theorem dX12_init_619 : decode cX12_init 619 = .ok (.invokestatic 176, 3) := by decide +kernel
theorem dX12_init_622 : decode cX12_init 622 = .ok (.lastore, 1) := by decide +kernel
theorem dX12_init_623 : decode cX12_init 623 = .ok (.aload_n 0, 1) := by decide +kernel
theorem dX12_init_624 : decode cX12_init 624 = .ok (.getfield 34, 3) := by decide +kernel
theorem dX12_init_627 : decode cX12_init 627 = .ok (.bipush 9, 2) := by decide +kernel
theorem dX12_init_629 : decode cX12_init 629 = .ok (.bipush 116, 2) := by decide +kernel
theorem dX12_init_631 : decode cX12_init 631 = .ok (.bipush 104, 2) := by decide +kernel
theorem dX12_init_633 : decode cX12_init 633 = .ok (.bipush 101, 2) := by decide +kernel
theorem dX12_init_635 : decode cX12_init 635 = .ok (.bipush 110, 2) := by decide +kernel
theorem dX12_init_637 : decode cX12_init 637 = .ok (.iconst 0, 1) := by decide +kernel
theorem dX12_init_638 : decode cX12_init 638 = .ok (.iconst 0, 1) := by decide +kernel
theorem dX12_init_639 : decode cX12_init 639 = .ok (.iconst 0, 1) := by decide +kernel
theorem dX12_init_640 : decode cX12_init 640 = .ok (.invokestatic 176, 3) := by decide +kernel
theorem dX12_init_643 : decode cX12_init 643 = .ok (.lastore, 1) := by decide +kernel
theorem dX12_init_644 : decode cX12_init 644 = .ok (.aload_n 0, 1) := by decide +kernel
theorem dX12_init_645 : decode cX12_init 645 = .ok (.getfield 34, 3) := by decide +kernel
theorem dX12_init_648 : decode cX12_init 648 = .ok (.bipush 10, 2) := by decide +kernel
theorem dX12_init_650 : decode cX12_init 650 = .ok (.bipush 101, 2) := by decide +kernel
theorem dX12_init_652 : decode cX12_init 652 = .ok (.bipush 108, 2) := by decide +kernel
theorem dX12_init_654 : decode cX12_init 654 = .ok (.bipush 115, 2) := by decide +kernel
theorem dX12_init_656 : decode cX12_init 656 = .ok (.bipush 101, 2) := by decide +kernel
theorem dX12_init_658 : decode cX12_init 658 = .ok (.iconst 0, 1) := by decide +kernel
theorem dX12_init_659 : decode cX12_init 659 = .ok (.iconst 0, 1) := by decide +kernel
theorem dX12_init_660 : decode cX12_init 660 = .ok (.iconst 0, 1) := by decide +kernel
theorem dX12_init_661 : decode cX12_init 661 = .ok (.invokestatic 176, 3) := by decide +kernel
theorem dX12_init_664 : decode cX12_init 664 = .ok (.lastore, 1) := by decide +kernel
theorem dX12_init_665 : decode cX12_init 665 = .ok (.aload_n 0, 1) := by decide +kernel
theorem dX12_init_666 : decode cX12_init 666 = .ok (.getfield 34, 3) := by decide +kernel
theorem dX12_init_669 : decode cX12_init 669 = .ok (.bipush 11, 2) := by decide +kernel
theorem dX12_init_671 : decode cX12_init 671 = .ok (.bipush 119, 2) := by decide +kernel
theorem dX12_init_673 : decode cX12_init 673 = .ok (.bipush 101, 2) := by decide +kernel
theorem dX12_init_675 : decode cX12_init 675 = .ok (.bipush 101, 2) := by decide +kernel
theorem dX12_init_677 : decode cX12_init 677 = .ok (.bipush 107, 2) := by decide +kernel
theorem dX12_init_679 : decode cX12_init 679 = .ok (.iconst 0, 1) := by decide +kernel
theorem dX12_init_680 : decode cX12_init 680 = .ok (.iconst 0, 1) := by decide +kernel
theorem dX12_init_681 : decode cX12_init 681 = .ok (.iconst 0, 1) := by decide +kernel
theorem dX12_init_682 : decode cX12_init 682 = .ok (.invokestatic 176, 3) := by decide +kernel
theorem dX12_init_685 : decode cX12_init 685 = .ok (.lastore, 1) := by decide +kernel
theorem dX12_init_686 : decode cX12_init 686 = .ok (.aload_n 0, 1) := by decide +kernel
theorem dX12_init_687 : decode cX12_init 687 = .ok (.getfield 34, 3) := by decide +kernel
theorem dX12_init_690 : decode cX12_init 690 = .ok (.bipush 12, 2) := by decide +kernel
theorem dX12_init_692 : decode cX12_init 692 = .ok (.bipush 108, 2) := by decide +kernel
theorem dX12_init_694 : decode cX12_init 694 = .ok (.bipush 101, 2) := by decide +kernel
theorem dX12_init_696 : decode cX12_init 696 = .ok (.bipush 118, 2) := by decide +kernel
theorem dX12_init_698 : decode cX12_init 698 = .ok (.bipush 101, 2) := by decide +kernel
theorem dX12_init_700 : decode cX12_init 700 = .ok (.bipush 108, 2) := by decide +kernel
theorem dX12_init_702 : decode cX12_init 702 = .ok (.iconst 0, 1) := by decide +kernel
theorem dX12_init_703 : decode cX12_init 703 = .ok (.iconst 0, 1) := by decide +kernel
theorem dX12_init_704 : decode cX12_init 704 = .ok (.invokestatic 176, 3) := by decide +kernel
theorem dX12_init_707 : decode cX12_init 707 = .ok (.lastore, 1) := by decide +kernel
theorem dX12_init_708 : decode cX12_init 708 = .ok (.aload_n 0, 1) := by decide +kernel
theorem dX12_init_709 : decode cX12_init 709 = .ok (.getfield 34, 3) := by decide +kernel
theorem dX12_init_712 : decode cX12_init 712 = .ok (.bipush 13, 2) := by decide +kernel
theorem dX12_init_714 : decode cX12_init 714 = .ok (.bipush 115, 2) := by decide +kernel
theorem dX12_init_716 : decode cX12_init 716 = .ok (.bipush 97, 2) := by decide +kernel
theorem dX12_init_718 : decode cX12_init 718 = .ok (.bipush 108, 2) := by decide +kernel
theorem dX12_init_720 : decode cX12_init 720 = .ok (.bipush 116, 2) := by decide +kernel
theorem dX12_init_722 : decode cX12_init 722 = .ok (.iconst 0, 1) := by decide +kernel
theorem dX12_init_723 : decode cX12_init 723 = .ok (.iconst 0, 1) := by decide +kernel
theorem dX12_init_724 : decode cX12_init 724 = .ok (.iconst 0, 1) := by decide +kernel
theorem dX12_init_725 : decode cX12_init 725 = .ok (.invokestatic 176, 3) := by decide +kernel
theorem dX12_init_728 : decode cX12_init 728 = .ok (.lastore, 1) := by decide +kernel
theorem dX12_init_729 : decode cX12_init 729 = .ok (.aload_n 0, 1) := by decide +kernel
theorem dX12_init_730 : decode cX12_init 730 = .ok (.getfield 34, 3) := by decide +kernel
theorem dX12_init_733 : decode cX12_init 733 = .ok (.bipush 14, 2) := by decide +kernel
theorem dX12_init_735 : decode cX12_init 735 = .ok (.bipush 115, 2) := by decide +kernel
theorem dX12_init_737 : decode cX12_init 737 = .ok (.bipush 104, 2) := by decide +kernel
theorem dX12_init_739 : decode cX12_init 739 = .ok (.bipush 97, 2) := by decide +kernel
theorem dX12_init_741 : decode cX12_init 741 = .ok (.bipush 114, 2) := by decide +kernel
theorem dX12_init_743 : decode cX12_init 743 = .ok (.bipush 101, 2) := by decide +kernel
theorem dX12_init_745 : decode cX12_init 745 = .ok (.iconst 0, 1) := by decide +kernel
theorem dX12_init_746 : decode cX12_init 746 = .ok (.iconst 0, 1) := by decide +kernel
theorem dX12_init_747 : decode cX12_init 747 = .ok (.invokestatic 176, 3) := by decide +kernel
theorem dX12_init_750 : decode cX12_init 750 = .ok (.lastore, 1) := by decide +kernel
theorem dX12_init_751 : decode cX12_init 751 = .ok (.aload_n 0, 1) := by decide +kernel
theorem dX12_init_752 : decode cX12_init 752 = .ok (.getfield 34, 3) := by decide +kernel
theorem dX12_init_755 : decode cX12_init 755 = .ok (.bipush 15, 2) := by decide +kernel
theorem dX12_init_757 : decode cX12_init 757 = .ok (.bipush 115, 2) := by decide +kernel
theorem dX12_init_759 : decode cX12_init 759 = .ok (.bipush 101, 2) := by decide +kernel
theorem dX12_init_761 : decode cX12_init 761 = .ok (.bipush 110, 2) := by decide +kernel
theorem dX12_init_763 : decode cX12_init 763 = .ok (.bipush 116, 2) := by decide +kernel
theorem dX12_init_765 : decode cX12_init 765 = .ok (.iconst 0, 1) := by decide +kernel
theorem dX12_init_766 : decode cX12_init 766 = .ok (.iconst 0, 1) := by decide +kernel
theorem dX12_init_767 : decode cX12_init 767 = .ok (.iconst 0, 1) := by decide +kernel
theorem dX12_init_768 : decode cX12_init 768 = .ok (.invokestatic 176, 3) := by decide +kernel
theorem dX12_init_771 : decode cX12_init 771 = .ok (.lastore, 1) := by decide +kernel
theorem dX12_init_772 : decode cX12_init 772 = .ok (.aload_n 0, 1) := by decide +kernel
theorem dX12_init_773 : decode cX12_init 773 = .ok (.getfield 34, 3) := by decide +kernel
theorem dX12_init_776 : decode cX12_init 776 = .ok (.bipush 16, 2) := by decide +kernel
theorem dX12_init_778 : decode cX12_init 778 = .ok (.bipush 108, 2) := by decide +kernel
theorem dX12_init_780 : decode cX12_init 780 = .ok (.bipush 111, 2) := by decide +kernel
theorem dX12_init_782 : decode cX12_init 782 = .ok (.bipush 116, 2) := by decide +kernel
theorem dX12_init_784 : decode cX12_init 784 = .ok (.iconst 0, 1) := by decide +kernel
theorem dX12_init_785 : decode cX12_init 785 = .ok (.iconst 0, 1) := by decide +kernel
theorem dX12_init_786 : decode cX12_init 786 = .ok (.iconst 0, 1) := by decide +kernel
theorem dX12_init_787 : decode cX12_init 787 = .ok (.iconst 0, 1) := by decide +kernel
theorem dX12_init_788 : decode cX12_init 788 = .ok (.invokestatic 176, 3) := by decide +kernel
theorem dX12_init_791 : decode cX12_init 791 = .ok (.lastore, 1) := by decide +kernel
theorem dX12_init_792 : decode cX12_init 792 = .ok (.return_, 1) := by decide +kernel
theorem dX12_feed_0 : decode cX12_feed 0 = .ok (.aload_n 0, 1) := by decide +kernel
theorem dX12_feed_1 : decode cX12_feed 1 = .ok (.getfield 180, 3) := by decide +kernel
theorem dX12_feed_4 : decode cX12_feed 4 = .ok (.bipush 20, 2) := by decide +kernel
theorem dX12_feed_6 : decode cX12_feed 6 = .ok (.iadd, 1) := by decide +kernel
theorem dX12_feed_7 : decode cX12_feed 7 = .ok (.sipush 2000, 3) := by decide +kernel
theorem dX12_feed_10 : decode cX12_feed 10 = .ok (.if_icmp .le 5, 3) := by decide +kernel
theorem dX12_feed_13 : decode cX12_feed 13 = .ok (.iconst (-1), 1) := by decide +kernel
theorem dX12_feed_14 : decode cX12_feed 14 = .ok (.ireturn, 1) := by decide +kernel
theorem dX12_feed_15 : decode cX12_feed 15 = .ok (.aload_n 0, 1) := by decide +kernel
theorem dX12_feed_16 : decode cX12_feed 16 = .ok (.iload_n 1, 1) := by decide +kernel
theorem dX12_feed_17 : decode cX12_feed 17 = .ok (.invokevirtual 183, 3) := by decide +kernel
theorem dX12_feed_20 : decode cX12_feed 20 = .ok (.aload_n 0, 1) := by decide +kernel
theorem dX12_feed_21 : decode cX12_feed 21 = .ok (.iload_n 2, 1) := by decide +kernel
theorem dX12_feed_22 : decode cX12_feed 22 = .ok (.invokevirtual 183, 3) := by decide +kernel
theorem dX12_feed_25 : decode cX12_feed 25 = .ok (.aload_n 0, 1) := by decide +kernel
theorem dX12_feed_26 : decode cX12_feed 26 = .ok (.iload_n 3, 1) := by decide +kernel
theorem dX12_feed_27 : decode cX12_feed 27 = .ok (.invokevirtual 183, 3) := by decide +kernel
theorem dX12_feed_30 : decode cX12_feed 30 = .ok (.aload_n 0, 1) := by decide +kernel
theorem dX12_feed_31 : decode cX12_feed 31 = .ok (.iload 4, 2) := by decide +kernel
theorem dX12_feed_33 : decode cX12_feed 33 = .ok (.invokevirtual 183, 3) := by decide +kernel
theorem dX12_feed_36 : decode cX12_feed 36 = .ok (.aload_n 0, 1) := by decide +kernel
theorem dX12_feed_37 : decode cX12_feed 37 = .ok (.iload 5, 2) := by decide +kernel
theorem dX12_feed_39 : decode cX12_feed 39 = .ok (.invokevirtual 183, 3) := by decide +kernel
theorem dX12_feed_42 : decode cX12_feed 42 = .ok (.aload_n 0, 1) := by decide +kernel
theorem dX12_feed_43 : decode cX12_feed 43 = .ok (.getfield 180, 3) := by decide +kernel
theorem dX12_feed_46 : decode cX12_feed 46 = .ok (.ireturn, 1) := by decide +kernel
theorem dX12_put_0 : decode cX12_put 0 = .ok (.bipush 24, 2) := by decide +kernel
theorem dX12_put_2 : decode cX12_put 2 = .ok (.istore_n 2, 1) := by decide +kernel
theorem dX12_put_3 : decode cX12_put 3 = .ok (.iload_n 2, 1) := by decide +kernel
theorem dX12_put_4 : decode cX12_put 4 = .ok (.ifCond .lt 32, 3) := by decide +kernel
theorem dX12_put_7 : decode cX12_put 7 = .ok (.aload_n 0, 1) := by decide +kernel
theorem dX12_put_8 : decode cX12_put 8 = .ok (.getfield 13, 3) := by decide +kernel
theorem dX12_put_11 : decode cX12_put 11 = .ok (.aload_n 0, 1) := by decide +kernel
theorem dX12_put_12 : decode cX12_put 12 = .ok (.getfield 180, 3) := by decide +kernel
theorem dX12_put_15 : decode cX12_put 15 = .ok (.iload_n 1, 1) := by decide +kernel
theorem dX12_put_16 : decode cX12_put 16 = .ok (.iload_n 2, 1) := by decide +kernel
theorem dX12_put_17 : decode cX12_put 17 = .ok (.ishr, 1) := by decide +kernel
theorem dX12_put_18 : decode cX12_put 18 = .ok (.i2b, 1) := by decide +kernel
theorem dX12_put_19 : decode cX12_put 19 = .ok (.bastore, 1) := by decide +kernel
theorem dX12_put_20 : decode cX12_put 20 = .ok (.aload_n 0, 1) := by decide +kernel
theorem dX12_put_21 : decode cX12_put 21 = .ok (.dup, 1) := by decide +kernel
theorem dX12_put_22 : decode cX12_put 22 = .ok (.getfield 180, 3) := by decide +kernel
theorem dX12_put_25 : decode cX12_put 25 = .ok (.iconst 1, 1) := by decide +kernel
theorem dX12_put_26 : decode cX12_put 26 = .ok (.iadd, 1) := by decide +kernel
theorem dX12_put_27 : decode cX12_put 27 = .ok (.putfield 180, 3) := by decide +kernel
theorem dX12_put_30 : decode cX12_put 30 = .ok (.iinc 2 (-8), 3) := by decide +kernel
theorem dX12_put_33 : decode cX12_put 33 = .ok (.goto (-30), 3) := by decide +kernel
theorem dX12_put_36 : decode cX12_put 36 = .ok (.return_, 1) := by decide +kernel
theorem dX12_back_0 : decode cX12_back 0 = .ok (.iload_n 1, 1) := by decide +kernel
theorem dX12_back_1 : decode cX12_back 1 = .ok (.ifCond .lt 11, 3) := by decide +kernel
theorem dX12_back_4 : decode cX12_back 4 = .ok (.iload_n 1, 1) := by decide +kernel
theorem dX12_back_5 : decode cX12_back 5 = .ok (.aload_n 0, 1) := by decide +kernel
theorem dX12_back_6 : decode cX12_back 6 = .ok (.getfield 180, 3) := by decide +kernel
theorem dX12_back_9 : decode cX12_back 9 = .ok (.if_icmp .le 5, 3) := by decide +kernel
theorem dX12_back_12 : decode cX12_back 12 = .ok (.iconst (-1), 1) := by decide +kernel
theorem dX12_back_13 : decode cX12_back 13 = .ok (.ireturn, 1) := by decide +kernel
theorem dX12_back_14 : decode cX12_back 14 = .ok (.aload_n 0, 1) := by decide +kernel
theorem dX12_back_15 : decode cX12_back 15 = .ok (.dup, 1) := by decide +kernel
theorem dX12_back_16 : decode cX12_back 16 = .ok (.getfield 180, 3) := by decide +kernel
theorem dX12_back_19 : decode cX12_back 19 = .ok (.iload_n 1, 1) := by decide +kernel
theorem dX12_back_20 : decode cX12_back 20 = .ok (.isub, 1) := by decide +kernel
theorem dX12_back_21 : decode cX12_back 21 = .ok (.putfield 180, 3) := by decide +kernel
theorem dX12_back_24 : decode cX12_back 24 = .ok (.aload_n 0, 1) := by decide +kernel
theorem dX12_back_25 : decode cX12_back 25 = .ok (.getfield 180, 3) := by decide +kernel
theorem dX12_back_28 : decode cX12_back 28 = .ok (.ireturn, 1) := by decide +kernel
theorem dX12_byteAt_0 : decode cX12_byteAt 0 = .ok (.iload_n 1, 1) := by decide +kernel
theorem dX12_byteAt_1 : decode cX12_byteAt 1 = .ok (.aload_n 0, 1) := by decide +kernel
theorem dX12_byteAt_2 : decode cX12_byteAt 2 = .ok (.getfield 187, 3) := by decide +kernel
theorem dX12_byteAt_5 : decode cX12_byteAt 5 = .ok (.if_icmp .ge 16, 3) := by decide +kernel
theorem dX12_byteAt_8 : decode cX12_byteAt 8 = .ok (.aload_n 0, 1) := by decide +kernel
theorem dX12_byteAt_9 : decode cX12_byteAt 9 = .ok (.getfield 17, 3) := by decide +kernel
theorem dX12_byteAt_12 : decode cX12_byteAt 12 = .ok (.iload_n 1, 1) := by decide +kernel
theorem dX12_byteAt_13 : decode cX12_byteAt 13 = .ok (.baload, 1) := by decide +kernel
theorem dX12_byteAt_14 : decode cX12_byteAt 14 = .ok (.sipush 255, 3) := by decide +kernel
theorem dX12_byteAt_17 : decode cX12_byteAt 17 = .ok (.iand, 1) := by decide +kernel
theorem dX12_byteAt_18 : decode cX12_byteAt 18 = .ok (.goto 4, 3) := by decide +kernel
theorem dX12_byteAt_21 : decode cX12_byteAt 21 = .ok (.iconst 0, 1) := by decide +kernel
theorem dX12_byteAt_22 : decode cX12_byteAt 22 = .ok (.ireturn, 1) := by decide +kernel
theorem dX12_isDigit_0 : decode cX12_isDigit 0 = .ok (.iload_n 0, 1) := by decide +kernel
theorem dX12_isDigit_1 : decode cX12_isDigit 1 = .ok (.bipush 48, 2) := by decide +kernel
theorem dX12_isDigit_3 : decode cX12_isDigit 3 = .ok (.if_icmp .lt 13, 3) := by decide +kernel
theorem dX12_isDigit_6 : decode cX12_isDigit 6 = .ok (.iload_n 0, 1) := by decide +kernel
theorem dX12_isDigit_7 : decode cX12_isDigit 7 = .ok (.bipush 57, 2) := by decide +kernel
theorem dX12_isDigit_9 : decode cX12_isDigit 9 = .ok (.if_icmp .gt 7, 3) := by decide +kernel
theorem dX12_isDigit_12 : decode cX12_isDigit 12 = .ok (.iconst 1, 1) := by decide +kernel
theorem dX12_isDigit_13 : decode cX12_isDigit 13 = .ok (.goto 4, 3) := by decide +kernel
theorem dX12_isDigit_16 : decode cX12_isDigit 16 = .ok (.iconst 0, 1) := by decide +kernel
theorem dX12_isDigit_17 : decode cX12_isDigit 17 = .ok (.ireturn, 1) := by decide +kernel
theorem dX12_isLetter_0 : decode cX12_isLetter 0 = .ok (.iload_n 0, 1) := by decide +kernel
theorem dX12_isLetter_1 : decode cX12_isLetter 1 = .ok (.bipush 97, 2) := by decide +kernel
theorem dX12_isLetter_3 : decode cX12_isLetter 3 = .ok (.if_icmp .lt 13, 3) := by decide +kernel
theorem dX12_isLetter_6 : decode cX12_isLetter 6 = .ok (.iload_n 0, 1) := by decide +kernel
theorem dX12_isLetter_7 : decode cX12_isLetter 7 = .ok (.bipush 122, 2) := by decide +kernel
theorem dX12_isLetter_9 : decode cX12_isLetter 9 = .ok (.if_icmp .gt 7, 3) := by decide +kernel
theorem dX12_isLetter_12 : decode cX12_isLetter 12 = .ok (.iconst 1, 1) := by decide +kernel
theorem dX12_isLetter_13 : decode cX12_isLetter 13 = .ok (.goto 4, 3) := by decide +kernel
theorem dX12_isLetter_16 : decode cX12_isLetter 16 = .ok (.iconst 0, 1) := by decide +kernel
theorem dX12_isLetter_17 : decode cX12_isLetter 17 = .ok (.ireturn, 1) := by decide +kernel
theorem dX12_appends_0 : decode cX12_appends 0 = .ok (.iload_n 2, 1) := by decide +kernel
theorem dX12_appends_1 : decode cX12_appends 1 = .ok (.ifCond .ne 7, 3) := by decide +kernel
theorem dX12_appends_4 : decode cX12_appends 4 = .ok (.lload_n 0, 1) := by decide +kernel

theorem dX2_init_0 : decode cX2_init 0 = .ok (.aload_n 0, 1) := by decide +kernel
theorem dX2_init_1 : decode cX2_init 1 = .ok (.invokespecial 3, 3) := by decide +kernel
theorem dX2_init_4 : decode cX2_init 4 = .ok (.aload_n 0, 1) := by decide +kernel
theorem dX2_init_5 : decode cX2_init 5 = .ok (.bipush 16, 2) := by decide +kernel
theorem dX2_init_7 : decode cX2_init 7 = .ok (.newarray .int, 2) := by decide +kernel
theorem dX2_init_9 : decode cX2_init 9 = .ok (.putfield 9, 3) := by decide +kernel
theorem dX2_init_12 : decode cX2_init 12 = .ok (.aload_n 0, 1) := by decide +kernel
theorem dX2_init_13 : decode cX2_init 13 = .ok (.bipush 16, 2) := by decide +kernel
theorem dX2_init_15 : decode cX2_init 15 = .ok (.newarray .int, 2) := by decide +kernel
theorem dX2_init_17 : decode cX2_init 17 = .ok (.putfield 15, 3) := by decide +kernel
theorem dX2_init_20 : decode cX2_init 20 = .ok (.aload_n 0, 1) := by decide +kernel
theorem dX2_init_21 : decode cX2_init 21 = .ok (.bipush 16, 2) := by decide +kernel
theorem dX2_init_23 : decode cX2_init 23 = .ok (.newarray .int, 2) := by decide +kernel
theorem dX2_init_25 : decode cX2_init 25 = .ok (.putfield 18, 3) := by decide +kernel
theorem dX2_init_28 : decode cX2_init 28 = .ok (.aload_n 0, 1) := by decide +kernel
theorem dX2_init_29 : decode cX2_init 29 = .ok (.sipush 256, 3) := by decide +kernel
theorem dX2_init_32 : decode cX2_init 32 = .ok (.newarray .int, 2) := by decide +kernel
theorem dX2_init_34 : decode cX2_init 34 = .ok (.putfield 21, 3) := by decide +kernel
theorem dX2_init_37 : decode cX2_init 37 = .ok (.aload_n 0, 1) := by decide +kernel
theorem dX2_init_38 : decode cX2_init 38 = .ok (.bipush 12, 2) := by decide +kernel
theorem dX2_init_40 : decode cX2_init 40 = .ok (.newarray .int, 2) := by decide +kernel
theorem dX2_init_42 : decode cX2_init 42 = .ok (.putfield 24, 3) := by decide +kernel
theorem dX2_init_45 : decode cX2_init 45 = .ok (.return_, 1) := by decide +kernel
theorem dX2_spanOf_0 : decode cX2_spanOf 0 = .ok (.aload_n 0, 1) := by decide +kernel
theorem dX2_spanOf_1 : decode cX2_spanOf 1 = .ok (.aload_n 1, 1) := by decide +kernel
theorem dX2_spanOf_2 : decode cX2_spanOf 2 = .ok (.iconst (-1), 1) := by decide +kernel
theorem dX2_spanOf_3 : decode cX2_spanOf 3 = .ok (.invokevirtual 27, 3) := by decide +kernel
theorem dX2_spanOf_6 : decode cX2_spanOf 6 = .ok (.aload_n 0, 1) := by decide +kernel
theorem dX2_spanOf_7 : decode cX2_spanOf 7 = .ok (.iload_n 2, 1) := by decide +kernel
theorem dX2_spanOf_8 : decode cX2_spanOf 8 = .ok (.invokevirtual 31, 3) := by decide +kernel
theorem dX2_spanOf_11 : decode cX2_spanOf 11 = .ok (.ireturn, 1) := by decide +kernel
theorem dX2_widthOf_0 : decode cX2_widthOf 0 = .ok (.aload_n 0, 1) := by decide +kernel
theorem dX2_widthOf_1 : decode cX2_widthOf 1 = .ok (.aload_n 1, 1) := by decide +kernel
theorem dX2_widthOf_2 : decode cX2_widthOf 2 = .ok (.iconst (-1), 1) := by decide +kernel
theorem dX2_widthOf_3 : decode cX2_widthOf 3 = .ok (.invokevirtual 27, 3) := by decide +kernel
theorem dX2_widthOf_6 : decode cX2_widthOf 6 = .ok (.iconst 0, 1) := by decide +kernel
theorem dX2_widthOf_7 : decode cX2_widthOf 7 = .ok (.istore_n 2, 1) := by decide +kernel
theorem dX2_widthOf_8 : decode cX2_widthOf 8 = .ok (.iconst 0, 1) := by decide +kernel
theorem dX2_widthOf_9 : decode cX2_widthOf 9 = .ok (.istore_n 3, 1) := by decide +kernel
theorem dX2_widthOf_10 : decode cX2_widthOf 10 = .ok (.iload_n 3, 1) := by decide +kernel
theorem dX2_widthOf_11 : decode cX2_widthOf 11 = .ok (.aload_n 1, 1) := by decide +kernel
theorem dX2_widthOf_12 : decode cX2_widthOf 12 = .ok (.getfield 35, 3) := by decide +kernel
theorem dX2_widthOf_15 : decode cX2_widthOf 15 = .ok (.if_icmp .ge 19, 3) := by decide +kernel
theorem dX2_widthOf_18 : decode cX2_widthOf 18 = .ok (.iload_n 2, 1) := by decide +kernel
theorem dX2_widthOf_19 : decode cX2_widthOf 19 = .ok (.aload_n 0, 1) := by decide +kernel
theorem dX2_widthOf_20 : decode cX2_widthOf 20 = .ok (.iload_n 3, 1) := by decide +kernel
theorem dX2_widthOf_21 : decode cX2_widthOf 21 = .ok (.invokevirtual 31, 3) := by decide +kernel
theorem dX2_widthOf_24 : decode cX2_widthOf 24 = .ok (.invokestatic 41, 3) := by decide +kernel
theorem dX2_widthOf_27 : decode cX2_widthOf 27 = .ok (.istore_n 2, 1) := by decide +kernel
theorem dX2_widthOf_28 : decode cX2_widthOf 28 = .ok (.iinc 3 1, 3) := by decide +kernel
theorem dX2_widthOf_31 : decode cX2_widthOf 31 = .ok (.goto (-21), 3) := by decide +kernel
theorem dX2_widthOf_34 : decode cX2_widthOf 34 = .ok (.iload_n 2, 1) := by decide +kernel
theorem dX2_widthOf_35 : decode cX2_widthOf 35 = .ok (.ireturn, 1) := by decide +kernel
theorem dX2_stepsBetween_0 : decode cX2_stepsBetween 0 = .ok (.aload_n 0, 1) := by decide +kernel
theorem dX2_stepsBetween_1 : decode cX2_stepsBetween 1 = .ok (.aload_n 1, 1) := by decide +kernel
theorem dX2_stepsBetween_2 : decode cX2_stepsBetween 2 = .ok (.iconst (-1), 1) := by decide +kernel
theorem dX2_stepsBetween_3 : decode cX2_stepsBetween 3 = .ok (.invokevirtual 27, 3) := by decide +kernel
theorem dX2_stepsBetween_6 : decode cX2_stepsBetween 6 = .ok (.iconst 0, 1) := by decide +kernel
theorem dX2_stepsBetween_7 : decode cX2_stepsBetween 7 = .ok (.istore 4, 2) := by decide +kernel
theorem dX2_stepsBetween_9 : decode cX2_stepsBetween 9 = .ok (.iload 4, 2) := by decide +kernel
theorem dX2_stepsBetween_11 : decode cX2_stepsBetween 11 = .ok (.bipush 16, 2) := by decide +kernel
theorem dX2_stepsBetween_13 : decode cX2_stepsBetween 13 = .ok (.if_icmp .ge 29, 3) := by decide +kernel
theorem dX2_stepsBetween_16 : decode cX2_stepsBetween 16 = .ok (.aload_n 0, 1) := by decide +kernel
theorem dX2_stepsBetween_17 : decode cX2_stepsBetween 17 = .ok (.iconst 1, 1) := by decide +kernel
theorem dX2_stepsBetween_18 : decode cX2_stepsBetween 18 = .ok (.iload_n 2, 1) := by decide +kernel
theorem dX2_stepsBetween_19 : decode cX2_stepsBetween 19 = .ok (.ishl, 1) := by decide +kernel
theorem dX2_stepsBetween_20 : decode cX2_stepsBetween 20 = .ok (.iload 4, 2) := by decide +kernel
theorem dX2_stepsBetween_22 : decode cX2_stepsBetween 22 = .ok (.iconst 0, 1) := by decide +kernel
theorem dX2_stepsBetween_23 : decode cX2_stepsBetween 23 = .ok (.invokevirtual 47, 3) := by decide +kernel
theorem dX2_stepsBetween_26 : decode cX2_stepsBetween 26 = .ok (.iload_n 3, 1) := by decide +kernel
theorem dX2_stepsBetween_27 : decode cX2_stepsBetween 27 = .ok (.invokestatic 51, 3) := by decide +kernel
theorem dX2_stepsBetween_30 : decode cX2_stepsBetween 30 = .ok (.ifCond .eq 6, 3) := by decide +kernel
theorem dX2_stepsBetween_33 : decode cX2_stepsBetween 33 = .ok (.iload 4, 2) := by decide +kernel
theorem dX2_stepsBetween_35 : decode cX2_stepsBetween 35 = .ok (.ireturn, 1) := by decide +kernel
theorem dX2_stepsBetween_36 : decode cX2_stepsBetween 36 = .ok (.iinc 4 1, 3) := by decide +kernel
theorem dX2_stepsBetween_39 : decode cX2_stepsBetween 39 = .ok (.goto (-30), 3) := by decide +kernel
theorem dX2_stepsBetween_42 : decode cX2_stepsBetween 42 = .ok (.iconst (-1), 1) := by decide +kernel
theorem dX2_stepsBetween_43 : decode cX2_stepsBetween 43 = .ok (.ireturn, 1) := by decide +kernel
theorem dX2_nodesWithin_0 : decode cX2_nodesWithin 0 = .ok (.aload_n 0, 1) := by decide +kernel
theorem dX2_nodesWithin_1 : decode cX2_nodesWithin 1 = .ok (.aload_n 1, 1) := by decide +kernel
theorem dX2_nodesWithin_2 : decode cX2_nodesWithin 2 = .ok (.iconst (-1), 1) := by decide +kernel
theorem dX2_nodesWithin_3 : decode cX2_nodesWithin 3 = .ok (.invokevirtual 27, 3) := by decide +kernel
theorem dX2_nodesWithin_6 : decode cX2_nodesWithin 6 = .ok (.aload_n 0, 1) := by decide +kernel
theorem dX2_nodesWithin_7 : decode cX2_nodesWithin 7 = .ok (.iconst 1, 1) := by decide +kernel
theorem dX2_nodesWithin_8 : decode cX2_nodesWithin 8 = .ok (.iload_n 2, 1) := by decide +kernel
theorem dX2_nodesWithin_9 : decode cX2_nodesWithin 9 = .ok (.ishl, 1) := by decide +kernel
theorem dX2_nodesWithin_10 : decode cX2_nodesWithin 10 = .ok (.iload_n 3, 1) := by decide +kernel
theorem dX2_nodesWithin_11 : decode cX2_nodesWithin 11 = .ok (.iconst 0, 1) := by decide +kernel
theorem dX2_nodesWithin_12 : decode cX2_nodesWithin 12 = .ok (.invokevirtual 47, 3) := by decide +kernel
theorem dX2_nodesWithin_15 : decode cX2_nodesWithin 15 = .ok (.ireturn, 1) := by decide +kernel
theorem dX2_islandOf_0 : decode cX2_islandOf 0 = .ok (.aload_n 0, 1) := by decide +kernel
theorem dX2_islandOf_1 : decode cX2_islandOf 1 = .ok (.aload_n 1, 1) := by decide +kernel
theorem dX2_islandOf_2 : decode cX2_islandOf 2 = .ok (.iload_n 2, 1) := by decide +kernel
theorem dX2_islandOf_3 : decode cX2_islandOf 3 = .ok (.iconst (-1), 1) := by decide +kernel
theorem dX2_islandOf_4 : decode cX2_islandOf 4 = .ok (.invokevirtual 55, 3) := by decide +kernel
theorem dX2_islandOf_7 : decode cX2_islandOf 7 = .ok (.istore_n 3, 1) := by decide +kernel
theorem dX2_islandOf_8 : decode cX2_islandOf 8 = .ok (.iconst 0, 1) := by decide +kernel
theorem dX2_islandOf_9 : decode cX2_islandOf 9 = .ok (.istore 4, 2) := by decide +kernel
theorem dX2_islandOf_11 : decode cX2_islandOf 11 = .ok (.iload 4, 2) := by decide +kernel
theorem dX2_islandOf_13 : decode cX2_islandOf 13 = .ok (.aload_n 1, 1) := by decide +kernel
theorem dX2_islandOf_14 : decode cX2_islandOf 14 = .ok (.getfield 59, 3) := by decide +kernel
theorem dX2_islandOf_17 : decode cX2_islandOf 17 = .ok (.if_icmp .ge 30, 3) := by decide +kernel
theorem dX2_islandOf_20 : decode cX2_islandOf 20 = .ok (.aload_n 1, 1) := by decide +kernel
theorem dX2_islandOf_21 : decode cX2_islandOf 21 = .ok (.getfield 62, 3) := by decide +kernel
theorem dX2_islandOf_24 : decode cX2_islandOf 24 = .ok (.iload 4, 2) := by decide +kernel
theorem dX2_islandOf_26 : decode cX2_islandOf 26 = .ok (.iaload, 1) := by decide +kernel
theorem dX2_islandOf_27 : decode cX2_islandOf 27 = .ok (.ifCond .ne 14, 3) := by decide +kernel
theorem dX2_islandOf_30 : decode cX2_islandOf 30 = .ok (.iload_n 3, 1) := by decide +kernel
theorem dX2_islandOf_31 : decode cX2_islandOf 31 = .ok (.aload_n 0, 1) := by decide +kernel
theorem dX2_islandOf_32 : decode cX2_islandOf 32 = .ok (.aload_n 1, 1) := by decide +kernel
theorem dX2_islandOf_33 : decode cX2_islandOf 33 = .ok (.iload_n 2, 1) := by decide +kernel
theorem dX2_islandOf_34 : decode cX2_islandOf 34 = .ok (.iload 4, 2) := by decide +kernel
theorem dX2_islandOf_36 : decode cX2_islandOf 36 = .ok (.invokevirtual 55, 3) := by decide +kernel
theorem dX2_islandOf_39 : decode cX2_islandOf 39 = .ok (.iand, 1) := by decide +kernel
theorem dX2_islandOf_40 : decode cX2_islandOf 40 = .ok (.istore_n 3, 1) := by decide +kernel
theorem dX2_islandOf_41 : decode cX2_islandOf 41 = .ok (.iinc 4 1, 3) := by decide +kernel
theorem dX2_islandOf_44 : decode cX2_islandOf 44 = .ok (.goto (-33), 3) := by decide +kernel
theorem dX2_islandOf_47 : decode cX2_islandOf 47 = .ok (.iload_n 3, 1) := by decide +kernel
theorem dX2_islandOf_48 : decode cX2_islandOf 48 = .ok (.ireturn, 1) := by decide +kernel
theorem dX2_lossOf_0 : decode cX2_lossOf 0 = .ok (.aload_n 1, 1) := by decide +kernel
theorem dX2_lossOf_1 : decode cX2_lossOf 1 = .ok (.getfield 62, 3) := by decide +kernel
theorem dX2_lossOf_4 : decode cX2_lossOf 4 = .ok (.iload_n 2, 1) := by decide +kernel
theorem dX2_lossOf_5 : decode cX2_lossOf 5 = .ok (.iaload, 1) := by decide +kernel
theorem dX2_lossOf_6 : decode cX2_lossOf 6 = .ok (.ifCond .eq 5, 3) := by decide +kernel
theorem dX2_lossOf_9 : decode cX2_lossOf 9 = .ok (.iconst 0, 1) := by decide +kernel
theorem dX2_lossOf_10 : decode cX2_lossOf 10 = .ok (.ireturn, 1) := by decide +kernel
theorem dX2_lossOf_11 : decode cX2_lossOf 11 = .ok (.aload_n 0, 1) := by decide +kernel
theorem dX2_lossOf_12 : decode cX2_lossOf 12 = .ok (.aload_n 1, 1) := by decide +kernel
theorem dX2_lossOf_13 : decode cX2_lossOf 13 = .ok (.aload_n 1, 1) := by decide +kernel
theorem dX2_lossOf_14 : decode cX2_lossOf 14 = .ok (.getfield 65, 3) := by decide +kernel
theorem dX2_lossOf_17 : decode cX2_lossOf 17 = .ok (.iload_n 2, 1) := by decide +kernel
theorem dX2_lossOf_18 : decode cX2_lossOf 18 = .ok (.iaload, 1) := by decide +kernel
theorem dX2_lossOf_19 : decode cX2_lossOf 19 = .ok (.iload_n 2, 1) := by decide +kernel
theorem dX2_lossOf_20 : decode cX2_lossOf 20 = .ok (.invokevirtual 55, 3) := by decide +kernel
theorem dX2_lossOf_23 : decode cX2_lossOf 23 = .ok (.istore_n 3, 1) := by decide +kernel
theorem dX2_lossOf_24 : decode cX2_lossOf 24 = .ok (.iload_n 3, 1) := by decide +kernel
theorem dX2_lossOf_25 : decode cX2_lossOf 25 = .ok (.aload_n 1, 1) := by decide +kernel
theorem dX2_lossOf_26 : decode cX2_lossOf 26 = .ok (.getfield 68, 3) := by decide +kernel
theorem dX2_lossOf_29 : decode cX2_lossOf 29 = .ok (.iload_n 2, 1) := by decide +kernel
theorem dX2_lossOf_30 : decode cX2_lossOf 30 = .ok (.iaload, 1) := by decide +kernel
theorem dX2_lossOf_31 : decode cX2_lossOf 31 = .ok (.invokestatic 51, 3) := by decide +kernel
theorem dX2_lossOf_34 : decode cX2_lossOf 34 = .ok (.ifCond .eq 5, 3) := by decide +kernel
theorem dX2_lossOf_37 : decode cX2_lossOf 37 = .ok (.iconst 0, 1) := by decide +kernel
theorem dX2_lossOf_38 : decode cX2_lossOf 38 = .ok (.ireturn, 1) := by decide +kernel
theorem dX2_lossOf_39 : decode cX2_lossOf 39 = .ok (.iload_n 3, 1) := by decide +kernel
theorem dX2_lossOf_40 : decode cX2_lossOf 40 = .ok (.invokestatic 71, 3) := by decide +kernel
theorem dX2_lossOf_43 : decode cX2_lossOf 43 = .ok (.aload_n 0, 1) := by decide +kernel
theorem dX2_lossOf_44 : decode cX2_lossOf 44 = .ok (.aload_n 1, 1) := by decide +kernel
theorem dX2_lossOf_45 : decode cX2_lossOf 45 = .ok (.aload_n 1, 1) := by decide +kernel
theorem dX2_lossOf_46 : decode cX2_lossOf 46 = .ok (.getfield 68, 3) := by decide +kernel
theorem dX2_lossOf_49 : decode cX2_lossOf 49 = .ok (.iload_n 2, 1) := by decide +kernel
theorem dX2_lossOf_50 : decode cX2_lossOf 50 = .ok (.iaload, 1) := by decide +kernel
theorem dX2_lossOf_51 : decode cX2_lossOf 51 = .ok (.iload_n 2, 1) := by decide +kernel
theorem dX2_lossOf_52 : decode cX2_lossOf 52 = .ok (.invokevirtual 55, 3) := by decide +kernel
theorem dX2_lossOf_55 : decode cX2_lossOf 55 = .ok (.invokestatic 71, 3) := by decide +kernel
theorem dX2_lossOf_58 : decode cX2_lossOf 58 = .ok (.imul, 1) := by decide +kernel
theorem dX2_lossOf_59 : decode cX2_lossOf 59 = .ok (.ireturn, 1) := by decide +kernel
theorem dX2_bridgesOf_0 : decode cX2_bridgesOf 0 = .ok (.iconst 0, 1) := by decide +kernel
theorem dX2_bridgesOf_1 : decode cX2_bridgesOf 1 = .ok (.istore_n 2, 1) := by decide +kernel
theorem dX2_bridgesOf_2 : decode cX2_bridgesOf 2 = .ok (.iconst 0, 1) := by decide +kernel
theorem dX2_bridgesOf_3 : decode cX2_bridgesOf 3 = .ok (.istore_n 3, 1) := by decide +kernel
theorem dX2_bridgesOf_4 : decode cX2_bridgesOf 4 = .ok (.iload_n 3, 1) := by decide +kernel
theorem dX2_bridgesOf_5 : decode cX2_bridgesOf 5 = .ok (.aload_n 1, 1) := by decide +kernel
theorem dX2_bridgesOf_6 : decode cX2_bridgesOf 6 = .ok (.getfield 59, 3) := by decide +kernel
theorem dX2_bridgesOf_9 : decode cX2_bridgesOf 9 = .ok (.if_icmp .ge 21, 3) := by decide +kernel
theorem dX2_bridgesOf_12 : decode cX2_bridgesOf 12 = .ok (.aload_n 0, 1) := by decide +kernel
theorem dX2_bridgesOf_13 : decode cX2_bridgesOf 13 = .ok (.aload_n 1, 1) := by decide +kernel
theorem dX2_bridgesOf_14 : decode cX2_bridgesOf 14 = .ok (.iload_n 3, 1) := by decide +kernel
theorem dX2_bridgesOf_15 : decode cX2_bridgesOf 15 = .ok (.invokevirtual 76, 3) := by decide +kernel
theorem dX2_bridgesOf_18 : decode cX2_bridgesOf 18 = .ok (.ifCond .le 6, 3) := by decide +kernel
theorem dX2_bridgesOf_21 : decode cX2_bridgesOf 21 = .ok (.iinc 2 1, 3) := by decide +kernel
theorem dX2_bridgesOf_24 : decode cX2_bridgesOf 24 = .ok (.iinc 3 1, 3) := by decide +kernel
theorem dX2_bridgesOf_27 : decode cX2_bridgesOf 27 = .ok (.goto (-23), 3) := by decide +kernel
theorem dX2_bridgesOf_30 : decode cX2_bridgesOf 30 = .ok (.iload_n 2, 1) := by decide +kernel
theorem dX2_bridgesOf_31 : decode cX2_bridgesOf 31 = .ok (.ireturn, 1) := by decide +kernel
theorem dX2_keyOf_0 : decode cX2_keyOf 0 = .ok (.iconst (-1), 1) := by decide +kernel
theorem dX2_keyOf_1 : decode cX2_keyOf 1 = .ok (.istore_n 2, 1) := by decide +kernel
theorem dX2_keyOf_2 : decode cX2_keyOf 2 = .ok (.iconst 0, 1) := by decide +kernel
theorem dX2_keyOf_3 : decode cX2_keyOf 3 = .ok (.istore_n 3, 1) := by decide +kernel
theorem dX2_keyOf_4 : decode cX2_keyOf 4 = .ok (.iconst 0, 1) := by decide +kernel
theorem dX2_keyOf_5 : decode cX2_keyOf 5 = .ok (.istore 4, 2) := by decide +kernel
theorem dX2_keyOf_7 : decode cX2_keyOf 7 = .ok (.iload 4, 2) := by decide +kernel
theorem dX2_keyOf_9 : decode cX2_keyOf 9 = .ok (.aload_n 1, 1) := by decide +kernel
theorem dX2_keyOf_10 : decode cX2_keyOf 10 = .ok (.getfield 59, 3) := by decide +kernel
theorem dX2_keyOf_13 : decode cX2_keyOf 13 = .ok (.if_icmp .ge 30, 3) := by decide +kernel
theorem dX2_keyOf_16 : decode cX2_keyOf 16 = .ok (.aload_n 0, 1) := by decide +kernel
theorem dX2_keyOf_17 : decode cX2_keyOf 17 = .ok (.aload_n 1, 1) := by decide +kernel
theorem dX2_keyOf_18 : decode cX2_keyOf 18 = .ok (.iload 4, 2) := by decide +kernel
theorem dX2_keyOf_20 : decode cX2_keyOf 20 = .ok (.invokevirtual 76, 3) := by decide +kernel
theorem dX2_keyOf_23 : decode cX2_keyOf 23 = .ok (.istore 5, 2) := by decide +kernel
theorem dX2_keyOf_25 : decode cX2_keyOf 25 = .ok (.iload 5, 2) := by decide +kernel
theorem dX2_keyOf_27 : decode cX2_keyOf 27 = .ok (.iload_n 3, 1) := by decide +kernel
theorem dX2_keyOf_28 : decode cX2_keyOf 28 = .ok (.if_icmp .le 9, 3) := by decide +kernel
theorem dX2_keyOf_31 : decode cX2_keyOf 31 = .ok (.iload 5, 2) := by decide +kernel
theorem dX2_keyOf_33 : decode cX2_keyOf 33 = .ok (.istore_n 3, 1) := by decide +kernel
theorem dX2_keyOf_34 : decode cX2_keyOf 34 = .ok (.iload 4, 2) := by decide +kernel
theorem dX2_keyOf_36 : decode cX2_keyOf 36 = .ok (.istore_n 2, 1) := by decide +kernel
theorem dX2_keyOf_37 : decode cX2_keyOf 37 = .ok (.iinc 4 1, 3) := by decide +kernel
theorem dX2_keyOf_40 : decode cX2_keyOf 40 = .ok (.goto (-33), 3) := by decide +kernel
theorem dX2_keyOf_43 : decode cX2_keyOf 43 = .ok (.iload_n 2, 1) := by decide +kernel
theorem dX2_keyOf_44 : decode cX2_keyOf 44 = .ok (.ireturn, 1) := by decide +kernel
theorem dX2_hingesOf_0 : decode cX2_hingesOf 0 = .ok (.aload_n 0, 1) := by decide +kernel
theorem dX2_hingesOf_1 : decode cX2_hingesOf 1 = .ok (.aload_n 1, 1) := by decide +kernel
theorem dX2_hingesOf_2 : decode cX2_hingesOf 2 = .ok (.iconst (-1), 1) := by decide +kernel
theorem dX2_hingesOf_3 : decode cX2_hingesOf 3 = .ok (.invokevirtual 27, 3) := by decide +kernel
theorem dX2_hingesOf_6 : decode cX2_hingesOf 6 = .ok (.iconst 0, 1) := by decide +kernel
theorem dX2_hingesOf_7 : decode cX2_hingesOf 7 = .ok (.istore_n 2, 1) := by decide +kernel
theorem dX2_hingesOf_8 : decode cX2_hingesOf 8 = .ok (.iconst 0, 1) := by decide +kernel
theorem dX2_hingesOf_9 : decode cX2_hingesOf 9 = .ok (.istore_n 3, 1) := by decide +kernel
theorem dX2_hingesOf_10 : decode cX2_hingesOf 10 = .ok (.iload_n 3, 1) := by decide +kernel
theorem dX2_hingesOf_11 : decode cX2_hingesOf 11 = .ok (.aload_n 1, 1) := by decide +kernel
theorem dX2_hingesOf_12 : decode cX2_hingesOf 12 = .ok (.getfield 35, 3) := by decide +kernel
theorem dX2_hingesOf_15 : decode cX2_hingesOf 15 = .ok (.if_icmp .ge 53, 3) := by decide +kernel
theorem dX2_hingesOf_18 : decode cX2_hingesOf 18 = .ok (.aload_n 0, 1) := by decide +kernel
theorem dX2_hingesOf_19 : decode cX2_hingesOf 19 = .ok (.iconst 1, 1) := by decide +kernel
theorem dX2_hingesOf_20 : decode cX2_hingesOf 20 = .ok (.iload_n 3, 1) := by decide +kernel
theorem dX2_hingesOf_21 : decode cX2_hingesOf 21 = .ok (.ishl, 1) := by decide +kernel
theorem dX2_hingesOf_22 : decode cX2_hingesOf 22 = .ok (.bipush 16, 2) := by decide +kernel
theorem dX2_hingesOf_24 : decode cX2_hingesOf 24 = .ok (.iconst 0, 1) := by decide +kernel
theorem dX2_hingesOf_25 : decode cX2_hingesOf 25 = .ok (.invokevirtual 47, 3) := by decide +kernel
theorem dX2_hingesOf_28 : decode cX2_hingesOf 28 = .ok (.iconst 1, 1) := by decide +kernel
theorem dX2_hingesOf_29 : decode cX2_hingesOf 29 = .ok (.iload_n 3, 1) := by decide +kernel
theorem dX2_hingesOf_30 : decode cX2_hingesOf 30 = .ok (.ishl, 1) := by decide +kernel
theorem dX2_hingesOf_31 : decode cX2_hingesOf 31 = .ok (.iconst (-1), 1) := by decide +kernel
theorem dX2_hingesOf_32 : decode cX2_hingesOf 32 = .ok (.ixor, 1) := by decide +kernel
theorem dX2_hingesOf_33 : decode cX2_hingesOf 33 = .ok (.iand, 1) := by decide +kernel
theorem dX2_hingesOf_34 : decode cX2_hingesOf 34 = .ok (.istore 4, 2) := by decide +kernel
theorem dX2_hingesOf_36 : decode cX2_hingesOf 36 = .ok (.aload_n 0, 1) := by decide +kernel
theorem dX2_hingesOf_37 : decode cX2_hingesOf 37 = .ok (.iload 4, 2) := by decide +kernel
theorem dX2_hingesOf_39 : decode cX2_hingesOf 39 = .ok (.iload 4, 2) := by decide +kernel
theorem dX2_hingesOf_41 : decode cX2_hingesOf 41 = .ok (.ineg, 1) := by decide +kernel
theorem dX2_hingesOf_42 : decode cX2_hingesOf 42 = .ok (.iand, 1) := by decide +kernel
theorem dX2_hingesOf_43 : decode cX2_hingesOf 43 = .ok (.bipush 16, 2) := by decide +kernel
theorem dX2_hingesOf_45 : decode cX2_hingesOf 45 = .ok (.iconst 1, 1) := by decide +kernel
theorem dX2_hingesOf_46 : decode cX2_hingesOf 46 = .ok (.iload_n 3, 1) := by decide +kernel
theorem dX2_hingesOf_47 : decode cX2_hingesOf 47 = .ok (.ishl, 1) := by decide +kernel
theorem dX2_hingesOf_48 : decode cX2_hingesOf 48 = .ok (.invokevirtual 47, 3) := by decide +kernel
theorem dX2_hingesOf_51 : decode cX2_hingesOf 51 = .ok (.iload 4, 2) := by decide +kernel
theorem dX2_hingesOf_53 : decode cX2_hingesOf 53 = .ok (.if_icmp .eq 9, 3) := by decide +kernel
theorem dX2_hingesOf_56 : decode cX2_hingesOf 56 = .ok (.iload_n 2, 1) := by decide +kernel
theorem dX2_hingesOf_57 : decode cX2_hingesOf 57 = .ok (.iconst 1, 1) := by decide +kernel
theorem dX2_hingesOf_58 : decode cX2_hingesOf 58 = .ok (.iload_n 3, 1) := by decide +kernel
theorem dX2_hingesOf_59 : decode cX2_hingesOf 59 = .ok (.ishl, 1) := by decide +kernel
theorem dX2_hingesOf_60 : decode cX2_hingesOf 60 = .ok (.ior, 1) := by decide +kernel
theorem dX2_hingesOf_61 : decode cX2_hingesOf 61 = .ok (.istore_n 2, 1) := by decide +kernel
theorem dX2_hingesOf_62 : decode cX2_hingesOf 62 = .ok (.iinc 3 1, 3) := by decide +kernel
theorem dX2_hingesOf_65 : decode cX2_hingesOf 65 = .ok (.goto (-55), 3) := by decide +kernel
theorem dX2_hingesOf_68 : decode cX2_hingesOf 68 = .ok (.iload_n 2, 1) := by decide +kernel
theorem dX2_hingesOf_69 : decode cX2_hingesOf 69 = .ok (.ireturn, 1) := by decide +kernel
theorem dX2_wayLength_0 : decode cX2_wayLength 0 = .ok (.aload_n 0, 1) := by decide +kernel
theorem dX2_wayLength_1 : decode cX2_wayLength 1 = .ok (.aload_n 1, 1) := by decide +kernel
theorem dX2_wayLength_2 : decode cX2_wayLength 2 = .ok (.iload_n 3, 1) := by decide +kernel
theorem dX2_wayLength_3 : decode cX2_wayLength 3 = .ok (.invokevirtual 80, 3) := by decide +kernel
theorem dX2_wayLength_6 : decode cX2_wayLength 6 = .ok (.iload_n 2, 1) := by decide +kernel
theorem dX2_wayLength_7 : decode cX2_wayLength 7 = .ok (.istore 4, 2) := by decide +kernel
theorem dX2_wayLength_9 : decode cX2_wayLength 9 = .ok (.iconst 0, 1) := by decide +kernel
theorem dX2_wayLength_10 : decode cX2_wayLength 10 = .ok (.istore 5, 2) := by decide +kernel
theorem dX2_wayLength_12 : decode cX2_wayLength 12 = .ok (.iload 5, 2) := by decide +kernel
theorem dX2_wayLength_14 : decode cX2_wayLength 14 = .ok (.bipush 16, 2) := by decide +kernel
theorem dX2_wayLength_16 : decode cX2_wayLength 16 = .ok (.if_icmp .ge 37, 3) := by decide +kernel
theorem dX2_wayLength_19 : decode cX2_wayLength 19 = .ok (.iload 4, 2) := by decide +kernel
theorem dX2_wayLength_21 : decode cX2_wayLength 21 = .ok (.iload_n 3, 1) := by decide +kernel
theorem dX2_wayLength_22 : decode cX2_wayLength 22 = .ok (.if_icmp .ne 6, 3) := by decide +kernel
theorem dX2_wayLength_25 : decode cX2_wayLength 25 = .ok (.iload 5, 2) := by decide +kernel
theorem dX2_wayLength_27 : decode cX2_wayLength 27 = .ok (.ireturn, 1) := by decide +kernel
theorem dX2_wayLength_28 : decode cX2_wayLength 28 = .ok (.iload 4, 2) := by decide +kernel
theorem dX2_wayLength_30 : decode cX2_wayLength 30 = .ok (.iconst (-1), 1) := by decide +kernel
theorem dX2_wayLength_31 : decode cX2_wayLength 31 = .ok (.if_icmp .ne 7, 3) := by decide +kernel
theorem dX2_wayLength_34 : decode cX2_wayLength 34 = .ok (.iconst (-1), 1) := by decide +kernel
theorem dX2_wayLength_35 : decode cX2_wayLength 35 = .ok (.goto 10, 3) := by decide +kernel
theorem dX2_wayLength_38 : decode cX2_wayLength 38 = .ok (.aload_n 0, 1) := by decide +kernel
theorem dX2_wayLength_39 : decode cX2_wayLength 39 = .ok (.getfield 15, 3) := by decide +kernel
theorem dX2_wayLength_42 : decode cX2_wayLength 42 = .ok (.iload 4, 2) := by decide +kernel
theorem dX2_wayLength_44 : decode cX2_wayLength 44 = .ok (.iaload, 1) := by decide +kernel
theorem dX2_wayLength_45 : decode cX2_wayLength 45 = .ok (.istore 4, 2) := by decide +kernel
theorem dX2_wayLength_47 : decode cX2_wayLength 47 = .ok (.iinc 5 1, 3) := by decide +kernel
theorem dX2_wayLength_50 : decode cX2_wayLength 50 = .ok (.goto (-38), 3) := by decide +kernel
theorem dX2_wayLength_53 : decode cX2_wayLength 53 = .ok (.iconst (-1), 1) := by decide +kernel
theorem dX2_wayLength_54 : decode cX2_wayLength 54 = .ok (.ireturn, 1) := by decide +kernel
theorem dX2_wayNode_0 : decode cX2_wayNode 0 = .ok (.aload_n 0, 1) := by decide +kernel
theorem dX2_wayNode_1 : decode cX2_wayNode 1 = .ok (.aload_n 1, 1) := by decide +kernel
theorem dX2_wayNode_2 : decode cX2_wayNode 2 = .ok (.iload_n 2, 1) := by decide +kernel
theorem dX2_wayNode_3 : decode cX2_wayNode 3 = .ok (.iload_n 3, 1) := by decide +kernel
theorem dX2_wayNode_4 : decode cX2_wayNode 4 = .ok (.invokevirtual 83, 3) := by decide +kernel
theorem dX2_wayNode_7 : decode cX2_wayNode 7 = .ok (.istore 5, 2) := by decide +kernel
theorem dX2_wayNode_9 : decode cX2_wayNode 9 = .ok (.iload 4, 2) := by decide +kernel
theorem dX2_wayNode_11 : decode cX2_wayNode 11 = .ok (.ifCond .lt 10, 3) := by decide +kernel
theorem dX2_wayNode_14 : decode cX2_wayNode 14 = .ok (.iload 4, 2) := by decide +kernel
theorem dX2_wayNode_16 : decode cX2_wayNode 16 = .ok (.iload 5, 2) := by decide +kernel
theorem dX2_wayNode_18 : decode cX2_wayNode 18 = .ok (.if_icmp .le 5, 3) := by decide +kernel
theorem dX2_wayNode_21 : decode cX2_wayNode 21 = .ok (.iconst (-1), 1) := by decide +kernel
theorem dX2_wayNode_22 : decode cX2_wayNode 22 = .ok (.ireturn, 1) := by decide +kernel
theorem dX2_wayNode_23 : decode cX2_wayNode 23 = .ok (.iload_n 2, 1) := by decide +kernel
theorem dX2_wayNode_24 : decode cX2_wayNode 24 = .ok (.istore 6, 2) := by decide +kernel
theorem dX2_wayNode_26 : decode cX2_wayNode 26 = .ok (.iconst 0, 1) := by decide +kernel
theorem dX2_wayNode_27 : decode cX2_wayNode 27 = .ok (.istore 7, 2) := by decide +kernel
theorem dX2_wayNode_29 : decode cX2_wayNode 29 = .ok (.iload 7, 2) := by decide +kernel
theorem dX2_wayNode_31 : decode cX2_wayNode 31 = .ok (.iload 4, 2) := by decide +kernel
theorem dX2_wayNode_33 : decode cX2_wayNode 33 = .ok (.if_icmp .ge 24, 3) := by decide +kernel
theorem dX2_wayNode_36 : decode cX2_wayNode 36 = .ok (.iload 6, 2) := by decide +kernel
theorem dX2_wayNode_38 : decode cX2_wayNode 38 = .ok (.iconst (-1), 1) := by decide +kernel
theorem dX2_wayNode_39 : decode cX2_wayNode 39 = .ok (.if_icmp .eq 18, 3) := by decide +kernel
theorem dX2_wayNode_42 : decode cX2_wayNode 42 = .ok (.aload_n 0, 1) := by decide +kernel
theorem dX2_wayNode_43 : decode cX2_wayNode 43 = .ok (.getfield 15, 3) := by decide +kernel
theorem dX2_wayNode_46 : decode cX2_wayNode 46 = .ok (.iload 6, 2) := by decide +kernel
theorem dX2_wayNode_48 : decode cX2_wayNode 48 = .ok (.iaload, 1) := by decide +kernel
theorem dX2_wayNode_49 : decode cX2_wayNode 49 = .ok (.istore 6, 2) := by decide +kernel
theorem dX2_wayNode_51 : decode cX2_wayNode 51 = .ok (.iinc 7 1, 3) := by decide +kernel
theorem dX2_wayNode_54 : decode cX2_wayNode 54 = .ok (.goto (-25), 3) := by decide +kernel
theorem dX2_wayNode_57 : decode cX2_wayNode 57 = .ok (.iload 6, 2) := by decide +kernel
theorem dX2_wayNode_59 : decode cX2_wayNode 59 = .ok (.ireturn, 1) := by decide +kernel
theorem dX2_leastFare_0 : decode cX2_leastFare 0 = .ok (.aload_n 0, 1) := by decide +kernel
theorem dX2_leastFare_1 : decode cX2_leastFare 1 = .ok (.getfield 15, 3) := by decide +kernel
theorem dX2_leastFare_4 : decode cX2_leastFare 4 = .ok (.iconst (-1), 1) := by decide +kernel
theorem dX2_leastFare_5 : decode cX2_leastFare 5 = .ok (.invokestatic 86, 3) := by decide +kernel
theorem dX2_leastFare_8 : decode cX2_leastFare 8 = .ok (.aload_n 0, 1) := by decide +kernel
theorem dX2_leastFare_9 : decode cX2_leastFare 9 = .ok (.getfield 15, 3) := by decide +kernel
theorem dX2_leastFare_12 : decode cX2_leastFare 12 = .ok (.iload_n 2, 1) := by decide +kernel
theorem dX2_leastFare_13 : decode cX2_leastFare 13 = .ok (.iconst 0, 1) := by decide +kernel
theorem dX2_leastFare_14 : decode cX2_leastFare 14 = .ok (.iastore, 1) := by decide +kernel
theorem dX2_leastFare_15 : decode cX2_leastFare 15 = .ok (.iconst 0, 1) := by decide +kernel
theorem dX2_leastFare_16 : decode cX2_leastFare 16 = .ok (.istore 4, 2) := by decide +kernel
theorem dX2_leastFare_18 : decode cX2_leastFare 18 = .ok (.iload 4, 2) := by decide +kernel
theorem dX2_leastFare_20 : decode cX2_leastFare 20 = .ok (.bipush 16, 2) := by decide +kernel
theorem dX2_leastFare_22 : decode cX2_leastFare 22 = .ok (.if_icmp .ge 88, 3) := by decide +kernel
theorem dX2_leastFare_25 : decode cX2_leastFare 25 = .ok (.iconst 0, 1) := by decide +kernel
theorem dX2_leastFare_26 : decode cX2_leastFare 26 = .ok (.istore 5, 2) := by decide +kernel
theorem dX2_leastFare_28 : decode cX2_leastFare 28 = .ok (.iload 5, 2) := by decide +kernel
theorem dX2_leastFare_30 : decode cX2_leastFare 30 = .ok (.aload_n 1, 1) := by decide +kernel
theorem dX2_leastFare_31 : decode cX2_leastFare 31 = .ok (.getfield 59, 3) := by decide +kernel
theorem dX2_leastFare_34 : decode cX2_leastFare 34 = .ok (.if_icmp .ge 70, 3) := by decide +kernel
theorem dX2_leastFare_37 : decode cX2_leastFare 37 = .ok (.aload_n 1, 1) := by decide +kernel
theorem dX2_leastFare_38 : decode cX2_leastFare 38 = .ok (.getfield 62, 3) := by decide +kernel
theorem dX2_leastFare_41 : decode cX2_leastFare 41 = .ok (.iload 5, 2) := by decide +kernel
theorem dX2_leastFare_43 : decode cX2_leastFare 43 = .ok (.iaload, 1) := by decide +kernel
theorem dX2_leastFare_44 : decode cX2_leastFare 44 = .ok (.iconst 2, 1) := by decide +kernel
theorem dX2_leastFare_45 : decode cX2_leastFare 45 = .ok (.if_icmp .eq 53, 3) := by decide +kernel
theorem dX2_leastFare_48 : decode cX2_leastFare 48 = .ok (.aload_n 0, 1) := by decide +kernel
theorem dX2_leastFare_49 : decode cX2_leastFare 49 = .ok (.aload_n 1, 1) := by decide +kernel
theorem dX2_leastFare_50 : decode cX2_leastFare 50 = .ok (.getfield 65, 3) := by decide +kernel
theorem dX2_leastFare_53 : decode cX2_leastFare 53 = .ok (.iload 5, 2) := by decide +kernel
theorem dX2_leastFare_55 : decode cX2_leastFare 55 = .ok (.iaload, 1) := by decide +kernel
theorem dX2_leastFare_56 : decode cX2_leastFare 56 = .ok (.aload_n 1, 1) := by decide +kernel
theorem dX2_leastFare_57 : decode cX2_leastFare 57 = .ok (.getfield 68, 3) := by decide +kernel
theorem dX2_leastFare_60 : decode cX2_leastFare 60 = .ok (.iload 5, 2) := by decide +kernel
theorem dX2_leastFare_62 : decode cX2_leastFare 62 = .ok (.iaload, 1) := by decide +kernel
theorem dX2_leastFare_63 : decode cX2_leastFare 63 = .ok (.aload_n 1, 1) := by decide +kernel
theorem dX2_leastFare_64 : decode cX2_leastFare 64 = .ok (.getfield 92, 3) := by decide +kernel
theorem dX2_leastFare_67 : decode cX2_leastFare 67 = .ok (.iload 5, 2) := by decide +kernel
theorem dX2_leastFare_69 : decode cX2_leastFare 69 = .ok (.iaload, 1) := by decide +kernel
theorem dX2_leastFare_70 : decode cX2_leastFare 70 = .ok (.invokevirtual 95, 3) := by decide +kernel
theorem dX2_leastFare_73 : decode cX2_leastFare 73 = .ok (.aload_n 0, 1) := by decide +kernel
theorem dX2_leastFare_74 : decode cX2_leastFare 74 = .ok (.aload_n 1, 1) := by decide +kernel
theorem dX2_leastFare_75 : decode cX2_leastFare 75 = .ok (.getfield 68, 3) := by decide +kernel
theorem dX2_leastFare_78 : decode cX2_leastFare 78 = .ok (.iload 5, 2) := by decide +kernel
theorem dX2_leastFare_80 : decode cX2_leastFare 80 = .ok (.iaload, 1) := by decide +kernel
theorem dX2_leastFare_81 : decode cX2_leastFare 81 = .ok (.aload_n 1, 1) := by decide +kernel
theorem dX2_leastFare_82 : decode cX2_leastFare 82 = .ok (.getfield 65, 3) := by decide +kernel
theorem dX2_leastFare_85 : decode cX2_leastFare 85 = .ok (.iload 5, 2) := by decide +kernel
theorem dX2_leastFare_87 : decode cX2_leastFare 87 = .ok (.iaload, 1) := by decide +kernel
theorem dX2_leastFare_88 : decode cX2_leastFare 88 = .ok (.aload_n 1, 1) := by decide +kernel
theorem dX2_leastFare_89 : decode cX2_leastFare 89 = .ok (.getfield 92, 3) := by decide +kernel
theorem dX2_leastFare_92 : decode cX2_leastFare 92 = .ok (.iload 5, 2) := by decide +kernel
theorem dX2_leastFare_94 : decode cX2_leastFare 94 = .ok (.iaload, 1) := by decide +kernel
theorem dX2_leastFare_95 : decode cX2_leastFare 95 = .ok (.invokevirtual 95, 3) := by decide +kernel
theorem dX2_leastFare_98 : decode cX2_leastFare 98 = .ok (.iinc 5 1, 3) := by decide +kernel
theorem dX2_leastFare_101 : decode cX2_leastFare 101 = .ok (.goto (-73), 3) := by decide +kernel
theorem dX2_leastFare_104 : decode cX2_leastFare 104 = .ok (.iinc 4 1, 3) := by decide +kernel
theorem dX2_leastFare_107 : decode cX2_leastFare 107 = .ok (.goto (-89), 3) := by decide +kernel
theorem dX2_leastFare_110 : decode cX2_leastFare 110 = .ok (.aload_n 0, 1) := by decide +kernel
theorem dX2_leastFare_111 : decode cX2_leastFare 111 = .ok (.getfield 15, 3) := by decide +kernel
theorem dX2_leastFare_114 : decode cX2_leastFare 114 = .ok (.iload_n 3, 1) := by decide +kernel
theorem dX2_leastFare_115 : decode cX2_leastFare 115 = .ok (.iaload, 1) := by decide +kernel
theorem dX2_leastFare_116 : decode cX2_leastFare 116 = .ok (.ireturn, 1) := by decide +kernel
theorem dX2_cheapestOf_0 : decode cX2_cheapestOf 0 = .ok (.iconst 1, 1) := by decide +kernel
theorem dX2_cheapestOf_1 : decode cX2_cheapestOf 1 = .ok (.istore_n 2, 1) := by decide +kernel
theorem dX2_cheapestOf_2 : decode cX2_cheapestOf 2 = .ok (.iconst 0, 1) := by decide +kernel
theorem dX2_cheapestOf_3 : decode cX2_cheapestOf 3 = .ok (.istore_n 3, 1) := by decide +kernel
theorem dX2_cheapestOf_4 : decode cX2_cheapestOf 4 = .ok (.iconst 1, 1) := by decide +kernel
theorem dX2_cheapestOf_5 : decode cX2_cheapestOf 5 = .ok (.istore 4, 2) := by decide +kernel
theorem dX2_cheapestOf_7 : decode cX2_cheapestOf 7 = .ok (.iload 4, 2) := by decide +kernel
theorem dX2_cheapestOf_9 : decode cX2_cheapestOf 9 = .ok (.aload_n 1, 1) := by decide +kernel
theorem dX2_cheapestOf_10 : decode cX2_cheapestOf 10 = .ok (.getfield 35, 3) := by decide +kernel
theorem dX2_cheapestOf_13 : decode cX2_cheapestOf 13 = .ok (.if_icmp .ge 69, 3) := by decide +kernel
theorem dX2_cheapestOf_16 : decode cX2_cheapestOf 16 = .ok (.aload_n 0, 1) := by decide +kernel
theorem dX2_cheapestOf_17 : decode cX2_cheapestOf 17 = .ok (.aload_n 1, 1) := by decide +kernel
theorem dX2_cheapestOf_18 : decode cX2_cheapestOf 18 = .ok (.iload_n 2, 1) := by decide +kernel
theorem dX2_cheapestOf_19 : decode cX2_cheapestOf 19 = .ok (.invokevirtual 99, 3) := by decide +kernel
theorem dX2_cheapestOf_22 : decode cX2_cheapestOf 22 = .ok (.istore 5, 2) := by decide +kernel
theorem dX2_cheapestOf_24 : decode cX2_cheapestOf 24 = .ok (.iload 5, 2) := by decide +kernel
theorem dX2_cheapestOf_26 : decode cX2_cheapestOf 26 = .ok (.iconst (-1), 1) := by decide +kernel
theorem dX2_cheapestOf_27 : decode cX2_cheapestOf 27 = .ok (.if_icmp .ne 17, 3) := by decide +kernel
theorem dX2_cheapestOf_30 : decode cX2_cheapestOf 30 = .ok (.iload_n 2, 1) := by decide +kernel
theorem dX2_cheapestOf_31 : decode cX2_cheapestOf 31 = .ok (.iload_n 2, 1) := by decide +kernel
theorem dX2_cheapestOf_32 : decode cX2_cheapestOf 32 = .ok (.iconst (-1), 1) := by decide +kernel
theorem dX2_cheapestOf_33 : decode cX2_cheapestOf 33 = .ok (.ixor, 1) := by decide +kernel
theorem dX2_cheapestOf_34 : decode cX2_cheapestOf 34 = .ok (.iload_n 2, 1) := by decide +kernel
theorem dX2_cheapestOf_35 : decode cX2_cheapestOf 35 = .ok (.iconst (-1), 1) := by decide +kernel
theorem dX2_cheapestOf_36 : decode cX2_cheapestOf 36 = .ok (.ixor, 1) := by decide +kernel
theorem dX2_cheapestOf_37 : decode cX2_cheapestOf 37 = .ok (.ineg, 1) := by decide +kernel
theorem dX2_cheapestOf_38 : decode cX2_cheapestOf 38 = .ok (.iand, 1) := by decide +kernel
theorem dX2_cheapestOf_39 : decode cX2_cheapestOf 39 = .ok (.ior, 1) := by decide +kernel
theorem dX2_cheapestOf_40 : decode cX2_cheapestOf 40 = .ok (.istore_n 2, 1) := by decide +kernel
theorem dX2_cheapestOf_41 : decode cX2_cheapestOf 41 = .ok (.goto 35, 3) := by decide +kernel
theorem dX2_cheapestOf_44 : decode cX2_cheapestOf 44 = .ok (.iload_n 2, 1) := by decide +kernel
theorem dX2_cheapestOf_45 : decode cX2_cheapestOf 45 = .ok (.iconst 1, 1) := by decide +kernel
theorem dX2_cheapestOf_46 : decode cX2_cheapestOf 46 = .ok (.aload_n 1, 1) := by decide +kernel
theorem dX2_cheapestOf_47 : decode cX2_cheapestOf 47 = .ok (.getfield 65, 3) := by decide +kernel
theorem dX2_cheapestOf_50 : decode cX2_cheapestOf 50 = .ok (.iload 5, 2) := by decide +kernel
theorem dX2_cheapestOf_52 : decode cX2_cheapestOf 52 = .ok (.iaload, 1) := by decide +kernel
theorem dX2_cheapestOf_53 : decode cX2_cheapestOf 53 = .ok (.ishl, 1) := by decide +kernel
theorem dX2_cheapestOf_54 : decode cX2_cheapestOf 54 = .ok (.iconst 1, 1) := by decide +kernel
theorem dX2_cheapestOf_55 : decode cX2_cheapestOf 55 = .ok (.aload_n 1, 1) := by decide +kernel
theorem dX2_cheapestOf_56 : decode cX2_cheapestOf 56 = .ok (.getfield 68, 3) := by decide +kernel
theorem dX2_cheapestOf_59 : decode cX2_cheapestOf 59 = .ok (.iload 5, 2) := by decide +kernel
theorem dX2_cheapestOf_61 : decode cX2_cheapestOf 61 = .ok (.iaload, 1) := by decide +kernel
theorem dX2_cheapestOf_62 : decode cX2_cheapestOf 62 = .ok (.ishl, 1) := by decide +kernel
theorem dX2_cheapestOf_63 : decode cX2_cheapestOf 63 = .ok (.ior, 1) := by decide +kernel
theorem dX2_cheapestOf_64 : decode cX2_cheapestOf 64 = .ok (.ior, 1) := by decide +kernel
theorem dX2_cheapestOf_65 : decode cX2_cheapestOf 65 = .ok (.istore_n 2, 1) := by decide +kernel
theorem dX2_cheapestOf_66 : decode cX2_cheapestOf 66 = .ok (.iload_n 3, 1) := by decide +kernel
theorem dX2_cheapestOf_67 : decode cX2_cheapestOf 67 = .ok (.aload_n 1, 1) := by decide +kernel
theorem dX2_cheapestOf_68 : decode cX2_cheapestOf 68 = .ok (.getfield 92, 3) := by decide +kernel
theorem dX2_cheapestOf_71 : decode cX2_cheapestOf 71 = .ok (.iload 5, 2) := by decide +kernel
theorem dX2_cheapestOf_73 : decode cX2_cheapestOf 73 = .ok (.iaload, 1) := by decide +kernel
theorem dX2_cheapestOf_74 : decode cX2_cheapestOf 74 = .ok (.iadd, 1) := by decide +kernel
theorem dX2_cheapestOf_75 : decode cX2_cheapestOf 75 = .ok (.istore_n 3, 1) := by decide +kernel
theorem dX2_cheapestOf_76 : decode cX2_cheapestOf 76 = .ok (.iinc 4 1, 3) := by decide +kernel
theorem dX2_cheapestOf_79 : decode cX2_cheapestOf 79 = .ok (.goto (-72), 3) := by decide +kernel
theorem dX2_cheapestOf_82 : decode cX2_cheapestOf 82 = .ok (.iload_n 3, 1) := by decide +kernel
theorem dX2_cheapestOf_83 : decode cX2_cheapestOf 83 = .ok (.ireturn, 1) := by decide +kernel
theorem dX2_fewestBetween_0 : decode cX2_fewestBetween 0 = .ok (.aload_n 0, 1) := by decide +kernel
theorem dX2_fewestBetween_1 : decode cX2_fewestBetween 1 = .ok (.getfield 21, 3) := by decide +kernel
theorem dX2_fewestBetween_4 : decode cX2_fewestBetween 4 = .ok (.iconst 0, 1) := by decide +kernel
theorem dX2_fewestBetween_5 : decode cX2_fewestBetween 5 = .ok (.invokestatic 86, 3) := by decide +kernel
theorem dX2_fewestBetween_8 : decode cX2_fewestBetween 8 = .ok (.iconst 0, 1) := by decide +kernel
theorem dX2_fewestBetween_9 : decode cX2_fewestBetween 9 = .ok (.istore 4, 2) := by decide +kernel
theorem dX2_fewestBetween_11 : decode cX2_fewestBetween 11 = .ok (.iload 4, 2) := by decide +kernel
theorem dX2_fewestBetween_13 : decode cX2_fewestBetween 13 = .ok (.aload_n 1, 1) := by decide +kernel
theorem dX2_fewestBetween_14 : decode cX2_fewestBetween 14 = .ok (.getfield 59, 3) := by decide +kernel
theorem dX2_fewestBetween_17 : decode cX2_fewestBetween 17 = .ok (.if_icmp .ge 74, 3) := by decide +kernel
theorem dX2_fewestBetween_20 : decode cX2_fewestBetween 20 = .ok (.aload_n 1, 1) := by decide +kernel
theorem dX2_fewestBetween_21 : decode cX2_fewestBetween 21 = .ok (.getfield 62, 3) := by decide +kernel
theorem dX2_fewestBetween_24 : decode cX2_fewestBetween 24 = .ok (.iload 4, 2) := by decide +kernel
theorem dX2_fewestBetween_26 : decode cX2_fewestBetween 26 = .ok (.iaload, 1) := by decide +kernel
theorem dX2_fewestBetween_27 : decode cX2_fewestBetween 27 = .ok (.iconst 2, 1) := by decide +kernel
theorem dX2_fewestBetween_28 : decode cX2_fewestBetween 28 = .ok (.if_icmp .eq 57, 3) := by decide +kernel
theorem dX2_fewestBetween_31 : decode cX2_fewestBetween 31 = .ok (.aload_n 0, 1) := by decide +kernel
theorem dX2_fewestBetween_32 : decode cX2_fewestBetween 32 = .ok (.getfield 21, 3) := by decide +kernel
theorem dX2_fewestBetween_35 : decode cX2_fewestBetween 35 = .ok (.aload_n 1, 1) := by decide +kernel
theorem dX2_fewestBetween_36 : decode cX2_fewestBetween 36 = .ok (.getfield 65, 3) := by decide +kernel
theorem dX2_fewestBetween_39 : decode cX2_fewestBetween 39 = .ok (.iload 4, 2) := by decide +kernel
theorem dX2_fewestBetween_41 : decode cX2_fewestBetween 41 = .ok (.iaload, 1) := by decide +kernel
theorem dX2_fewestBetween_42 : decode cX2_fewestBetween 42 = .ok (.bipush 16, 2) := by decide +kernel
theorem dX2_fewestBetween_44 : decode cX2_fewestBetween 44 = .ok (.imul, 1) := by decide +kernel
theorem dX2_fewestBetween_45 : decode cX2_fewestBetween 45 = .ok (.aload_n 1, 1) := by decide +kernel
theorem dX2_fewestBetween_46 : decode cX2_fewestBetween 46 = .ok (.getfield 68, 3) := by decide +kernel
theorem dX2_fewestBetween_49 : decode cX2_fewestBetween 49 = .ok (.iload 4, 2) := by decide +kernel
theorem dX2_fewestBetween_51 : decode cX2_fewestBetween 51 = .ok (.iaload, 1) := by decide +kernel
theorem dX2_fewestBetween_52 : decode cX2_fewestBetween 52 = .ok (.iadd, 1) := by decide +kernel
theorem dX2_fewestBetween_53 : decode cX2_fewestBetween 53 = .ok (.dup2, 1) := by decide +kernel
theorem dX2_fewestBetween_54 : decode cX2_fewestBetween 54 = .ok (.iaload, 1) := by decide +kernel
theorem dX2_fewestBetween_55 : decode cX2_fewestBetween 55 = .ok (.iconst 1, 1) := by decide +kernel
theorem dX2_fewestBetween_56 : decode cX2_fewestBetween 56 = .ok (.iadd, 1) := by decide +kernel
theorem dX2_fewestBetween_57 : decode cX2_fewestBetween 57 = .ok (.iastore, 1) := by decide +kernel
theorem dX2_fewestBetween_58 : decode cX2_fewestBetween 58 = .ok (.aload_n 0, 1) := by decide +kernel
theorem dX2_fewestBetween_59 : decode cX2_fewestBetween 59 = .ok (.getfield 21, 3) := by decide +kernel
theorem dX2_fewestBetween_62 : decode cX2_fewestBetween 62 = .ok (.aload_n 1, 1) := by decide +kernel
theorem dX2_fewestBetween_63 : decode cX2_fewestBetween 63 = .ok (.getfield 68, 3) := by decide +kernel
theorem dX2_fewestBetween_66 : decode cX2_fewestBetween 66 = .ok (.iload 4, 2) := by decide +kernel
theorem dX2_fewestBetween_68 : decode cX2_fewestBetween 68 = .ok (.iaload, 1) := by decide +kernel
theorem dX2_fewestBetween_69 : decode cX2_fewestBetween 69 = .ok (.bipush 16, 2) := by decide +kernel
theorem dX2_fewestBetween_71 : decode cX2_fewestBetween 71 = .ok (.imul, 1) := by decide +kernel
theorem dX2_fewestBetween_72 : decode cX2_fewestBetween 72 = .ok (.aload_n 1, 1) := by decide +kernel
theorem dX2_fewestBetween_73 : decode cX2_fewestBetween 73 = .ok (.getfield 65, 3) := by decide +kernel
theorem dX2_fewestBetween_76 : decode cX2_fewestBetween 76 = .ok (.iload 4, 2) := by decide +kernel
theorem dX2_fewestBetween_78 : decode cX2_fewestBetween 78 = .ok (.iaload, 1) := by decide +kernel
theorem dX2_fewestBetween_79 : decode cX2_fewestBetween 79 = .ok (.iadd, 1) := by decide +kernel
theorem dX2_fewestBetween_80 : decode cX2_fewestBetween 80 = .ok (.dup2, 1) := by decide +kernel
theorem dX2_fewestBetween_81 : decode cX2_fewestBetween 81 = .ok (.iaload, 1) := by decide +kernel
theorem dX2_fewestBetween_82 : decode cX2_fewestBetween 82 = .ok (.iconst 1, 1) := by decide +kernel
theorem dX2_fewestBetween_83 : decode cX2_fewestBetween 83 = .ok (.iadd, 1) := by decide +kernel
theorem dX2_fewestBetween_84 : decode cX2_fewestBetween 84 = .ok (.iastore, 1) := by decide +kernel
theorem dX2_fewestBetween_85 : decode cX2_fewestBetween 85 = .ok (.iinc 4 1, 3) := by decide +kernel
theorem dX2_fewestBetween_88 : decode cX2_fewestBetween 88 = .ok (.goto (-77), 3) := by decide +kernel
theorem dX2_fewestBetween_91 : decode cX2_fewestBetween 91 = .ok (.iconst 0, 1) := by decide +kernel
theorem dX2_fewestBetween_92 : decode cX2_fewestBetween 92 = .ok (.istore 4, 2) := by decide +kernel
theorem dX2_fewestBetween_94 : decode cX2_fewestBetween 94 = .ok (.iload 4, 2) := by decide +kernel
theorem dX2_fewestBetween_96 : decode cX2_fewestBetween 96 = .ok (.bipush 60, 2) := by decide +kernel
theorem dX2_fewestBetween_98 : decode cX2_fewestBetween 98 = .ok (.if_icmp .ge 27, 3) := by decide +kernel
theorem dX2_fewestBetween_101 : decode cX2_fewestBetween 101 = .ok (.aload_n 0, 1) := by decide +kernel
theorem dX2_fewestBetween_102 : decode cX2_fewestBetween 102 = .ok (.iload_n 2, 1) := by decide +kernel
theorem dX2_fewestBetween_103 : decode cX2_fewestBetween 103 = .ok (.iload_n 3, 1) := by decide +kernel
theorem dX2_fewestBetween_104 : decode cX2_fewestBetween 104 = .ok (.invokevirtual 102, 3) := by decide +kernel
theorem dX2_fewestBetween_107 : decode cX2_fewestBetween 107 = .ok (.ifCond .ne 6, 3) := by decide +kernel
theorem dX2_fewestBetween_110 : decode cX2_fewestBetween 110 = .ok (.iload 4, 2) := by decide +kernel
theorem dX2_fewestBetween_112 : decode cX2_fewestBetween 112 = .ok (.ireturn, 1) := by decide +kernel
theorem dX2_fewestBetween_113 : decode cX2_fewestBetween 113 = .ok (.aload_n 0, 1) := by decide +kernel
theorem dX2_fewestBetween_114 : decode cX2_fewestBetween 114 = .ok (.iload_n 2, 1) := by decide +kernel
theorem dX2_fewestBetween_115 : decode cX2_fewestBetween 115 = .ok (.iload_n 3, 1) := by decide +kernel
theorem dX2_fewestBetween_116 : decode cX2_fewestBetween 116 = .ok (.invokevirtual 105, 3) := by decide +kernel
theorem dX2_fewestBetween_119 : decode cX2_fewestBetween 119 = .ok (.iinc 4 1, 3) := by decide +kernel
theorem dX2_fewestBetween_122 : decode cX2_fewestBetween 122 = .ok (.goto (-28), 3) := by decide +kernel
theorem dX2_fewestBetween_125 : decode cX2_fewestBetween 125 = .ok (.bipush 60, 2) := by decide +kernel
theorem dX2_fewestBetween_127 : decode cX2_fewestBetween 127 = .ok (.ireturn, 1) := by decide +kernel
theorem dX2_setsThatTie_0 : decode cX2_setsThatTie 0 = .ok (.iconst 0, 1) := by decide +kernel
theorem dX2_setsThatTie_1 : decode cX2_setsThatTie 1 = .ok (.istore 4, 2) := by decide +kernel
theorem dX2_setsThatTie_3 : decode cX2_setsThatTie 3 = .ok (.iconst 0, 1) := by decide +kernel
theorem dX2_setsThatTie_4 : decode cX2_setsThatTie 4 = .ok (.istore 5, 2) := by decide +kernel
theorem dX2_setsThatTie_6 : decode cX2_setsThatTie 6 = .ok (.iload 5, 2) := by decide +kernel
theorem dX2_setsThatTie_8 : decode cX2_setsThatTie 8 = .ok (.aload_n 1, 1) := by decide +kernel
theorem dX2_setsThatTie_9 : decode cX2_setsThatTie 9 = .ok (.getfield 59, 3) := by decide +kernel
theorem dX2_setsThatTie_12 : decode cX2_setsThatTie 12 = .ok (.if_icmp .ge 58, 3) := by decide +kernel
theorem dX2_setsThatTie_15 : decode cX2_setsThatTie 15 = .ok (.aload_n 1, 1) := by decide +kernel
theorem dX2_setsThatTie_16 : decode cX2_setsThatTie 16 = .ok (.getfield 62, 3) := by decide +kernel
theorem dX2_setsThatTie_19 : decode cX2_setsThatTie 19 = .ok (.iload 5, 2) := by decide +kernel
theorem dX2_setsThatTie_21 : decode cX2_setsThatTie 21 = .ok (.iaload, 1) := by decide +kernel
theorem dX2_setsThatTie_22 : decode cX2_setsThatTie 22 = .ok (.iconst 2, 1) := by decide +kernel
theorem dX2_setsThatTie_23 : decode cX2_setsThatTie 23 = .ok (.if_icmp .eq 41, 3) := by decide +kernel
theorem dX2_setsThatTie_26 : decode cX2_setsThatTie 26 = .ok (.iload 4, 2) := by decide +kernel
theorem dX2_setsThatTie_28 : decode cX2_setsThatTie 28 = .ok (.bipush 12, 2) := by decide +kernel
theorem dX2_setsThatTie_30 : decode cX2_setsThatTie 30 = .ok (.if_icmp .lt 5, 3) := by decide +kernel
theorem dX2_setsThatTie_33 : decode cX2_setsThatTie 33 = .ok (.iconst (-1), 1) := by decide +kernel
theorem dX2_setsThatTie_34 : decode cX2_setsThatTie 34 = .ok (.ireturn, 1) := by decide +kernel
theorem dX2_setsThatTie_35 : decode cX2_setsThatTie 35 = .ok (.aload_n 0, 1) := by decide +kernel
theorem dX2_setsThatTie_36 : decode cX2_setsThatTie 36 = .ok (.getfield 24, 3) := by decide +kernel
theorem dX2_setsThatTie_39 : decode cX2_setsThatTie 39 = .ok (.iload 4, 2) := by decide +kernel
theorem dX2_setsThatTie_41 : decode cX2_setsThatTie 41 = .ok (.iconst 1, 1) := by decide +kernel
theorem dX2_setsThatTie_42 : decode cX2_setsThatTie 42 = .ok (.aload_n 1, 1) := by decide +kernel
theorem dX2_setsThatTie_43 : decode cX2_setsThatTie 43 = .ok (.getfield 65, 3) := by decide +kernel
theorem dX2_setsThatTie_46 : decode cX2_setsThatTie 46 = .ok (.iload 5, 2) := by decide +kernel
theorem dX2_setsThatTie_48 : decode cX2_setsThatTie 48 = .ok (.iaload, 1) := by decide +kernel
theorem dX2_setsThatTie_49 : decode cX2_setsThatTie 49 = .ok (.ishl, 1) := by decide +kernel
theorem dX2_setsThatTie_50 : decode cX2_setsThatTie 50 = .ok (.iconst 1, 1) := by decide +kernel
theorem dX2_setsThatTie_51 : decode cX2_setsThatTie 51 = .ok (.aload_n 1, 1) := by decide +kernel
theorem dX2_setsThatTie_52 : decode cX2_setsThatTie 52 = .ok (.getfield 68, 3) := by decide +kernel
theorem dX2_setsThatTie_55 : decode cX2_setsThatTie 55 = .ok (.iload 5, 2) := by decide +kernel
theorem dX2_setsThatTie_57 : decode cX2_setsThatTie 57 = .ok (.iaload, 1) := by decide +kernel
theorem dX2_setsThatTie_58 : decode cX2_setsThatTie 58 = .ok (.ishl, 1) := by decide +kernel
theorem dX2_setsThatTie_59 : decode cX2_setsThatTie 59 = .ok (.ior, 1) := by decide +kernel
theorem dX2_setsThatTie_60 : decode cX2_setsThatTie 60 = .ok (.iastore, 1) := by decide +kernel
theorem dX2_setsThatTie_61 : decode cX2_setsThatTie 61 = .ok (.iinc 4 1, 3) := by decide +kernel
theorem dX2_setsThatTie_64 : decode cX2_setsThatTie 64 = .ok (.iinc 5 1, 3) := by decide +kernel
theorem dX2_setsThatTie_67 : decode cX2_setsThatTie 67 = .ok (.goto (-61), 3) := by decide +kernel
theorem dX2_setsThatTie_70 : decode cX2_setsThatTie 70 = .ok (.aload_n 0, 1) := by decide +kernel
theorem dX2_setsThatTie_71 : decode cX2_setsThatTie 71 = .ok (.getfield 24, 3) := by decide +kernel
theorem dX2_setsThatTie_74 : decode cX2_setsThatTie 74 = .ok (.iconst 1, 1) := by decide +kernel
theorem dX2_setsThatTie_75 : decode cX2_setsThatTie 75 = .ok (.iload_n 2, 1) := by decide +kernel
theorem dX2_setsThatTie_76 : decode cX2_setsThatTie 76 = .ok (.ishl, 1) := by decide +kernel
theorem dX2_setsThatTie_77 : decode cX2_setsThatTie 77 = .ok (.iload_n 3, 1) := by decide +kernel
theorem dX2_setsThatTie_78 : decode cX2_setsThatTie 78 = .ok (.iconst 1, 1) := by decide +kernel
theorem dX2_setsThatTie_79 : decode cX2_setsThatTie 79 = .ok (.iload 4, 2) := by decide +kernel
theorem dX2_setsThatTie_81 : decode cX2_setsThatTie 81 = .ok (.ishl, 1) := by decide +kernel
theorem dX2_setsThatTie_82 : decode cX2_setsThatTie 82 = .ok (.iconst 1, 1) := by decide +kernel
theorem dX2_setsThatTie_83 : decode cX2_setsThatTie 83 = .ok (.isub, 1) := by decide +kernel
theorem dX2_setsThatTie_84 : decode cX2_setsThatTie 84 = .ok (.iconst 0, 1) := by decide +kernel
theorem dX2_setsThatTie_85 : decode cX2_setsThatTie 85 = .ok (.invokestatic 109, 3) := by decide +kernel
theorem dX2_setsThatTie_88 : decode cX2_setsThatTie 88 = .ok (.ireturn, 1) := by decide +kernel
theorem dX2_tying_0 : decode cX2_tying 0 = .ok (.iload_n 1, 1) := by decide +kernel
theorem dX2_tying_1 : decode cX2_tying 1 = .ok (.iload_n 2, 1) := by decide +kernel
theorem dX2_tying_2 : decode cX2_tying 2 = .ok (.invokestatic 51, 3) := by decide +kernel
theorem dX2_tying_5 : decode cX2_tying 5 = .ok (.ifCond .eq 10, 3) := by decide +kernel
theorem dX2_tying_8 : decode cX2_tying 8 = .ok (.iconst 1, 1) := by decide +kernel
theorem dX2_tying_9 : decode cX2_tying 9 = .ok (.iload_n 3, 1) := by decide +kernel
theorem dX2_tying_10 : decode cX2_tying 10 = .ok (.invokestatic 71, 3) := by decide +kernel
theorem dX2_tying_13 : decode cX2_tying 13 = .ok (.ishl, 1) := by decide +kernel
theorem dX2_tying_14 : decode cX2_tying 14 = .ok (.ireturn, 1) := by decide +kernel
theorem dX2_tying_15 : decode cX2_tying 15 = .ok (.iload 4, 2) := by decide +kernel
theorem dX2_tying_17 : decode cX2_tying 17 = .ok (.bipush 12, 2) := by decide +kernel
theorem dX2_tying_19 : decode cX2_tying 19 = .ok (.if_icmp .lt 5, 3) := by decide +kernel
theorem dX2_tying_22 : decode cX2_tying 22 = .ok (.iconst 0, 1) := by decide +kernel
theorem dX2_tying_23 : decode cX2_tying 23 = .ok (.ireturn, 1) := by decide +kernel
theorem dX2_tying_24 : decode cX2_tying 24 = .ok (.iconst 0, 1) := by decide +kernel
theorem dX2_tying_25 : decode cX2_tying 25 = .ok (.istore 5, 2) := by decide +kernel
theorem dX2_tying_27 : decode cX2_tying 27 = .ok (.iload 5, 2) := by decide +kernel
theorem dX2_tying_29 : decode cX2_tying 29 = .ok (.bipush 12, 2) := by decide +kernel
theorem dX2_tying_31 : decode cX2_tying 31 = .ok (.if_icmp .ge 91, 3) := by decide +kernel
theorem dX2_tying_34 : decode cX2_tying 34 = .ok (.iload_n 3, 1) := by decide +kernel
theorem dX2_tying_35 : decode cX2_tying 35 = .ok (.iload 5, 2) := by decide +kernel
theorem dX2_tying_37 : decode cX2_tying 37 = .ok (.ishr, 1) := by decide +kernel
theorem dX2_tying_38 : decode cX2_tying 38 = .ok (.iconst 1, 1) := by decide +kernel
theorem dX2_tying_39 : decode cX2_tying 39 = .ok (.iand, 1) := by decide +kernel
theorem dX2_tying_40 : decode cX2_tying 40 = .ok (.ifCond .eq 27, 3) := by decide +kernel
theorem dX2_tying_43 : decode cX2_tying 43 = .ok (.aload_n 0, 1) := by decide +kernel
theorem dX2_tying_44 : decode cX2_tying 44 = .ok (.iload 5, 2) := by decide +kernel
theorem dX2_tying_46 : decode cX2_tying 46 = .ok (.iaload, 1) := by decide +kernel
theorem dX2_tying_47 : decode cX2_tying 47 = .ok (.iload_n 1, 1) := by decide +kernel
theorem dX2_tying_48 : decode cX2_tying 48 = .ok (.iand, 1) := by decide +kernel
theorem dX2_tying_49 : decode cX2_tying 49 = .ok (.ifCond .eq 18, 3) := by decide +kernel
theorem dX2_tying_52 : decode cX2_tying 52 = .ok (.aload_n 0, 1) := by decide +kernel
theorem dX2_tying_53 : decode cX2_tying 53 = .ok (.iload 5, 2) := by decide +kernel
theorem dX2_tying_55 : decode cX2_tying 55 = .ok (.iaload, 1) := by decide +kernel
theorem dX2_tying_56 : decode cX2_tying 56 = .ok (.iload_n 1, 1) := by decide +kernel
theorem dX2_tying_57 : decode cX2_tying 57 = .ok (.iconst (-1), 1) := by decide +kernel
theorem dX2_tying_58 : decode cX2_tying 58 = .ok (.ixor, 1) := by decide +kernel
theorem dX2_tying_59 : decode cX2_tying 59 = .ok (.iand, 1) := by decide +kernel
theorem dX2_tying_60 : decode cX2_tying 60 = .ok (.ifCond .eq 7, 3) := by decide +kernel
theorem dX2_tying_63 : decode cX2_tying 63 = .ok (.iconst 1, 1) := by decide +kernel
theorem dX2_tying_64 : decode cX2_tying 64 = .ok (.goto 4, 3) := by decide +kernel
theorem dX2_tying_67 : decode cX2_tying 67 = .ok (.iconst 0, 1) := by decide +kernel
theorem dX2_tying_68 : decode cX2_tying 68 = .ok (.istore 6, 2) := by decide +kernel
theorem dX2_tying_70 : decode cX2_tying 70 = .ok (.iload 6, 2) := by decide +kernel
theorem dX2_tying_72 : decode cX2_tying 72 = .ok (.ifCond .eq 44, 3) := by decide +kernel
theorem dX2_tying_75 : decode cX2_tying 75 = .ok (.iload_n 3, 1) := by decide +kernel
theorem dX2_tying_76 : decode cX2_tying 76 = .ok (.iconst 1, 1) := by decide +kernel
theorem dX2_tying_77 : decode cX2_tying 77 = .ok (.iload 5, 2) := by decide +kernel
theorem dX2_tying_79 : decode cX2_tying 79 = .ok (.ishl, 1) := by decide +kernel
theorem dX2_tying_80 : decode cX2_tying 80 = .ok (.iconst (-1), 1) := by decide +kernel
theorem dX2_tying_81 : decode cX2_tying 81 = .ok (.ixor, 1) := by decide +kernel
theorem dX2_tying_82 : decode cX2_tying 82 = .ok (.iand, 1) := by decide +kernel
theorem dX2_tying_83 : decode cX2_tying 83 = .ok (.istore 7, 2) := by decide +kernel
theorem dX2_tying_85 : decode cX2_tying 85 = .ok (.aload_n 0, 1) := by decide +kernel
theorem dX2_tying_86 : decode cX2_tying 86 = .ok (.iload_n 1, 1) := by decide +kernel
theorem dX2_tying_87 : decode cX2_tying 87 = .ok (.aload_n 0, 1) := by decide +kernel
theorem dX2_tying_88 : decode cX2_tying 88 = .ok (.iload 5, 2) := by decide +kernel
theorem dX2_tying_90 : decode cX2_tying 90 = .ok (.iaload, 1) := by decide +kernel
theorem dX2_tying_91 : decode cX2_tying 91 = .ok (.ior, 1) := by decide +kernel
theorem dX2_tying_92 : decode cX2_tying 92 = .ok (.iload_n 2, 1) := by decide +kernel
theorem dX2_tying_93 : decode cX2_tying 93 = .ok (.iload 7, 2) := by decide +kernel
theorem dX2_tying_95 : decode cX2_tying 95 = .ok (.iload 4, 2) := by decide +kernel
theorem dX2_tying_97 : decode cX2_tying 97 = .ok (.iconst 1, 1) := by decide +kernel
theorem dX2_tying_98 : decode cX2_tying 98 = .ok (.iadd, 1) := by decide +kernel
theorem dX2_tying_99 : decode cX2_tying 99 = .ok (.invokestatic 109, 3) := by decide +kernel
theorem dX2_tying_102 : decode cX2_tying 102 = .ok (.aload_n 0, 1) := by decide +kernel
theorem dX2_tying_103 : decode cX2_tying 103 = .ok (.iload_n 1, 1) := by decide +kernel
theorem dX2_tying_104 : decode cX2_tying 104 = .ok (.iload_n 2, 1) := by decide +kernel
theorem dX2_tying_105 : decode cX2_tying 105 = .ok (.iload 7, 2) := by decide +kernel
theorem dX2_tying_107 : decode cX2_tying 107 = .ok (.iload 4, 2) := by decide +kernel
theorem dX2_tying_109 : decode cX2_tying 109 = .ok (.iconst 1, 1) := by decide +kernel
theorem dX2_tying_110 : decode cX2_tying 110 = .ok (.iadd, 1) := by decide +kernel
theorem dX2_tying_111 : decode cX2_tying 111 = .ok (.invokestatic 109, 3) := by decide +kernel
theorem dX2_tying_114 : decode cX2_tying 114 = .ok (.iadd, 1) := by decide +kernel
theorem dX2_tying_115 : decode cX2_tying 115 = .ok (.ireturn, 1) := by decide +kernel
theorem dX2_tying_116 : decode cX2_tying 116 = .ok (.iinc 5 1, 3) := by decide +kernel
theorem dX2_tying_119 : decode cX2_tying 119 = .ok (.goto (-92), 3) := by decide +kernel
theorem dX2_tying_122 : decode cX2_tying 122 = .ok (.iconst 0, 1) := by decide +kernel
theorem dX2_tying_123 : decode cX2_tying 123 = .ok (.ireturn, 1) := by decide +kernel
theorem dX2_linkAll_0 : decode cX2_linkAll 0 = .ok (.aload_n 0, 1) := by decide +kernel
theorem dX2_linkAll_1 : decode cX2_linkAll 1 = .ok (.getfield 9, 3) := by decide +kernel
theorem dX2_linkAll_4 : decode cX2_linkAll 4 = .ok (.iconst 0, 1) := by decide +kernel
theorem dX2_linkAll_5 : decode cX2_linkAll 5 = .ok (.invokestatic 86, 3) := by decide +kernel
theorem dX2_linkAll_8 : decode cX2_linkAll 8 = .ok (.iconst 0, 1) := by decide +kernel
theorem dX2_linkAll_9 : decode cX2_linkAll 9 = .ok (.istore_n 3, 1) := by decide +kernel
theorem dX2_linkAll_10 : decode cX2_linkAll 10 = .ok (.iload_n 3, 1) := by decide +kernel
theorem dX2_linkAll_11 : decode cX2_linkAll 11 = .ok (.aload_n 1, 1) := by decide +kernel
theorem dX2_linkAll_12 : decode cX2_linkAll 12 = .ok (.getfield 59, 3) := by decide +kernel
theorem dX2_linkAll_15 : decode cX2_linkAll 15 = .ok (.if_icmp .ge 68, 3) := by decide +kernel
theorem dX2_linkAll_18 : decode cX2_linkAll 18 = .ok (.aload_n 1, 1) := by decide +kernel
theorem dX2_linkAll_19 : decode cX2_linkAll 19 = .ok (.getfield 62, 3) := by decide +kernel
theorem dX2_linkAll_22 : decode cX2_linkAll 22 = .ok (.iload_n 3, 1) := by decide +kernel
theorem dX2_linkAll_23 : decode cX2_linkAll 23 = .ok (.iaload, 1) := by decide +kernel
theorem dX2_linkAll_24 : decode cX2_linkAll 24 = .ok (.iconst 2, 1) := by decide +kernel
theorem dX2_linkAll_25 : decode cX2_linkAll 25 = .ok (.if_icmp .eq 52, 3) := by decide +kernel
theorem dX2_linkAll_28 : decode cX2_linkAll 28 = .ok (.iload_n 3, 1) := by decide +kernel
theorem dX2_linkAll_29 : decode cX2_linkAll 29 = .ok (.iload_n 2, 1) := by decide +kernel
theorem dX2_linkAll_30 : decode cX2_linkAll 30 = .ok (.if_icmp .eq 47, 3) := by decide +kernel
theorem dX2_linkAll_33 : decode cX2_linkAll 33 = .ok (.aload_n 0, 1) := by decide +kernel
theorem dX2_linkAll_34 : decode cX2_linkAll 34 = .ok (.getfield 9, 3) := by decide +kernel
theorem dX2_linkAll_37 : decode cX2_linkAll 37 = .ok (.aload_n 1, 1) := by decide +kernel
theorem dX2_linkAll_38 : decode cX2_linkAll 38 = .ok (.getfield 65, 3) := by decide +kernel
theorem dX2_linkAll_41 : decode cX2_linkAll 41 = .ok (.iload_n 3, 1) := by decide +kernel
theorem dX2_linkAll_42 : decode cX2_linkAll 42 = .ok (.iaload, 1) := by decide +kernel
theorem dX2_linkAll_43 : decode cX2_linkAll 43 = .ok (.dup2, 1) := by decide +kernel
theorem dX2_linkAll_44 : decode cX2_linkAll 44 = .ok (.iaload, 1) := by decide +kernel
theorem dX2_linkAll_45 : decode cX2_linkAll 45 = .ok (.iconst 1, 1) := by decide +kernel
theorem dX2_linkAll_46 : decode cX2_linkAll 46 = .ok (.aload_n 1, 1) := by decide +kernel
theorem dX2_linkAll_47 : decode cX2_linkAll 47 = .ok (.getfield 68, 3) := by decide +kernel
theorem dX2_linkAll_50 : decode cX2_linkAll 50 = .ok (.iload_n 3, 1) := by decide +kernel
theorem dX2_linkAll_51 : decode cX2_linkAll 51 = .ok (.iaload, 1) := by decide +kernel
theorem dX2_linkAll_52 : decode cX2_linkAll 52 = .ok (.ishl, 1) := by decide +kernel
theorem dX2_linkAll_53 : decode cX2_linkAll 53 = .ok (.ior, 1) := by decide +kernel
theorem dX2_linkAll_54 : decode cX2_linkAll 54 = .ok (.iastore, 1) := by decide +kernel
theorem dX2_linkAll_55 : decode cX2_linkAll 55 = .ok (.aload_n 0, 1) := by decide +kernel
theorem dX2_linkAll_56 : decode cX2_linkAll 56 = .ok (.getfield 9, 3) := by decide +kernel
theorem dX2_linkAll_59 : decode cX2_linkAll 59 = .ok (.aload_n 1, 1) := by decide +kernel
theorem dX2_linkAll_60 : decode cX2_linkAll 60 = .ok (.getfield 68, 3) := by decide +kernel
theorem dX2_linkAll_63 : decode cX2_linkAll 63 = .ok (.iload_n 3, 1) := by decide +kernel
theorem dX2_linkAll_64 : decode cX2_linkAll 64 = .ok (.iaload, 1) := by decide +kernel
theorem dX2_linkAll_65 : decode cX2_linkAll 65 = .ok (.dup2, 1) := by decide +kernel
theorem dX2_linkAll_66 : decode cX2_linkAll 66 = .ok (.iaload, 1) := by decide +kernel
theorem dX2_linkAll_67 : decode cX2_linkAll 67 = .ok (.iconst 1, 1) := by decide +kernel
theorem dX2_linkAll_68 : decode cX2_linkAll 68 = .ok (.aload_n 1, 1) := by decide +kernel
theorem dX2_linkAll_69 : decode cX2_linkAll 69 = .ok (.getfield 65, 3) := by decide +kernel
theorem dX2_linkAll_72 : decode cX2_linkAll 72 = .ok (.iload_n 3, 1) := by decide +kernel
theorem dX2_linkAll_73 : decode cX2_linkAll 73 = .ok (.iaload, 1) := by decide +kernel
theorem dX2_linkAll_74 : decode cX2_linkAll 74 = .ok (.ishl, 1) := by decide +kernel
theorem dX2_linkAll_75 : decode cX2_linkAll 75 = .ok (.ior, 1) := by decide +kernel
theorem dX2_linkAll_76 : decode cX2_linkAll 76 = .ok (.iastore, 1) := by decide +kernel
theorem dX2_linkAll_77 : decode cX2_linkAll 77 = .ok (.iinc 3 1, 3) := by decide +kernel
theorem dX2_linkAll_80 : decode cX2_linkAll 80 = .ok (.goto (-70), 3) := by decide +kernel
theorem dX2_linkAll_83 : decode cX2_linkAll 83 = .ok (.return_, 1) := by decide +kernel
theorem dX2_spread_0 : decode cX2_spread 0 = .ok (.iload_n 1, 1) := by decide +kernel
theorem dX2_spread_1 : decode cX2_spread 1 = .ok (.istore 4, 2) := by decide +kernel
theorem dX2_spread_3 : decode cX2_spread 3 = .ok (.iconst 0, 1) := by decide +kernel
theorem dX2_spread_4 : decode cX2_spread 4 = .ok (.istore 5, 2) := by decide +kernel
theorem dX2_spread_6 : decode cX2_spread 6 = .ok (.iload 5, 2) := by decide +kernel
theorem dX2_spread_8 : decode cX2_spread 8 = .ok (.iload_n 2, 1) := by decide +kernel
theorem dX2_spread_9 : decode cX2_spread 9 = .ok (.if_icmp .ge 73, 3) := by decide +kernel
theorem dX2_spread_12 : decode cX2_spread 12 = .ok (.iload 4, 2) := by decide +kernel
theorem dX2_spread_14 : decode cX2_spread 14 = .ok (.istore 6, 2) := by decide +kernel
theorem dX2_spread_16 : decode cX2_spread 16 = .ok (.iconst 0, 1) := by decide +kernel
theorem dX2_spread_17 : decode cX2_spread 17 = .ok (.istore 7, 2) := by decide +kernel
theorem dX2_spread_19 : decode cX2_spread 19 = .ok (.iload 7, 2) := by decide +kernel
theorem dX2_spread_21 : decode cX2_spread 21 = .ok (.bipush 16, 2) := by decide +kernel
theorem dX2_spread_23 : decode cX2_spread 23 = .ok (.if_icmp .ge 31, 3) := by decide +kernel
theorem dX2_spread_26 : decode cX2_spread 26 = .ok (.iload 4, 2) := by decide +kernel
theorem dX2_spread_28 : decode cX2_spread 28 = .ok (.iload 7, 2) := by decide +kernel
theorem dX2_spread_30 : decode cX2_spread 30 = .ok (.invokestatic 51, 3) := by decide +kernel
theorem dX2_spread_33 : decode cX2_spread 33 = .ok (.ifCond .eq 15, 3) := by decide +kernel
theorem dX2_spread_36 : decode cX2_spread 36 = .ok (.iload 6, 2) := by decide +kernel
theorem dX2_spread_38 : decode cX2_spread 38 = .ok (.aload_n 0, 1) := by decide +kernel
theorem dX2_spread_39 : decode cX2_spread 39 = .ok (.getfield 9, 3) := by decide +kernel
theorem dX2_spread_42 : decode cX2_spread 42 = .ok (.iload 7, 2) := by decide +kernel
theorem dX2_spread_44 : decode cX2_spread 44 = .ok (.iaload, 1) := by decide +kernel
theorem dX2_spread_45 : decode cX2_spread 45 = .ok (.ior, 1) := by decide +kernel
theorem dX2_spread_46 : decode cX2_spread 46 = .ok (.istore 6, 2) := by decide +kernel
theorem dX2_spread_48 : decode cX2_spread 48 = .ok (.iinc 7 1, 3) := by decide +kernel
theorem dX2_spread_51 : decode cX2_spread 51 = .ok (.goto (-32), 3) := by decide +kernel
theorem dX2_spread_54 : decode cX2_spread 54 = .ok (.iload 6, 2) := by decide +kernel
theorem dX2_spread_56 : decode cX2_spread 56 = .ok (.iload_n 3, 1) := by decide +kernel
theorem dX2_spread_57 : decode cX2_spread 57 = .ok (.iconst (-1), 1) := by decide +kernel
theorem dX2_spread_58 : decode cX2_spread 58 = .ok (.ixor, 1) := by decide +kernel
theorem dX2_spread_59 : decode cX2_spread 59 = .ok (.iand, 1) := by decide +kernel
theorem dX2_spread_60 : decode cX2_spread 60 = .ok (.istore 6, 2) := by decide +kernel
theorem dX2_spread_62 : decode cX2_spread 62 = .ok (.iload 6, 2) := by decide +kernel
theorem dX2_spread_64 : decode cX2_spread 64 = .ok (.iload 4, 2) := by decide +kernel
theorem dX2_spread_66 : decode cX2_spread 66 = .ok (.if_icmp .ne 6, 3) := by decide +kernel
theorem dX2_spread_69 : decode cX2_spread 69 = .ok (.iload 4, 2) := by decide +kernel
theorem dX2_spread_71 : decode cX2_spread 71 = .ok (.ireturn, 1) := by decide +kernel
theorem dX2_spread_72 : decode cX2_spread 72 = .ok (.iload 6, 2) := by decide +kernel
theorem dX2_spread_74 : decode cX2_spread 74 = .ok (.istore 4, 2) := by decide +kernel
theorem dX2_spread_76 : decode cX2_spread 76 = .ok (.iinc 5 1, 3) := by decide +kernel
theorem dX2_spread_79 : decode cX2_spread 79 = .ok (.goto (-73), 3) := by decide +kernel
theorem dX2_spread_82 : decode cX2_spread 82 = .ok (.iload 4, 2) := by decide +kernel
theorem dX2_spread_84 : decode cX2_spread 84 = .ok (.ireturn, 1) := by decide +kernel
theorem dX2_reach_0 : decode cX2_reach 0 = .ok (.aload_n 0, 1) := by decide +kernel
theorem dX2_reach_1 : decode cX2_reach 1 = .ok (.aload_n 1, 1) := by decide +kernel
theorem dX2_reach_2 : decode cX2_reach 2 = .ok (.iload_n 3, 1) := by decide +kernel
theorem dX2_reach_3 : decode cX2_reach 3 = .ok (.invokevirtual 27, 3) := by decide +kernel
theorem dX2_reach_6 : decode cX2_reach 6 = .ok (.aload_n 0, 1) := by decide +kernel
theorem dX2_reach_7 : decode cX2_reach 7 = .ok (.iconst 1, 1) := by decide +kernel
theorem dX2_reach_8 : decode cX2_reach 8 = .ok (.iload_n 2, 1) := by decide +kernel
theorem dX2_reach_9 : decode cX2_reach 9 = .ok (.ishl, 1) := by decide +kernel
theorem dX2_reach_10 : decode cX2_reach 10 = .ok (.bipush 16, 2) := by decide +kernel
theorem dX2_reach_12 : decode cX2_reach 12 = .ok (.iconst 0, 1) := by decide +kernel
theorem dX2_reach_13 : decode cX2_reach 13 = .ok (.invokevirtual 47, 3) := by decide +kernel
theorem dX2_reach_16 : decode cX2_reach 16 = .ok (.ireturn, 1) := by decide +kernel
theorem dX2_spanByLinks_0 : decode cX2_spanByLinks 0 = .ok (.iconst 1, 1) := by decide +kernel
theorem dX2_spanByLinks_1 : decode cX2_spanByLinks 1 = .ok (.iload_n 1, 1) := by decide +kernel
theorem dX2_spanByLinks_2 : decode cX2_spanByLinks 2 = .ok (.ishl, 1) := by decide +kernel
theorem dX2_spanByLinks_3 : decode cX2_spanByLinks 3 = .ok (.istore_n 2, 1) := by decide +kernel
theorem dX2_spanByLinks_4 : decode cX2_spanByLinks 4 = .ok (.iconst 0, 1) := by decide +kernel
theorem dX2_spanByLinks_5 : decode cX2_spanByLinks 5 = .ok (.istore_n 3, 1) := by decide +kernel
theorem dX2_spanByLinks_6 : decode cX2_spanByLinks 6 = .ok (.iload_n 3, 1) := by decide +kernel
theorem dX2_spanByLinks_7 : decode cX2_spanByLinks 7 = .ok (.bipush 16, 2) := by decide +kernel
theorem dX2_spanByLinks_9 : decode cX2_spanByLinks 9 = .ok (.if_icmp .ge 29, 3) := by decide +kernel
theorem dX2_spanByLinks_12 : decode cX2_spanByLinks 12 = .ok (.aload_n 0, 1) := by decide +kernel
theorem dX2_spanByLinks_13 : decode cX2_spanByLinks 13 = .ok (.iload_n 2, 1) := by decide +kernel
theorem dX2_spanByLinks_14 : decode cX2_spanByLinks 14 = .ok (.iconst 1, 1) := by decide +kernel
theorem dX2_spanByLinks_15 : decode cX2_spanByLinks 15 = .ok (.iconst 0, 1) := by decide +kernel
theorem dX2_spanByLinks_16 : decode cX2_spanByLinks 16 = .ok (.invokevirtual 47, 3) := by decide +kernel
theorem dX2_spanByLinks_19 : decode cX2_spanByLinks 19 = .ok (.istore 4, 2) := by decide +kernel
theorem dX2_spanByLinks_21 : decode cX2_spanByLinks 21 = .ok (.iload 4, 2) := by decide +kernel
theorem dX2_spanByLinks_23 : decode cX2_spanByLinks 23 = .ok (.iload_n 2, 1) := by decide +kernel
theorem dX2_spanByLinks_24 : decode cX2_spanByLinks 24 = .ok (.if_icmp .ne 5, 3) := by decide +kernel
theorem dX2_spanByLinks_27 : decode cX2_spanByLinks 27 = .ok (.iload_n 3, 1) := by decide +kernel
theorem dX2_spanByLinks_28 : decode cX2_spanByLinks 28 = .ok (.ireturn, 1) := by decide +kernel
theorem dX2_spanByLinks_29 : decode cX2_spanByLinks 29 = .ok (.iload 4, 2) := by decide +kernel
theorem dX2_spanByLinks_31 : decode cX2_spanByLinks 31 = .ok (.istore_n 2, 1) := by decide +kernel
theorem dX2_spanByLinks_32 : decode cX2_spanByLinks 32 = .ok (.iinc 3 1, 3) := by decide +kernel
theorem dX2_spanByLinks_35 : decode cX2_spanByLinks 35 = .ok (.goto (-29), 3) := by decide +kernel
theorem dX2_spanByLinks_38 : decode cX2_spanByLinks 38 = .ok (.bipush 16, 2) := by decide +kernel
theorem dX2_spanByLinks_40 : decode cX2_spanByLinks 40 = .ok (.ireturn, 1) := by decide +kernel
theorem dX2_markWay_0 : decode cX2_markWay 0 = .ok (.aload_n 0, 1) := by decide +kernel
theorem dX2_markWay_1 : decode cX2_markWay 1 = .ok (.getfield 15, 3) := by decide +kernel
theorem dX2_markWay_4 : decode cX2_markWay 4 = .ok (.iconst (-1), 1) := by decide +kernel
theorem dX2_markWay_5 : decode cX2_markWay 5 = .ok (.invokestatic 86, 3) := by decide +kernel
theorem dX2_markWay_8 : decode cX2_markWay 8 = .ok (.aload_n 0, 1) := by decide +kernel
theorem dX2_markWay_9 : decode cX2_markWay 9 = .ok (.getfield 15, 3) := by decide +kernel
theorem dX2_markWay_12 : decode cX2_markWay 12 = .ok (.iload_n 2, 1) := by decide +kernel
theorem dX2_markWay_13 : decode cX2_markWay 13 = .ok (.iload_n 2, 1) := by decide +kernel
theorem dX2_markWay_14 : decode cX2_markWay 14 = .ok (.iastore, 1) := by decide +kernel
theorem dX2_markWay_15 : decode cX2_markWay 15 = .ok (.iconst 0, 1) := by decide +kernel
theorem dX2_markWay_16 : decode cX2_markWay 16 = .ok (.istore_n 3, 1) := by decide +kernel
theorem dX2_markWay_17 : decode cX2_markWay 17 = .ok (.iload_n 3, 1) := by decide +kernel
theorem dX2_markWay_18 : decode cX2_markWay 18 = .ok (.bipush 16, 2) := by decide +kernel
theorem dX2_markWay_20 : decode cX2_markWay 20 = .ok (.if_icmp .ge 123, 3) := by decide +kernel
theorem dX2_markWay_23 : decode cX2_markWay 23 = .ok (.iconst 0, 1) := by decide +kernel
theorem dX2_markWay_24 : decode cX2_markWay 24 = .ok (.istore 4, 2) := by decide +kernel
theorem dX2_markWay_26 : decode cX2_markWay 26 = .ok (.iload 4, 2) := by decide +kernel
theorem dX2_markWay_28 : decode cX2_markWay 28 = .ok (.aload_n 1, 1) := by decide +kernel
theorem dX2_markWay_29 : decode cX2_markWay 29 = .ok (.getfield 59, 3) := by decide +kernel
theorem dX2_markWay_32 : decode cX2_markWay 32 = .ok (.if_icmp .ge 105, 3) := by decide +kernel
theorem dX2_markWay_35 : decode cX2_markWay 35 = .ok (.aload_n 1, 1) := by decide +kernel
theorem dX2_markWay_36 : decode cX2_markWay 36 = .ok (.getfield 65, 3) := by decide +kernel
theorem dX2_markWay_39 : decode cX2_markWay 39 = .ok (.iload 4, 2) := by decide +kernel
theorem dX2_markWay_41 : decode cX2_markWay 41 = .ok (.iaload, 1) := by decide +kernel
theorem dX2_markWay_42 : decode cX2_markWay 42 = .ok (.istore 5, 2) := by decide +kernel
theorem dX2_markWay_44 : decode cX2_markWay 44 = .ok (.aload_n 1, 1) := by decide +kernel
theorem dX2_markWay_45 : decode cX2_markWay 45 = .ok (.getfield 68, 3) := by decide +kernel
theorem dX2_markWay_48 : decode cX2_markWay 48 = .ok (.iload 4, 2) := by decide +kernel
theorem dX2_markWay_50 : decode cX2_markWay 50 = .ok (.iaload, 1) := by decide +kernel
theorem dX2_markWay_51 : decode cX2_markWay 51 = .ok (.istore 6, 2) := by decide +kernel
theorem dX2_markWay_53 : decode cX2_markWay 53 = .ok (.aload_n 1, 1) := by decide +kernel
theorem dX2_markWay_54 : decode cX2_markWay 54 = .ok (.getfield 62, 3) := by decide +kernel
theorem dX2_markWay_57 : decode cX2_markWay 57 = .ok (.iload 4, 2) := by decide +kernel
theorem dX2_markWay_59 : decode cX2_markWay 59 = .ok (.iaload, 1) := by decide +kernel
theorem dX2_markWay_60 : decode cX2_markWay 60 = .ok (.ifCond .eq 6, 3) := by decide +kernel
theorem dX2_markWay_63 : decode cX2_markWay 63 = .ok (.goto 68, 3) := by decide +kernel
theorem dX2_markWay_66 : decode cX2_markWay 66 = .ok (.aload_n 0, 1) := by decide +kernel
theorem dX2_markWay_67 : decode cX2_markWay 67 = .ok (.getfield 15, 3) := by decide +kernel
theorem dX2_markWay_70 : decode cX2_markWay 70 = .ok (.iload 5, 2) := by decide +kernel
theorem dX2_markWay_72 : decode cX2_markWay 72 = .ok (.iaload, 1) := by decide +kernel
theorem dX2_markWay_73 : decode cX2_markWay 73 = .ok (.iconst (-1), 1) := by decide +kernel
theorem dX2_markWay_74 : decode cX2_markWay 74 = .ok (.if_icmp .ne 26, 3) := by decide +kernel
theorem dX2_markWay_77 : decode cX2_markWay 77 = .ok (.aload_n 0, 1) := by decide +kernel
theorem dX2_markWay_78 : decode cX2_markWay 78 = .ok (.getfield 15, 3) := by decide +kernel
theorem dX2_markWay_81 : decode cX2_markWay 81 = .ok (.iload 6, 2) := by decide +kernel
theorem dX2_markWay_83 : decode cX2_markWay 83 = .ok (.iaload, 1) := by decide +kernel
theorem dX2_markWay_84 : decode cX2_markWay 84 = .ok (.iconst (-1), 1) := by decide +kernel
theorem dX2_markWay_85 : decode cX2_markWay 85 = .ok (.if_icmp .eq 15, 3) := by decide +kernel
theorem dX2_markWay_88 : decode cX2_markWay 88 = .ok (.aload_n 0, 1) := by decide +kernel
theorem dX2_markWay_89 : decode cX2_markWay 89 = .ok (.getfield 15, 3) := by decide +kernel
theorem dX2_markWay_92 : decode cX2_markWay 92 = .ok (.iload 5, 2) := by decide +kernel
theorem dX2_markWay_94 : decode cX2_markWay 94 = .ok (.iload 6, 2) := by decide +kernel
theorem dX2_markWay_96 : decode cX2_markWay 96 = .ok (.iastore, 1) := by decide +kernel
theorem dX2_markWay_97 : decode cX2_markWay 97 = .ok (.goto 34, 3) := by decide +kernel
theorem dX2_markWay_100 : decode cX2_markWay 100 = .ok (.aload_n 0, 1) := by decide +kernel
theorem dX2_markWay_101 : decode cX2_markWay 101 = .ok (.getfield 15, 3) := by decide +kernel
theorem dX2_markWay_104 : decode cX2_markWay 104 = .ok (.iload 6, 2) := by decide +kernel
theorem dX2_markWay_106 : decode cX2_markWay 106 = .ok (.iaload, 1) := by decide +kernel
theorem dX2_markWay_107 : decode cX2_markWay 107 = .ok (.iconst (-1), 1) := by decide +kernel
theorem dX2_markWay_108 : decode cX2_markWay 108 = .ok (.if_icmp .ne 23, 3) := by decide +kernel
theorem dX2_markWay_111 : decode cX2_markWay 111 = .ok (.aload_n 0, 1) := by decide +kernel
theorem dX2_markWay_112 : decode cX2_markWay 112 = .ok (.getfield 15, 3) := by decide +kernel
theorem dX2_markWay_115 : decode cX2_markWay 115 = .ok (.iload 5, 2) := by decide +kernel
theorem dX2_markWay_117 : decode cX2_markWay 117 = .ok (.iaload, 1) := by decide +kernel
theorem dX2_markWay_118 : decode cX2_markWay 118 = .ok (.iconst (-1), 1) := by decide +kernel
theorem dX2_markWay_119 : decode cX2_markWay 119 = .ok (.if_icmp .eq 12, 3) := by decide +kernel
theorem dX2_markWay_122 : decode cX2_markWay 122 = .ok (.aload_n 0, 1) := by decide +kernel
theorem dX2_markWay_123 : decode cX2_markWay 123 = .ok (.getfield 15, 3) := by decide +kernel
theorem dX2_markWay_126 : decode cX2_markWay 126 = .ok (.iload 6, 2) := by decide +kernel
theorem dX2_markWay_128 : decode cX2_markWay 128 = .ok (.iload 5, 2) := by decide +kernel
theorem dX2_markWay_130 : decode cX2_markWay 130 = .ok (.iastore, 1) := by decide +kernel
theorem dX2_markWay_131 : decode cX2_markWay 131 = .ok (.iinc 4 1, 3) := by decide +kernel
theorem dX2_markWay_134 : decode cX2_markWay 134 = .ok (.goto (-108), 3) := by decide +kernel
theorem dX2_markWay_137 : decode cX2_markWay 137 = .ok (.iinc 3 1, 3) := by decide +kernel
theorem dX2_markWay_140 : decode cX2_markWay 140 = .ok (.goto (-123), 3) := by decide +kernel
theorem dX2_markWay_143 : decode cX2_markWay 143 = .ok (.return_, 1) := by decide +kernel
theorem dX2_cheapen_0 : decode cX2_cheapen 0 = .ok (.aload_n 0, 1) := by decide +kernel
theorem dX2_cheapen_1 : decode cX2_cheapen 1 = .ok (.getfield 15, 3) := by decide +kernel
theorem dX2_cheapen_4 : decode cX2_cheapen 4 = .ok (.iload_n 1, 1) := by decide +kernel
theorem dX2_cheapen_5 : decode cX2_cheapen 5 = .ok (.iaload, 1) := by decide +kernel
theorem dX2_cheapen_6 : decode cX2_cheapen 6 = .ok (.iconst (-1), 1) := by decide +kernel
theorem dX2_cheapen_7 : decode cX2_cheapen 7 = .ok (.if_icmp .eq 44, 3) := by decide +kernel
theorem dX2_cheapen_10 : decode cX2_cheapen 10 = .ok (.aload_n 0, 1) := by decide +kernel
theorem dX2_cheapen_11 : decode cX2_cheapen 11 = .ok (.getfield 15, 3) := by decide +kernel
theorem dX2_cheapen_14 : decode cX2_cheapen 14 = .ok (.iload_n 2, 1) := by decide +kernel
theorem dX2_cheapen_15 : decode cX2_cheapen 15 = .ok (.iaload, 1) := by decide +kernel
theorem dX2_cheapen_16 : decode cX2_cheapen 16 = .ok (.iconst (-1), 1) := by decide +kernel
theorem dX2_cheapen_17 : decode cX2_cheapen 17 = .ok (.if_icmp .eq 20, 3) := by decide +kernel
theorem dX2_cheapen_20 : decode cX2_cheapen 20 = .ok (.aload_n 0, 1) := by decide +kernel
theorem dX2_cheapen_21 : decode cX2_cheapen 21 = .ok (.getfield 15, 3) := by decide +kernel
theorem dX2_cheapen_24 : decode cX2_cheapen 24 = .ok (.iload_n 1, 1) := by decide +kernel
theorem dX2_cheapen_25 : decode cX2_cheapen 25 = .ok (.iaload, 1) := by decide +kernel
theorem dX2_cheapen_26 : decode cX2_cheapen 26 = .ok (.iload_n 3, 1) := by decide +kernel
theorem dX2_cheapen_27 : decode cX2_cheapen 27 = .ok (.iadd, 1) := by decide +kernel
theorem dX2_cheapen_28 : decode cX2_cheapen 28 = .ok (.aload_n 0, 1) := by decide +kernel
theorem dX2_cheapen_29 : decode cX2_cheapen 29 = .ok (.getfield 15, 3) := by decide +kernel
theorem dX2_cheapen_32 : decode cX2_cheapen 32 = .ok (.iload_n 2, 1) := by decide +kernel
theorem dX2_cheapen_33 : decode cX2_cheapen 33 = .ok (.iaload, 1) := by decide +kernel
theorem dX2_cheapen_34 : decode cX2_cheapen 34 = .ok (.if_icmp .ge 17, 3) := by decide +kernel
theorem dX2_cheapen_37 : decode cX2_cheapen 37 = .ok (.aload_n 0, 1) := by decide +kernel
theorem dX2_cheapen_38 : decode cX2_cheapen 38 = .ok (.getfield 15, 3) := by decide +kernel
theorem dX2_cheapen_41 : decode cX2_cheapen 41 = .ok (.iload_n 2, 1) := by decide +kernel
theorem dX2_cheapen_42 : decode cX2_cheapen 42 = .ok (.aload_n 0, 1) := by decide +kernel
theorem dX2_cheapen_43 : decode cX2_cheapen 43 = .ok (.getfield 15, 3) := by decide +kernel
theorem dX2_cheapen_46 : decode cX2_cheapen 46 = .ok (.iload_n 1, 1) := by decide +kernel
theorem dX2_cheapen_47 : decode cX2_cheapen 47 = .ok (.iaload, 1) := by decide +kernel
theorem dX2_cheapen_48 : decode cX2_cheapen 48 = .ok (.iload_n 3, 1) := by decide +kernel
theorem dX2_cheapen_49 : decode cX2_cheapen 49 = .ok (.iadd, 1) := by decide +kernel
theorem dX2_cheapen_50 : decode cX2_cheapen 50 = .ok (.iastore, 1) := by decide +kernel
theorem dX2_cheapen_51 : decode cX2_cheapen 51 = .ok (.return_, 1) := by decide +kernel
theorem dX2_cheapestLeaving_0 : decode cX2_cheapestLeaving 0 = .ok (.iconst (-1), 1) := by decide +kernel
theorem dX2_cheapestLeaving_1 : decode cX2_cheapestLeaving 1 = .ok (.istore_n 3, 1) := by decide +kernel
theorem dX2_cheapestLeaving_2 : decode cX2_cheapestLeaving 2 = .ok (.iconst 0, 1) := by decide +kernel
theorem dX2_cheapestLeaving_3 : decode cX2_cheapestLeaving 3 = .ok (.istore 4, 2) := by decide +kernel
theorem dX2_cheapestLeaving_5 : decode cX2_cheapestLeaving 5 = .ok (.iload 4, 2) := by decide +kernel
theorem dX2_cheapestLeaving_7 : decode cX2_cheapestLeaving 7 = .ok (.aload_n 1, 1) := by decide +kernel
theorem dX2_cheapestLeaving_8 : decode cX2_cheapestLeaving 8 = .ok (.getfield 59, 3) := by decide +kernel
theorem dX2_cheapestLeaving_11 : decode cX2_cheapestLeaving 11 = .ok (.if_icmp .ge 81, 3) := by decide +kernel
theorem dX2_cheapestLeaving_14 : decode cX2_cheapestLeaving 14 = .ok (.aload_n 1, 1) := by decide +kernel
theorem dX2_cheapestLeaving_15 : decode cX2_cheapestLeaving 15 = .ok (.getfield 62, 3) := by decide +kernel
theorem dX2_cheapestLeaving_18 : decode cX2_cheapestLeaving 18 = .ok (.iload 4, 2) := by decide +kernel
theorem dX2_cheapestLeaving_20 : decode cX2_cheapestLeaving 20 = .ok (.iaload, 1) := by decide +kernel
theorem dX2_cheapestLeaving_21 : decode cX2_cheapestLeaving 21 = .ok (.iconst 2, 1) := by decide +kernel
theorem dX2_cheapestLeaving_22 : decode cX2_cheapestLeaving 22 = .ok (.if_icmp .eq 32, 3) := by decide +kernel
theorem dX2_cheapestLeaving_25 : decode cX2_cheapestLeaving 25 = .ok (.iload_n 2, 1) := by decide +kernel
theorem dX2_cheapestLeaving_26 : decode cX2_cheapestLeaving 26 = .ok (.aload_n 1, 1) := by decide +kernel
theorem dX2_cheapestLeaving_27 : decode cX2_cheapestLeaving 27 = .ok (.getfield 65, 3) := by decide +kernel
theorem dX2_cheapestLeaving_30 : decode cX2_cheapestLeaving 30 = .ok (.iload 4, 2) := by decide +kernel
theorem dX2_cheapestLeaving_32 : decode cX2_cheapestLeaving 32 = .ok (.iaload, 1) := by decide +kernel
theorem dX2_cheapestLeaving_33 : decode cX2_cheapestLeaving 33 = .ok (.invokestatic 51, 3) := by decide +kernel
theorem dX2_cheapestLeaving_36 : decode cX2_cheapestLeaving 36 = .ok (.iload_n 2, 1) := by decide +kernel
theorem dX2_cheapestLeaving_37 : decode cX2_cheapestLeaving 37 = .ok (.aload_n 1, 1) := by decide +kernel
theorem dX2_cheapestLeaving_38 : decode cX2_cheapestLeaving 38 = .ok (.getfield 68, 3) := by decide +kernel
theorem dX2_cheapestLeaving_41 : decode cX2_cheapestLeaving 41 = .ok (.iload 4, 2) := by decide +kernel
theorem dX2_cheapestLeaving_43 : decode cX2_cheapestLeaving 43 = .ok (.iaload, 1) := by decide +kernel
theorem dX2_cheapestLeaving_44 : decode cX2_cheapestLeaving 44 = .ok (.invokestatic 51, 3) := by decide +kernel
theorem dX2_cheapestLeaving_47 : decode cX2_cheapestLeaving 47 = .ok (.if_icmp .eq 7, 3) := by decide +kernel
theorem dX2_cheapestLeaving_50 : decode cX2_cheapestLeaving 50 = .ok (.iconst 1, 1) := by decide +kernel
theorem dX2_cheapestLeaving_51 : decode cX2_cheapestLeaving 51 = .ok (.goto 4, 3) := by decide +kernel
theorem dX2_cheapestLeaving_54 : decode cX2_cheapestLeaving 54 = .ok (.iconst 0, 1) := by decide +kernel
theorem dX2_cheapestLeaving_55 : decode cX2_cheapestLeaving 55 = .ok (.istore 5, 2) := by decide +kernel
theorem dX2_cheapestLeaving_57 : decode cX2_cheapestLeaving 57 = .ok (.iload 5, 2) := by decide +kernel
theorem dX2_cheapestLeaving_59 : decode cX2_cheapestLeaving 59 = .ok (.ifCond .eq 27, 3) := by decide +kernel
theorem dX2_cheapestLeaving_62 : decode cX2_cheapestLeaving 62 = .ok (.iload_n 3, 1) := by decide +kernel
theorem dX2_cheapestLeaving_63 : decode cX2_cheapestLeaving 63 = .ok (.iconst (-1), 1) := by decide +kernel
theorem dX2_cheapestLeaving_64 : decode cX2_cheapestLeaving 64 = .ok (.if_icmp .eq 19, 3) := by decide +kernel
theorem dX2_cheapestLeaving_67 : decode cX2_cheapestLeaving 67 = .ok (.aload_n 1, 1) := by decide +kernel
theorem dX2_cheapestLeaving_68 : decode cX2_cheapestLeaving 68 = .ok (.getfield 92, 3) := by decide +kernel
theorem dX2_cheapestLeaving_71 : decode cX2_cheapestLeaving 71 = .ok (.iload 4, 2) := by decide +kernel
theorem dX2_cheapestLeaving_73 : decode cX2_cheapestLeaving 73 = .ok (.iaload, 1) := by decide +kernel
theorem dX2_cheapestLeaving_74 : decode cX2_cheapestLeaving 74 = .ok (.aload_n 1, 1) := by decide +kernel
theorem dX2_cheapestLeaving_75 : decode cX2_cheapestLeaving 75 = .ok (.getfield 92, 3) := by decide +kernel
theorem dX2_cheapestLeaving_78 : decode cX2_cheapestLeaving 78 = .ok (.iload_n 3, 1) := by decide +kernel
theorem dX2_cheapestLeaving_79 : decode cX2_cheapestLeaving 79 = .ok (.iaload, 1) := by decide +kernel
theorem dX2_cheapestLeaving_80 : decode cX2_cheapestLeaving 80 = .ok (.if_icmp .ge 6, 3) := by decide +kernel
theorem dX2_cheapestLeaving_83 : decode cX2_cheapestLeaving 83 = .ok (.iload 4, 2) := by decide +kernel
theorem dX2_cheapestLeaving_85 : decode cX2_cheapestLeaving 85 = .ok (.istore_n 3, 1) := by decide +kernel
theorem dX2_cheapestLeaving_86 : decode cX2_cheapestLeaving 86 = .ok (.iinc 4 1, 3) := by decide +kernel
theorem dX2_cheapestLeaving_89 : decode cX2_cheapestLeaving 89 = .ok (.goto (-84), 3) := by decide +kernel
theorem dX2_cheapestLeaving_92 : decode cX2_cheapestLeaving 92 = .ok (.iload_n 3, 1) := by decide +kernel
theorem dX2_cheapestLeaving_93 : decode cX2_cheapestLeaving 93 = .ok (.ireturn, 1) := by decide +kernel
theorem dX2_findRoom_0 : decode cX2_findRoom 0 = .ok (.aload_n 0, 1) := by decide +kernel
theorem dX2_findRoom_1 : decode cX2_findRoom 1 = .ok (.getfield 15, 3) := by decide +kernel
theorem dX2_findRoom_4 : decode cX2_findRoom 4 = .ok (.iconst (-1), 1) := by decide +kernel
theorem dX2_findRoom_5 : decode cX2_findRoom 5 = .ok (.invokestatic 86, 3) := by decide +kernel
theorem dX2_findRoom_8 : decode cX2_findRoom 8 = .ok (.aload_n 0, 1) := by decide +kernel
theorem dX2_findRoom_9 : decode cX2_findRoom 9 = .ok (.getfield 15, 3) := by decide +kernel
theorem dX2_findRoom_12 : decode cX2_findRoom 12 = .ok (.iload_n 1, 1) := by decide +kernel
theorem dX2_findRoom_13 : decode cX2_findRoom 13 = .ok (.iload_n 1, 1) := by decide +kernel
theorem dX2_findRoom_14 : decode cX2_findRoom 14 = .ok (.iastore, 1) := by decide +kernel
theorem dX2_findRoom_15 : decode cX2_findRoom 15 = .ok (.aload_n 0, 1) := by decide +kernel
theorem dX2_findRoom_16 : decode cX2_findRoom 16 = .ok (.getfield 18, 3) := by decide +kernel
theorem dX2_findRoom_19 : decode cX2_findRoom 19 = .ok (.iconst 0, 1) := by decide +kernel
theorem dX2_findRoom_20 : decode cX2_findRoom 20 = .ok (.iload_n 1, 1) := by decide +kernel
theorem dX2_findRoom_21 : decode cX2_findRoom 21 = .ok (.iastore, 1) := by decide +kernel
theorem dX2_findRoom_22 : decode cX2_findRoom 22 = .ok (.iconst 1, 1) := by decide +kernel
theorem dX2_findRoom_23 : decode cX2_findRoom 23 = .ok (.istore_n 3, 1) := by decide +kernel
theorem dX2_findRoom_24 : decode cX2_findRoom 24 = .ok (.iconst 0, 1) := by decide +kernel
theorem dX2_findRoom_25 : decode cX2_findRoom 25 = .ok (.istore 4, 2) := by decide +kernel
theorem dX2_findRoom_27 : decode cX2_findRoom 27 = .ok (.iload 4, 2) := by decide +kernel
theorem dX2_findRoom_29 : decode cX2_findRoom 29 = .ok (.iload_n 3, 1) := by decide +kernel
theorem dX2_findRoom_30 : decode cX2_findRoom 30 = .ok (.if_icmp .ge 97, 3) := by decide +kernel
theorem dX2_findRoom_33 : decode cX2_findRoom 33 = .ok (.aload_n 0, 1) := by decide +kernel
theorem dX2_findRoom_34 : decode cX2_findRoom 34 = .ok (.getfield 15, 3) := by decide +kernel
theorem dX2_findRoom_37 : decode cX2_findRoom 37 = .ok (.iload_n 2, 1) := by decide +kernel
theorem dX2_findRoom_38 : decode cX2_findRoom 38 = .ok (.iaload, 1) := by decide +kernel
theorem dX2_findRoom_39 : decode cX2_findRoom 39 = .ok (.iconst (-1), 1) := by decide +kernel
theorem dX2_findRoom_40 : decode cX2_findRoom 40 = .ok (.if_icmp .ne 87, 3) := by decide +kernel
theorem dX2_findRoom_43 : decode cX2_findRoom 43 = .ok (.aload_n 0, 1) := by decide +kernel
theorem dX2_findRoom_44 : decode cX2_findRoom 44 = .ok (.getfield 18, 3) := by decide +kernel
theorem dX2_findRoom_47 : decode cX2_findRoom 47 = .ok (.iload 4, 2) := by decide +kernel
theorem dX2_findRoom_49 : decode cX2_findRoom 49 = .ok (.iaload, 1) := by decide +kernel
theorem dX2_findRoom_50 : decode cX2_findRoom 50 = .ok (.istore 5, 2) := by decide +kernel
theorem dX2_findRoom_52 : decode cX2_findRoom 52 = .ok (.iconst 0, 1) := by decide +kernel
theorem dX2_findRoom_53 : decode cX2_findRoom 53 = .ok (.istore 6, 2) := by decide +kernel
theorem dX2_findRoom_55 : decode cX2_findRoom 55 = .ok (.iload 6, 2) := by decide +kernel
theorem dX2_findRoom_57 : decode cX2_findRoom 57 = .ok (.bipush 16, 2) := by decide +kernel
theorem dX2_findRoom_59 : decode cX2_findRoom 59 = .ok (.if_icmp .ge 62, 3) := by decide +kernel
theorem dX2_findRoom_62 : decode cX2_findRoom 62 = .ok (.iload_n 3, 1) := by decide +kernel
theorem dX2_findRoom_63 : decode cX2_findRoom 63 = .ok (.bipush 16, 2) := by decide +kernel
theorem dX2_findRoom_65 : decode cX2_findRoom 65 = .ok (.if_icmp .ge 56, 3) := by decide +kernel
theorem dX2_findRoom_68 : decode cX2_findRoom 68 = .ok (.aload_n 0, 1) := by decide +kernel
theorem dX2_findRoom_69 : decode cX2_findRoom 69 = .ok (.getfield 15, 3) := by decide +kernel
theorem dX2_findRoom_72 : decode cX2_findRoom 72 = .ok (.iload 6, 2) := by decide +kernel
theorem dX2_findRoom_74 : decode cX2_findRoom 74 = .ok (.iaload, 1) := by decide +kernel
theorem dX2_findRoom_75 : decode cX2_findRoom 75 = .ok (.iconst (-1), 1) := by decide +kernel
theorem dX2_findRoom_76 : decode cX2_findRoom 76 = .ok (.if_icmp .ne 39, 3) := by decide +kernel
theorem dX2_findRoom_79 : decode cX2_findRoom 79 = .ok (.aload_n 0, 1) := by decide +kernel
theorem dX2_findRoom_80 : decode cX2_findRoom 80 = .ok (.getfield 21, 3) := by decide +kernel
theorem dX2_findRoom_83 : decode cX2_findRoom 83 = .ok (.iload 5, 2) := by decide +kernel
theorem dX2_findRoom_85 : decode cX2_findRoom 85 = .ok (.bipush 16, 2) := by decide +kernel
theorem dX2_findRoom_87 : decode cX2_findRoom 87 = .ok (.imul, 1) := by decide +kernel
theorem dX2_findRoom_88 : decode cX2_findRoom 88 = .ok (.iload 6, 2) := by decide +kernel
theorem dX2_findRoom_90 : decode cX2_findRoom 90 = .ok (.iadd, 1) := by decide +kernel
theorem dX2_findRoom_91 : decode cX2_findRoom 91 = .ok (.iaload, 1) := by decide +kernel
theorem dX2_findRoom_92 : decode cX2_findRoom 92 = .ok (.ifCond .le 23, 3) := by decide +kernel
theorem dX2_findRoom_95 : decode cX2_findRoom 95 = .ok (.aload_n 0, 1) := by decide +kernel
theorem dX2_findRoom_96 : decode cX2_findRoom 96 = .ok (.getfield 15, 3) := by decide +kernel
theorem dX2_findRoom_99 : decode cX2_findRoom 99 = .ok (.iload 6, 2) := by decide +kernel
theorem dX2_findRoom_101 : decode cX2_findRoom 101 = .ok (.iload 5, 2) := by decide +kernel
theorem dX2_findRoom_103 : decode cX2_findRoom 103 = .ok (.iastore, 1) := by decide +kernel
theorem dX2_findRoom_104 : decode cX2_findRoom 104 = .ok (.aload_n 0, 1) := by decide +kernel
theorem dX2_findRoom_105 : decode cX2_findRoom 105 = .ok (.getfield 18, 3) := by decide +kernel
theorem dX2_findRoom_108 : decode cX2_findRoom 108 = .ok (.iload_n 3, 1) := by decide +kernel
theorem dX2_findRoom_109 : decode cX2_findRoom 109 = .ok (.iload 6, 2) := by decide +kernel
theorem dX2_findRoom_111 : decode cX2_findRoom 111 = .ok (.iastore, 1) := by decide +kernel
theorem dX2_findRoom_112 : decode cX2_findRoom 112 = .ok (.iinc 3 1, 3) := by decide +kernel
theorem dX2_findRoom_115 : decode cX2_findRoom 115 = .ok (.iinc 6 1, 3) := by decide +kernel
theorem dX2_findRoom_118 : decode cX2_findRoom 118 = .ok (.goto (-63), 3) := by decide +kernel
theorem dX2_findRoom_121 : decode cX2_findRoom 121 = .ok (.iinc 4 1, 3) := by decide +kernel
theorem dX2_findRoom_124 : decode cX2_findRoom 124 = .ok (.goto (-97), 3) := by decide +kernel
theorem dX2_findRoom_127 : decode cX2_findRoom 127 = .ok (.aload_n 0, 1) := by decide +kernel
theorem dX2_findRoom_128 : decode cX2_findRoom 128 = .ok (.getfield 15, 3) := by decide +kernel
theorem dX2_findRoom_131 : decode cX2_findRoom 131 = .ok (.iload_n 2, 1) := by decide +kernel
theorem dX2_findRoom_132 : decode cX2_findRoom 132 = .ok (.iaload, 1) := by decide +kernel
theorem dX2_findRoom_133 : decode cX2_findRoom 133 = .ok (.iconst (-1), 1) := by decide +kernel
theorem dX2_findRoom_134 : decode cX2_findRoom 134 = .ok (.if_icmp .eq 7, 3) := by decide +kernel
theorem dX2_findRoom_137 : decode cX2_findRoom 137 = .ok (.iconst 1, 1) := by decide +kernel
theorem dX2_findRoom_138 : decode cX2_findRoom 138 = .ok (.goto 4, 3) := by decide +kernel
theorem dX2_findRoom_141 : decode cX2_findRoom 141 = .ok (.iconst 0, 1) := by decide +kernel
theorem dX2_findRoom_142 : decode cX2_findRoom 142 = .ok (.ireturn, 1) := by decide +kernel
theorem dX2_sendOne_0 : decode cX2_sendOne 0 = .ok (.iload_n 2, 1) := by decide +kernel
theorem dX2_sendOne_1 : decode cX2_sendOne 1 = .ok (.istore_n 3, 1) := by decide +kernel
theorem dX2_sendOne_2 : decode cX2_sendOne 2 = .ok (.iconst 0, 1) := by decide +kernel
theorem dX2_sendOne_3 : decode cX2_sendOne 3 = .ok (.istore 4, 2) := by decide +kernel
theorem dX2_sendOne_5 : decode cX2_sendOne 5 = .ok (.iload 4, 2) := by decide +kernel
theorem dX2_sendOne_7 : decode cX2_sendOne 7 = .ok (.bipush 16, 2) := by decide +kernel
theorem dX2_sendOne_9 : decode cX2_sendOne 9 = .ok (.if_icmp .ge 64, 3) := by decide +kernel
theorem dX2_sendOne_12 : decode cX2_sendOne 12 = .ok (.iload_n 3, 1) := by decide +kernel
theorem dX2_sendOne_13 : decode cX2_sendOne 13 = .ok (.iload_n 1, 1) := by decide +kernel
theorem dX2_sendOne_14 : decode cX2_sendOne 14 = .ok (.if_icmp .eq 59, 3) := by decide +kernel
theorem dX2_sendOne_17 : decode cX2_sendOne 17 = .ok (.aload_n 0, 1) := by decide +kernel
theorem dX2_sendOne_18 : decode cX2_sendOne 18 = .ok (.getfield 15, 3) := by decide +kernel
theorem dX2_sendOne_21 : decode cX2_sendOne 21 = .ok (.iload_n 3, 1) := by decide +kernel
theorem dX2_sendOne_22 : decode cX2_sendOne 22 = .ok (.iaload, 1) := by decide +kernel
theorem dX2_sendOne_23 : decode cX2_sendOne 23 = .ok (.istore 5, 2) := by decide +kernel
theorem dX2_sendOne_25 : decode cX2_sendOne 25 = .ok (.iload 5, 2) := by decide +kernel
theorem dX2_sendOne_27 : decode cX2_sendOne 27 = .ok (.iconst (-1), 1) := by decide +kernel
theorem dX2_sendOne_28 : decode cX2_sendOne 28 = .ok (.if_icmp .ne 4, 3) := by decide +kernel
theorem dX2_sendOne_31 : decode cX2_sendOne 31 = .ok (.return_, 1) := by decide +kernel
theorem dX2_sendOne_32 : decode cX2_sendOne 32 = .ok (.aload_n 0, 1) := by decide +kernel
theorem dX2_sendOne_33 : decode cX2_sendOne 33 = .ok (.getfield 21, 3) := by decide +kernel
theorem dX2_sendOne_36 : decode cX2_sendOne 36 = .ok (.iload 5, 2) := by decide +kernel
theorem dX2_sendOne_38 : decode cX2_sendOne 38 = .ok (.bipush 16, 2) := by decide +kernel
theorem dX2_sendOne_40 : decode cX2_sendOne 40 = .ok (.imul, 1) := by decide +kernel
theorem dX2_sendOne_41 : decode cX2_sendOne 41 = .ok (.iload_n 3, 1) := by decide +kernel
theorem dX2_sendOne_42 : decode cX2_sendOne 42 = .ok (.iadd, 1) := by decide +kernel
theorem dX2_sendOne_43 : decode cX2_sendOne 43 = .ok (.dup2, 1) := by decide +kernel
theorem dX2_sendOne_44 : decode cX2_sendOne 44 = .ok (.iaload, 1) := by decide +kernel
theorem dX2_sendOne_45 : decode cX2_sendOne 45 = .ok (.iconst 1, 1) := by decide +kernel
theorem dX2_sendOne_46 : decode cX2_sendOne 46 = .ok (.isub, 1) := by decide +kernel
theorem dX2_sendOne_47 : decode cX2_sendOne 47 = .ok (.iastore, 1) := by decide +kernel
theorem dX2_sendOne_48 : decode cX2_sendOne 48 = .ok (.aload_n 0, 1) := by decide +kernel
theorem dX2_sendOne_49 : decode cX2_sendOne 49 = .ok (.getfield 21, 3) := by decide +kernel
theorem dX2_sendOne_52 : decode cX2_sendOne 52 = .ok (.iload_n 3, 1) := by decide +kernel
theorem dX2_sendOne_53 : decode cX2_sendOne 53 = .ok (.bipush 16, 2) := by decide +kernel
theorem dX2_sendOne_55 : decode cX2_sendOne 55 = .ok (.imul, 1) := by decide +kernel
theorem dX2_sendOne_56 : decode cX2_sendOne 56 = .ok (.iload 5, 2) := by decide +kernel
theorem dX2_sendOne_58 : decode cX2_sendOne 58 = .ok (.iadd, 1) := by decide +kernel
theorem dX2_sendOne_59 : decode cX2_sendOne 59 = .ok (.dup2, 1) := by decide +kernel
theorem dX2_sendOne_60 : decode cX2_sendOne 60 = .ok (.iaload, 1) := by decide +kernel
theorem dX2_sendOne_61 : decode cX2_sendOne 61 = .ok (.iconst 1, 1) := by decide +kernel
theorem dX2_sendOne_62 : decode cX2_sendOne 62 = .ok (.iadd, 1) := by decide +kernel
theorem dX2_sendOne_63 : decode cX2_sendOne 63 = .ok (.iastore, 1) := by decide +kernel
theorem dX2_sendOne_64 : decode cX2_sendOne 64 = .ok (.iload 5, 2) := by decide +kernel
theorem dX2_sendOne_66 : decode cX2_sendOne 66 = .ok (.istore_n 3, 1) := by decide +kernel
theorem dX2_sendOne_67 : decode cX2_sendOne 67 = .ok (.iinc 4 1, 3) := by decide +kernel
theorem dX2_sendOne_70 : decode cX2_sendOne 70 = .ok (.goto (-65), 3) := by decide +kernel
theorem dX2_sendOne_73 : decode cX2_sendOne 73 = .ok (.return_, 1) := by decide +kernel

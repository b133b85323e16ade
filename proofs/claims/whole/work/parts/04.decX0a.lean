theorem dX0_init_0 : decode cX0_init 0 = .ok (.aload_n 0, 1) := by decide +kernel
theorem dX0_init_1 : decode cX0_init 1 = .ok (.invokespecial 3, 3) := by decide +kernel
theorem dX0_init_4 : decode cX0_init 4 = .ok (.aload_n 0, 1) := by decide +kernel
theorem dX0_init_5 : decode cX0_init 5 = .ok (.bipush 48, 2) := by decide +kernel
theorem dX0_init_7 : decode cX0_init 7 = .ok (.newarray .int, 2) := by decide +kernel
theorem dX0_init_9 : decode cX0_init 9 = .ok (.putfield 11, 3) := by decide +kernel
theorem dX0_init_12 : decode cX0_init 12 = .ok (.aload_n 0, 1) := by decide +kernel
theorem dX0_init_13 : decode cX0_init 13 = .ok (.iconst 0, 1) := by decide +kernel
theorem dX0_init_14 : decode cX0_init 14 = .ok (.putfield 15, 3) := by decide +kernel
theorem dX0_init_17 : decode cX0_init 17 = .ok (.return_, 1) := by decide +kernel
theorem dX0_plant_0 : decode cX0_plant 0 = .ok (.aload_n 0, 1) := by decide +kernel
theorem dX0_plant_1 : decode cX0_plant 1 = .ok (.iconst 0, 1) := by decide +kernel
theorem dX0_plant_2 : decode cX0_plant 2 = .ok (.putfield 15, 3) := by decide +kernel
theorem dX0_plant_5 : decode cX0_plant 5 = .ok (.iconst 0, 1) := by decide +kernel
theorem dX0_plant_6 : decode cX0_plant 6 = .ok (.istore_n 2, 1) := by decide +kernel
theorem dX0_plant_7 : decode cX0_plant 7 = .ok (.iload_n 2, 1) := by decide +kernel
theorem dX0_plant_8 : decode cX0_plant 8 = .ok (.iload_n 1, 1) := by decide +kernel
theorem dX0_plant_9 : decode cX0_plant 9 = .ok (.if_icmp .ge 52, 3) := by decide +kernel
theorem dX0_plant_12 : decode cX0_plant 12 = .ok (.aload_n 0, 1) := by decide +kernel
theorem dX0_plant_13 : decode cX0_plant 13 = .ok (.getfield 15, 3) := by decide +kernel
theorem dX0_plant_16 : decode cX0_plant 16 = .ok (.iconst 1, 1) := by decide +kernel
theorem dX0_plant_17 : decode cX0_plant 17 = .ok (.iadd, 1) := by decide +kernel
theorem dX0_plant_18 : decode cX0_plant 18 = .ok (.bipush 48, 2) := by decide +kernel
theorem dX0_plant_20 : decode cX0_plant 20 = .ok (.if_icmp .ge 41, 3) := by decide +kernel
theorem dX0_plant_23 : decode cX0_plant 23 = .ok (.aload_n 0, 1) := by decide +kernel
theorem dX0_plant_24 : decode cX0_plant 24 = .ok (.getfield 11, 3) := by decide +kernel
theorem dX0_plant_27 : decode cX0_plant 27 = .ok (.aload_n 0, 1) := by decide +kernel
theorem dX0_plant_28 : decode cX0_plant 28 = .ok (.getfield 15, 3) := by decide +kernel
theorem dX0_plant_31 : decode cX0_plant 31 = .ok (.iload_n 2, 1) := by decide +kernel
theorem dX0_plant_32 : decode cX0_plant 32 = .ok (.iastore, 1) := by decide +kernel
theorem dX0_plant_33 : decode cX0_plant 33 = .ok (.aload_n 0, 1) := by decide +kernel
theorem dX0_plant_34 : decode cX0_plant 34 = .ok (.getfield 11, 3) := by decide +kernel
theorem dX0_plant_37 : decode cX0_plant 37 = .ok (.aload_n 0, 1) := by decide +kernel
theorem dX0_plant_38 : decode cX0_plant 38 = .ok (.getfield 15, 3) := by decide +kernel
theorem dX0_plant_41 : decode cX0_plant 41 = .ok (.iconst 1, 1) := by decide +kernel
theorem dX0_plant_42 : decode cX0_plant 42 = .ok (.iadd, 1) := by decide +kernel
theorem dX0_plant_43 : decode cX0_plant 43 = .ok (.iconst (-1), 1) := by decide +kernel
theorem dX0_plant_44 : decode cX0_plant 44 = .ok (.iastore, 1) := by decide +kernel
theorem dX0_plant_45 : decode cX0_plant 45 = .ok (.aload_n 0, 1) := by decide +kernel
theorem dX0_plant_46 : decode cX0_plant 46 = .ok (.dup, 1) := by decide +kernel
theorem dX0_plant_47 : decode cX0_plant 47 = .ok (.getfield 15, 3) := by decide +kernel
theorem dX0_plant_50 : decode cX0_plant 50 = .ok (.iconst 2, 1) := by decide +kernel
theorem dX0_plant_51 : decode cX0_plant 51 = .ok (.iadd, 1) := by decide +kernel
theorem dX0_plant_52 : decode cX0_plant 52 = .ok (.putfield 15, 3) := by decide +kernel
theorem dX0_plant_55 : decode cX0_plant 55 = .ok (.iinc 2 1, 3) := by decide +kernel
theorem dX0_plant_58 : decode cX0_plant 58 = .ok (.goto (-51), 3) := by decide +kernel
theorem dX0_plant_61 : decode cX0_plant 61 = .ok (.return_, 1) := by decide +kernel
theorem dX0_copyFrom_0 : decode cX0_copyFrom 0 = .ok (.aload_n 1, 1) := by decide +kernel
theorem dX0_copyFrom_1 : decode cX0_copyFrom 1 = .ok (.getfield 11, 3) := by decide +kernel
theorem dX0_copyFrom_4 : decode cX0_copyFrom 4 = .ok (.iconst 0, 1) := by decide +kernel
theorem dX0_copyFrom_5 : decode cX0_copyFrom 5 = .ok (.aload_n 0, 1) := by decide +kernel
theorem dX0_copyFrom_6 : decode cX0_copyFrom 6 = .ok (.getfield 11, 3) := by decide +kernel
theorem dX0_copyFrom_9 : decode cX0_copyFrom 9 = .ok (.iconst 0, 1) := by decide +kernel
theorem dX0_copyFrom_10 : decode cX0_copyFrom 10 = .ok (.bipush 48, 2) := by decide +kernel
theorem dX0_copyFrom_12 : decode cX0_copyFrom 12 = .ok (.invokestatic 19, 3) := by decide +kernel
theorem dX0_copyFrom_15 : decode cX0_copyFrom 15 = .ok (.aload_n 0, 1) := by decide +kernel
theorem dX0_copyFrom_16 : decode cX0_copyFrom 16 = .ok (.aload_n 1, 1) := by decide +kernel
theorem dX0_copyFrom_17 : decode cX0_copyFrom 17 = .ok (.getfield 15, 3) := by decide +kernel
theorem dX0_copyFrom_20 : decode cX0_copyFrom 20 = .ok (.putfield 15, 3) := by decide +kernel
theorem dX0_copyFrom_23 : decode cX0_copyFrom 23 = .ok (.return_, 1) := by decide +kernel
theorem dX0_partOf_0 : decode cX0_partOf 0 = .ok (.aload_n 0, 1) := by decide +kernel
theorem dX0_partOf_1 : decode cX0_partOf 1 = .ok (.iload_n 1, 1) := by decide +kernel
theorem dX0_partOf_2 : decode cX0_partOf 2 = .ok (.iconst 0, 1) := by decide +kernel
theorem dX0_partOf_3 : decode cX0_partOf 3 = .ok (.invokevirtual 25, 3) := by decide +kernel
theorem dX0_partOf_6 : decode cX0_partOf 6 = .ok (.istore_n 2, 1) := by decide +kernel
theorem dX0_partOf_7 : decode cX0_partOf 7 = .ok (.iload_n 2, 1) := by decide +kernel
theorem dX0_partOf_8 : decode cX0_partOf 8 = .ok (.iconst (-1), 1) := by decide +kernel
theorem dX0_partOf_9 : decode cX0_partOf 9 = .ok (.if_icmp .ne 7, 3) := by decide +kernel
theorem dX0_partOf_12 : decode cX0_partOf 12 = .ok (.iconst 0, 1) := by decide +kernel
theorem dX0_partOf_13 : decode cX0_partOf 13 = .ok (.goto 17, 3) := by decide +kernel
theorem dX0_partOf_16 : decode cX0_partOf 16 = .ok (.aload_n 0, 1) := by decide +kernel
theorem dX0_partOf_17 : decode cX0_partOf 17 = .ok (.aload_n 0, 1) := by decide +kernel
theorem dX0_partOf_18 : decode cX0_partOf 18 = .ok (.iload_n 2, 1) := by decide +kernel
theorem dX0_partOf_19 : decode cX0_partOf 19 = .ok (.invokevirtual 29, 3) := by decide +kernel
theorem dX0_partOf_22 : decode cX0_partOf 22 = .ok (.aload_n 0, 1) := by decide +kernel
theorem dX0_partOf_23 : decode cX0_partOf 23 = .ok (.iload_n 2, 1) := by decide +kernel
theorem dX0_partOf_24 : decode cX0_partOf 24 = .ok (.invokevirtual 33, 3) := by decide +kernel
theorem dX0_partOf_27 : decode cX0_partOf 27 = .ok (.invokevirtual 36, 3) := by decide +kernel
theorem dX0_partOf_30 : decode cX0_partOf 30 = .ok (.ireturn, 1) := by decide +kernel
theorem dX0_trees_0 : decode cX0_trees 0 = .ok (.iconst 0, 1) := by decide +kernel
theorem dX0_trees_1 : decode cX0_trees 1 = .ok (.istore_n 1, 1) := by decide +kernel
theorem dX0_trees_2 : decode cX0_trees 2 = .ok (.iconst 0, 1) := by decide +kernel
theorem dX0_trees_3 : decode cX0_trees 3 = .ok (.istore_n 2, 1) := by decide +kernel
theorem dX0_trees_4 : decode cX0_trees 4 = .ok (.iload_n 2, 1) := by decide +kernel
theorem dX0_trees_5 : decode cX0_trees 5 = .ok (.aload_n 0, 1) := by decide +kernel
theorem dX0_trees_6 : decode cX0_trees 6 = .ok (.getfield 15, 3) := by decide +kernel
theorem dX0_trees_9 : decode cX0_trees 9 = .ok (.if_icmp .ge 22, 3) := by decide +kernel
theorem dX0_trees_12 : decode cX0_trees 12 = .ok (.aload_n 0, 1) := by decide +kernel
theorem dX0_trees_13 : decode cX0_trees 13 = .ok (.getfield 11, 3) := by decide +kernel
theorem dX0_trees_16 : decode cX0_trees 16 = .ok (.iload_n 2, 1) := by decide +kernel
theorem dX0_trees_17 : decode cX0_trees 17 = .ok (.iaload, 1) := by decide +kernel
theorem dX0_trees_18 : decode cX0_trees 18 = .ok (.iconst (-1), 1) := by decide +kernel
theorem dX0_trees_19 : decode cX0_trees 19 = .ok (.if_icmp .ne 6, 3) := by decide +kernel
theorem dX0_trees_22 : decode cX0_trees 22 = .ok (.iinc 1 1, 3) := by decide +kernel
theorem dX0_trees_25 : decode cX0_trees 25 = .ok (.iinc 2 1, 3) := by decide +kernel
theorem dX0_trees_28 : decode cX0_trees 28 = .ok (.goto (-24), 3) := by decide +kernel
theorem dX0_trees_31 : decode cX0_trees 31 = .ok (.iload_n 1, 1) := by decide +kernel
theorem dX0_trees_32 : decode cX0_trees 32 = .ok (.ireturn, 1) := by decide +kernel
theorem dX0_greatest_0 : decode cX0_greatest 0 = .ok (.iconst 0, 1) := by decide +kernel
theorem dX0_greatest_1 : decode cX0_greatest 1 = .ok (.istore_n 1, 1) := by decide +kernel
theorem dX0_greatest_2 : decode cX0_greatest 2 = .ok (.iconst 0, 1) := by decide +kernel
theorem dX0_greatest_3 : decode cX0_greatest 3 = .ok (.istore_n 2, 1) := by decide +kernel
theorem dX0_greatest_4 : decode cX0_greatest 4 = .ok (.iconst 0, 1) := by decide +kernel
theorem dX0_greatest_5 : decode cX0_greatest 5 = .ok (.istore_n 3, 1) := by decide +kernel
theorem dX0_greatest_6 : decode cX0_greatest 6 = .ok (.iload_n 3, 1) := by decide +kernel
theorem dX0_greatest_7 : decode cX0_greatest 7 = .ok (.aload_n 0, 1) := by decide +kernel
theorem dX0_greatest_8 : decode cX0_greatest 8 = .ok (.getfield 15, 3) := by decide +kernel
theorem dX0_greatest_11 : decode cX0_greatest 11 = .ok (.if_icmp .ge 44, 3) := by decide +kernel
theorem dX0_greatest_14 : decode cX0_greatest 14 = .ok (.aload_n 0, 1) := by decide +kernel
theorem dX0_greatest_15 : decode cX0_greatest 15 = .ok (.getfield 11, 3) := by decide +kernel
theorem dX0_greatest_18 : decode cX0_greatest 18 = .ok (.iload_n 3, 1) := by decide +kernel
theorem dX0_greatest_19 : decode cX0_greatest 19 = .ok (.iaload, 1) := by decide +kernel
theorem dX0_greatest_20 : decode cX0_greatest 20 = .ok (.iconst (-1), 1) := by decide +kernel
theorem dX0_greatest_21 : decode cX0_greatest 21 = .ok (.if_icmp .ne 8, 3) := by decide +kernel
theorem dX0_greatest_24 : decode cX0_greatest 24 = .ok (.iconst 0, 1) := by decide +kernel
theorem dX0_greatest_25 : decode cX0_greatest 25 = .ok (.istore_n 2, 1) := by decide +kernel
theorem dX0_greatest_26 : decode cX0_greatest 26 = .ok (.goto 23, 3) := by decide +kernel
theorem dX0_greatest_29 : decode cX0_greatest 29 = .ok (.aload_n 0, 1) := by decide +kernel
theorem dX0_greatest_30 : decode cX0_greatest 30 = .ok (.getfield 11, 3) := by decide +kernel
theorem dX0_greatest_33 : decode cX0_greatest 33 = .ok (.iload_n 3, 1) := by decide +kernel
theorem dX0_greatest_34 : decode cX0_greatest 34 = .ok (.iaload, 1) := by decide +kernel
theorem dX0_greatest_35 : decode cX0_greatest 35 = .ok (.bipush 100, 2) := by decide +kernel
theorem dX0_greatest_37 : decode cX0_greatest 37 = .ok (.if_icmp .ge 12, 3) := by decide +kernel
theorem dX0_greatest_40 : decode cX0_greatest 40 = .ok (.iinc 2 1, 3) := by decide +kernel
theorem dX0_greatest_43 : decode cX0_greatest 43 = .ok (.iload_n 1, 1) := by decide +kernel
theorem dX0_greatest_44 : decode cX0_greatest 44 = .ok (.iload_n 2, 1) := by decide +kernel
theorem dX0_greatest_45 : decode cX0_greatest 45 = .ok (.invokestatic 39, 3) := by decide +kernel
theorem dX0_greatest_48 : decode cX0_greatest 48 = .ok (.istore_n 1, 1) := by decide +kernel
theorem dX0_greatest_49 : decode cX0_greatest 49 = .ok (.iinc 3 1, 3) := by decide +kernel
theorem dX0_greatest_52 : decode cX0_greatest 52 = .ok (.goto (-46), 3) := by decide +kernel
theorem dX0_greatest_55 : decode cX0_greatest 55 = .ok (.iload_n 1, 1) := by decide +kernel
theorem dX0_greatest_56 : decode cX0_greatest 56 = .ok (.ireturn, 1) := by decide +kernel
theorem dX0_itemOf_0 : decode cX0_itemOf 0 = .ok (.aload_n 0, 1) := by decide +kernel
theorem dX0_itemOf_1 : decode cX0_itemOf 1 = .ok (.iload_n 1, 1) := by decide +kernel
theorem dX0_itemOf_2 : decode cX0_itemOf 2 = .ok (.iconst 0, 1) := by decide +kernel
theorem dX0_itemOf_3 : decode cX0_itemOf 3 = .ok (.invokevirtual 25, 3) := by decide +kernel
theorem dX0_itemOf_6 : decode cX0_itemOf 6 = .ok (.istore_n 3, 1) := by decide +kernel
theorem dX0_itemOf_7 : decode cX0_itemOf 7 = .ok (.iload_n 3, 1) := by decide +kernel
theorem dX0_itemOf_8 : decode cX0_itemOf 8 = .ok (.iconst (-1), 1) := by decide +kernel
theorem dX0_itemOf_9 : decode cX0_itemOf 9 = .ok (.if_icmp .ne 5, 3) := by decide +kernel
theorem dX0_itemOf_12 : decode cX0_itemOf 12 = .ok (.iconst (-1), 1) := by decide +kernel
theorem dX0_itemOf_13 : decode cX0_itemOf 13 = .ok (.ireturn, 1) := by decide +kernel
theorem dX0_itemOf_14 : decode cX0_itemOf 14 = .ok (.aload_n 0, 1) := by decide +kernel
theorem dX0_itemOf_15 : decode cX0_itemOf 15 = .ok (.iload_n 3, 1) := by decide +kernel
theorem dX0_itemOf_16 : decode cX0_itemOf 16 = .ok (.invokevirtual 29, 3) := by decide +kernel
theorem dX0_itemOf_19 : decode cX0_itemOf 19 = .ok (.istore 4, 2) := by decide +kernel
theorem dX0_itemOf_21 : decode cX0_itemOf 21 = .ok (.iload_n 2, 1) := by decide +kernel
theorem dX0_itemOf_22 : decode cX0_itemOf 22 = .ok (.ifCond .lt 15, 3) := by decide +kernel
theorem dX0_itemOf_25 : decode cX0_itemOf 25 = .ok (.iload_n 2, 1) := by decide +kernel
theorem dX0_itemOf_26 : decode cX0_itemOf 26 = .ok (.aload_n 0, 1) := by decide +kernel
theorem dX0_itemOf_27 : decode cX0_itemOf 27 = .ok (.iload_n 3, 1) := by decide +kernel
theorem dX0_itemOf_28 : decode cX0_itemOf 28 = .ok (.invokevirtual 33, 3) := by decide +kernel
theorem dX0_itemOf_31 : decode cX0_itemOf 31 = .ok (.iload 4, 2) := by decide +kernel
theorem dX0_itemOf_33 : decode cX0_itemOf 33 = .ok (.isub, 1) := by decide +kernel
theorem dX0_itemOf_34 : decode cX0_itemOf 34 = .ok (.if_icmp .lt 5, 3) := by decide +kernel
theorem dX0_itemOf_37 : decode cX0_itemOf 37 = .ok (.iconst (-1), 1) := by decide +kernel
theorem dX0_itemOf_38 : decode cX0_itemOf 38 = .ok (.ireturn, 1) := by decide +kernel
theorem dX0_itemOf_39 : decode cX0_itemOf 39 = .ok (.aload_n 0, 1) := by decide +kernel
theorem dX0_itemOf_40 : decode cX0_itemOf 40 = .ok (.getfield 11, 3) := by decide +kernel
theorem dX0_itemOf_43 : decode cX0_itemOf 43 = .ok (.iload 4, 2) := by decide +kernel
theorem dX0_itemOf_45 : decode cX0_itemOf 45 = .ok (.iload_n 2, 1) := by decide +kernel
theorem dX0_itemOf_46 : decode cX0_itemOf 46 = .ok (.iadd, 1) := by decide +kernel
theorem dX0_itemOf_47 : decode cX0_itemOf 47 = .ok (.iaload, 1) := by decide +kernel
theorem dX0_itemOf_48 : decode cX0_itemOf 48 = .ok (.istore 5, 2) := by decide +kernel
theorem dX0_itemOf_50 : decode cX0_itemOf 50 = .ok (.iload 5, 2) := by decide +kernel
theorem dX0_itemOf_52 : decode cX0_itemOf 52 = .ok (.bipush 100, 2) := by decide +kernel
theorem dX0_itemOf_54 : decode cX0_itemOf 54 = .ok (.if_icmp .lt 21, 3) := by decide +kernel
theorem dX0_itemOf_57 : decode cX0_itemOf 57 = .ok (.aload_n 0, 1) := by decide +kernel
theorem dX0_itemOf_58 : decode cX0_itemOf 58 = .ok (.iload 5, 2) := by decide +kernel
theorem dX0_itemOf_60 : decode cX0_itemOf 60 = .ok (.iconst 0, 1) := by decide +kernel
theorem dX0_itemOf_61 : decode cX0_itemOf 61 = .ok (.invokevirtual 25, 3) := by decide +kernel
theorem dX0_itemOf_64 : decode cX0_itemOf 64 = .ok (.iload 4, 2) := by decide +kernel
theorem dX0_itemOf_66 : decode cX0_itemOf 66 = .ok (.iload_n 2, 1) := by decide +kernel
theorem dX0_itemOf_67 : decode cX0_itemOf 67 = .ok (.iadd, 1) := by decide +kernel
theorem dX0_itemOf_68 : decode cX0_itemOf 68 = .ok (.if_icmp .ge 7, 3) := by decide +kernel
theorem dX0_itemOf_71 : decode cX0_itemOf 71 = .ok (.iconst 1, 1) := by decide +kernel
theorem dX0_itemOf_72 : decode cX0_itemOf 72 = .ok (.goto 4, 3) := by decide +kernel
theorem dX0_itemOf_75 : decode cX0_itemOf 75 = .ok (.iconst 0, 1) := by decide +kernel
theorem dX0_itemOf_76 : decode cX0_itemOf 76 = .ok (.istore 6, 2) := by decide +kernel
theorem dX0_itemOf_78 : decode cX0_itemOf 78 = .ok (.iload 6, 2) := by decide +kernel
theorem dX0_itemOf_80 : decode cX0_itemOf 80 = .ok (.ifCond .eq 11, 3) := by decide +kernel
theorem dX0_itemOf_83 : decode cX0_itemOf 83 = .ok (.iload 5, 2) := by decide +kernel
theorem dX0_itemOf_85 : decode cX0_itemOf 85 = .ok (.bipush 100, 2) := by decide +kernel
theorem dX0_itemOf_87 : decode cX0_itemOf 87 = .ok (.iadd, 1) := by decide +kernel
theorem dX0_itemOf_88 : decode cX0_itemOf 88 = .ok (.goto 5, 3) := by decide +kernel
theorem dX0_itemOf_91 : decode cX0_itemOf 91 = .ok (.iload 5, 2) := by decide +kernel
theorem dX0_itemOf_93 : decode cX0_itemOf 93 = .ok (.ireturn, 1) := by decide +kernel
theorem dX0_depthOf_0 : decode cX0_depthOf 0 = .ok (.aload_n 0, 1) := by decide +kernel
theorem dX0_depthOf_1 : decode cX0_depthOf 1 = .ok (.iload_n 1, 1) := by decide +kernel
theorem dX0_depthOf_2 : decode cX0_depthOf 2 = .ok (.iconst 0, 1) := by decide +kernel
theorem dX0_depthOf_3 : decode cX0_depthOf 3 = .ok (.invokevirtual 25, 3) := by decide +kernel
theorem dX0_depthOf_6 : decode cX0_depthOf 6 = .ok (.istore_n 2, 1) := by decide +kernel
theorem dX0_depthOf_7 : decode cX0_depthOf 7 = .ok (.iload_n 2, 1) := by decide +kernel
theorem dX0_depthOf_8 : decode cX0_depthOf 8 = .ok (.iconst (-1), 1) := by decide +kernel
theorem dX0_depthOf_9 : decode cX0_depthOf 9 = .ok (.if_icmp .ne 7, 3) := by decide +kernel
theorem dX0_depthOf_12 : decode cX0_depthOf 12 = .ok (.iconst 0, 1) := by decide +kernel
theorem dX0_depthOf_13 : decode cX0_depthOf 13 = .ok (.goto 11, 3) := by decide +kernel
theorem dX0_depthOf_16 : decode cX0_depthOf 16 = .ok (.aload_n 0, 1) := by decide +kernel
theorem dX0_depthOf_17 : decode cX0_depthOf 17 = .ok (.iload_n 2, 1) := by decide +kernel
theorem dX0_depthOf_18 : decode cX0_depthOf 18 = .ok (.invokevirtual 44, 3) := by decide +kernel
theorem dX0_depthOf_21 : decode cX0_depthOf 21 = .ok (.invokestatic 48, 3) := by decide +kernel
theorem dX0_depthOf_24 : decode cX0_depthOf 24 = .ok (.ireturn, 1) := by decide +kernel
theorem dX0_innermostOf_0 : decode cX0_innermostOf 0 = .ok (.aload_n 0, 1) := by decide +kernel
theorem dX0_innermostOf_1 : decode cX0_innermostOf 1 = .ok (.iload_n 1, 1) := by decide +kernel
theorem dX0_innermostOf_2 : decode cX0_innermostOf 2 = .ok (.iconst 0, 1) := by decide +kernel
theorem dX0_innermostOf_3 : decode cX0_innermostOf 3 = .ok (.invokevirtual 25, 3) := by decide +kernel
theorem dX0_innermostOf_6 : decode cX0_innermostOf 6 = .ok (.istore_n 2, 1) := by decide +kernel
theorem dX0_innermostOf_7 : decode cX0_innermostOf 7 = .ok (.iload_n 2, 1) := by decide +kernel
theorem dX0_innermostOf_8 : decode cX0_innermostOf 8 = .ok (.iconst (-1), 1) := by decide +kernel
theorem dX0_innermostOf_9 : decode cX0_innermostOf 9 = .ok (.if_icmp .ne 5, 3) := by decide +kernel
theorem dX0_innermostOf_12 : decode cX0_innermostOf 12 = .ok (.iconst (-1), 1) := by decide +kernel
theorem dX0_innermostOf_13 : decode cX0_innermostOf 13 = .ok (.ireturn, 1) := by decide +kernel
theorem dX0_innermostOf_14 : decode cX0_innermostOf 14 = .ok (.aload_n 0, 1) := by decide +kernel
theorem dX0_innermostOf_15 : decode cX0_innermostOf 15 = .ok (.iload_n 2, 1) := by decide +kernel
theorem dX0_innermostOf_16 : decode cX0_innermostOf 16 = .ok (.invokevirtual 44, 3) := by decide +kernel
theorem dX0_innermostOf_19 : decode cX0_innermostOf 19 = .ok (.lstore_n 3, 1) := by decide +kernel
theorem dX0_innermostOf_20 : decode cX0_innermostOf 20 = .ok (.iload_n 2, 1) := by decide +kernel
theorem dX0_innermostOf_21 : decode cX0_innermostOf 21 = .ok (.iconst 1, 1) := by decide +kernel
theorem dX0_innermostOf_22 : decode cX0_innermostOf 22 = .ok (.isub, 1) := by decide +kernel
theorem dX0_innermostOf_23 : decode cX0_innermostOf 23 = .ok (.istore 5, 2) := by decide +kernel
theorem dX0_innermostOf_25 : decode cX0_innermostOf 25 = .ok (.iload 5, 2) := by decide +kernel
theorem dX0_innermostOf_27 : decode cX0_innermostOf 27 = .ok (.ifCond .lt 62, 3) := by decide +kernel
theorem dX0_innermostOf_30 : decode cX0_innermostOf 30 = .ok (.aload_n 0, 1) := by decide +kernel
theorem dX0_innermostOf_31 : decode cX0_innermostOf 31 = .ok (.getfield 11, 3) := by decide +kernel
theorem dX0_innermostOf_34 : decode cX0_innermostOf 34 = .ok (.iload 5, 2) := by decide +kernel
theorem dX0_innermostOf_36 : decode cX0_innermostOf 36 = .ok (.iaload, 1) := by decide +kernel
theorem dX0_innermostOf_37 : decode cX0_innermostOf 37 = .ok (.iconst (-1), 1) := by decide +kernel
theorem dX0_innermostOf_38 : decode cX0_innermostOf 38 = .ok (.if_icmp .eq 51, 3) := by decide +kernel
theorem dX0_innermostOf_41 : decode cX0_innermostOf 41 = .ok (.aload_n 0, 1) := by decide +kernel
theorem dX0_innermostOf_42 : decode cX0_innermostOf 42 = .ok (.getfield 11, 3) := by decide +kernel
theorem dX0_innermostOf_45 : decode cX0_innermostOf 45 = .ok (.iload 5, 2) := by decide +kernel
theorem dX0_innermostOf_47 : decode cX0_innermostOf 47 = .ok (.iaload, 1) := by decide +kernel
theorem dX0_innermostOf_48 : decode cX0_innermostOf 48 = .ok (.bipush 100, 2) := by decide +kernel
theorem dX0_innermostOf_50 : decode cX0_innermostOf 50 = .ok (.if_icmp .lt 33, 3) := by decide +kernel
theorem dX0_innermostOf_53 : decode cX0_innermostOf 53 = .ok (.lload_n 3, 1) := by decide +kernel
theorem dX0_innermostOf_54 : decode cX0_innermostOf 54 = .ok (.lconst 1, 1) := by decide +kernel
theorem dX0_innermostOf_55 : decode cX0_innermostOf 55 = .ok (.aload_n 0, 1) := by decide +kernel
theorem dX0_innermostOf_56 : decode cX0_innermostOf 56 = .ok (.getfield 11, 3) := by decide +kernel
theorem dX0_innermostOf_59 : decode cX0_innermostOf 59 = .ok (.iload 5, 2) := by decide +kernel
theorem dX0_innermostOf_61 : decode cX0_innermostOf 61 = .ok (.iaload, 1) := by decide +kernel
theorem dX0_innermostOf_62 : decode cX0_innermostOf 62 = .ok (.bipush 100, 2) := by decide +kernel
theorem dX0_innermostOf_64 : decode cX0_innermostOf 64 = .ok (.isub, 1) := by decide +kernel
theorem dX0_innermostOf_65 : decode cX0_innermostOf 65 = .ok (.lshl, 1) := by decide +kernel
theorem dX0_innermostOf_66 : decode cX0_innermostOf 66 = .ok (.land, 1) := by decide +kernel
theorem dX0_innermostOf_67 : decode cX0_innermostOf 67 = .ok (.lconst 0, 1) := by decide +kernel
theorem dX0_innermostOf_68 : decode cX0_innermostOf 68 = .ok (.lcmp, 1) := by decide +kernel
theorem dX0_innermostOf_69 : decode cX0_innermostOf 69 = .ok (.ifCond .eq 14, 3) := by decide +kernel
theorem dX0_innermostOf_72 : decode cX0_innermostOf 72 = .ok (.aload_n 0, 1) := by decide +kernel
theorem dX0_innermostOf_73 : decode cX0_innermostOf 73 = .ok (.getfield 11, 3) := by decide +kernel
theorem dX0_innermostOf_76 : decode cX0_innermostOf 76 = .ok (.iload 5, 2) := by decide +kernel
theorem dX0_innermostOf_78 : decode cX0_innermostOf 78 = .ok (.iaload, 1) := by decide +kernel
theorem dX0_innermostOf_79 : decode cX0_innermostOf 79 = .ok (.bipush 100, 2) := by decide +kernel
theorem dX0_innermostOf_81 : decode cX0_innermostOf 81 = .ok (.isub, 1) := by decide +kernel
theorem dX0_innermostOf_82 : decode cX0_innermostOf 82 = .ok (.ireturn, 1) := by decide +kernel
theorem dX0_innermostOf_83 : decode cX0_innermostOf 83 = .ok (.iinc 5 (-1), 3) := by decide +kernel
theorem dX0_innermostOf_86 : decode cX0_innermostOf 86 = .ok (.goto (-61), 3) := by decide +kernel
theorem dX0_innermostOf_89 : decode cX0_innermostOf 89 = .ok (.iconst (-1), 1) := by decide +kernel
theorem dX0_innermostOf_90 : decode cX0_innermostOf 90 = .ok (.ireturn, 1) := by decide +kernel
theorem dX0_belowOf_0 : decode cX0_belowOf 0 = .ok (.aload_n 0, 1) := by decide +kernel
theorem dX0_belowOf_1 : decode cX0_belowOf 1 = .ok (.iload_n 1, 1) := by decide +kernel
theorem dX0_belowOf_2 : decode cX0_belowOf 2 = .ok (.invokevirtual 54, 3) := by decide +kernel
theorem dX0_belowOf_5 : decode cX0_belowOf 5 = .ok (.istore_n 2, 1) := by decide +kernel
theorem dX0_belowOf_6 : decode cX0_belowOf 6 = .ok (.iload_n 2, 1) := by decide +kernel
theorem dX0_belowOf_7 : decode cX0_belowOf 7 = .ok (.iconst (-1), 1) := by decide +kernel
theorem dX0_belowOf_8 : decode cX0_belowOf 8 = .ok (.if_icmp .ne 11, 3) := by decide +kernel
theorem dX0_belowOf_11 : decode cX0_belowOf 11 = .ok (.aload_n 0, 1) := by decide +kernel
theorem dX0_belowOf_12 : decode cX0_belowOf 12 = .ok (.iload_n 1, 1) := by decide +kernel
theorem dX0_belowOf_13 : decode cX0_belowOf 13 = .ok (.invokevirtual 57, 3) := by decide +kernel
theorem dX0_belowOf_16 : decode cX0_belowOf 16 = .ok (.goto 8, 3) := by decide +kernel
theorem dX0_belowOf_19 : decode cX0_belowOf 19 = .ok (.aload_n 0, 1) := by decide +kernel
theorem dX0_belowOf_20 : decode cX0_belowOf 20 = .ok (.iload_n 2, 1) := by decide +kernel
theorem dX0_belowOf_21 : decode cX0_belowOf 21 = .ok (.invokevirtual 60, 3) := by decide +kernel
theorem dX0_belowOf_24 : decode cX0_belowOf 24 = .ok (.ireturn, 1) := by decide +kernel
theorem dX0_insideOf_0 : decode cX0_insideOf 0 = .ok (.aload_n 0, 1) := by decide +kernel
theorem dX0_insideOf_1 : decode cX0_insideOf 1 = .ok (.bipush 100, 2) := by decide +kernel
theorem dX0_insideOf_3 : decode cX0_insideOf 3 = .ok (.iload_n 1, 1) := by decide +kernel
theorem dX0_insideOf_4 : decode cX0_insideOf 4 = .ok (.iadd, 1) := by decide +kernel
theorem dX0_insideOf_5 : decode cX0_insideOf 5 = .ok (.iconst 0, 1) := by decide +kernel
theorem dX0_insideOf_6 : decode cX0_insideOf 6 = .ok (.invokevirtual 25, 3) := by decide +kernel
theorem dX0_insideOf_9 : decode cX0_insideOf 9 = .ok (.istore_n 2, 1) := by decide +kernel
theorem dX0_insideOf_10 : decode cX0_insideOf 10 = .ok (.iload_n 2, 1) := by decide +kernel
theorem dX0_insideOf_11 : decode cX0_insideOf 11 = .ok (.iconst (-1), 1) := by decide +kernel
theorem dX0_insideOf_12 : decode cX0_insideOf 12 = .ok (.if_icmp .ne 5, 3) := by decide +kernel
theorem dX0_insideOf_15 : decode cX0_insideOf 15 = .ok (.iconst 0, 1) := by decide +kernel
theorem dX0_insideOf_16 : decode cX0_insideOf 16 = .ok (.ireturn, 1) := by decide +kernel
theorem dX0_insideOf_17 : decode cX0_insideOf 17 = .ok (.aload_n 0, 1) := by decide +kernel
theorem dX0_insideOf_18 : decode cX0_insideOf 18 = .ok (.bipush 100, 2) := by decide +kernel
theorem dX0_insideOf_20 : decode cX0_insideOf 20 = .ok (.iload_n 1, 1) := by decide +kernel
theorem dX0_insideOf_21 : decode cX0_insideOf 21 = .ok (.iadd, 1) := by decide +kernel
theorem dX0_insideOf_22 : decode cX0_insideOf 22 = .ok (.iload_n 2, 1) := by decide +kernel
theorem dX0_insideOf_23 : decode cX0_insideOf 23 = .ok (.iconst 1, 1) := by decide +kernel
theorem dX0_insideOf_24 : decode cX0_insideOf 24 = .ok (.iadd, 1) := by decide +kernel
theorem dX0_insideOf_25 : decode cX0_insideOf 25 = .ok (.invokevirtual 25, 3) := by decide +kernel
theorem dX0_insideOf_28 : decode cX0_insideOf 28 = .ok (.istore_n 3, 1) := by decide +kernel
theorem dX0_insideOf_29 : decode cX0_insideOf 29 = .ok (.iload_n 3, 1) := by decide +kernel
theorem dX0_insideOf_30 : decode cX0_insideOf 30 = .ok (.iconst (-1), 1) := by decide +kernel
theorem dX0_insideOf_31 : decode cX0_insideOf 31 = .ok (.if_icmp .ne 7, 3) := by decide +kernel
theorem dX0_insideOf_34 : decode cX0_insideOf 34 = .ok (.iconst 0, 1) := by decide +kernel
theorem dX0_insideOf_35 : decode cX0_insideOf 35 = .ok (.goto 11, 3) := by decide +kernel
theorem dX0_insideOf_38 : decode cX0_insideOf 38 = .ok (.aload_n 0, 1) := by decide +kernel
theorem dX0_insideOf_39 : decode cX0_insideOf 39 = .ok (.iload_n 2, 1) := by decide +kernel
theorem dX0_insideOf_40 : decode cX0_insideOf 40 = .ok (.iconst 1, 1) := by decide +kernel
theorem dX0_insideOf_41 : decode cX0_insideOf 41 = .ok (.iadd, 1) := by decide +kernel
theorem dX0_insideOf_42 : decode cX0_insideOf 42 = .ok (.iload_n 3, 1) := by decide +kernel
theorem dX0_insideOf_43 : decode cX0_insideOf 43 = .ok (.invokevirtual 36, 3) := by decide +kernel
theorem dX0_insideOf_46 : decode cX0_insideOf 46 = .ok (.ireturn, 1) := by decide +kernel
theorem dX0_join_0 : decode cX0_join 0 = .ok (.aload_n 0, 1) := by decide +kernel
theorem dX0_join_1 : decode cX0_join 1 = .ok (.iload_n 2, 1) := by decide +kernel
theorem dX0_join_2 : decode cX0_join 2 = .ok (.iconst 0, 1) := by decide +kernel
theorem dX0_join_3 : decode cX0_join 3 = .ok (.invokevirtual 25, 3) := by decide +kernel
theorem dX0_join_6 : decode cX0_join 6 = .ok (.istore 5, 2) := by decide +kernel
theorem dX0_join_8 : decode cX0_join 8 = .ok (.aload_n 0, 1) := by decide +kernel
theorem dX0_join_9 : decode cX0_join 9 = .ok (.iload_n 3, 1) := by decide +kernel
theorem dX0_join_10 : decode cX0_join 10 = .ok (.iconst 0, 1) := by decide +kernel
theorem dX0_join_11 : decode cX0_join 11 = .ok (.invokevirtual 25, 3) := by decide +kernel
theorem dX0_join_14 : decode cX0_join 14 = .ok (.istore 6, 2) := by decide +kernel
theorem dX0_join_16 : decode cX0_join 16 = .ok (.iload 5, 2) := by decide +kernel
theorem dX0_join_18 : decode cX0_join 18 = .ok (.iconst (-1), 1) := by decide +kernel
theorem dX0_join_19 : decode cX0_join 19 = .ok (.if_icmp .eq 9, 3) := by decide +kernel
theorem dX0_join_22 : decode cX0_join 22 = .ok (.iload 6, 2) := by decide +kernel
theorem dX0_join_24 : decode cX0_join 24 = .ok (.iconst (-1), 1) := by decide +kernel
theorem dX0_join_25 : decode cX0_join 25 = .ok (.if_icmp .ne 4, 3) := by decide +kernel
theorem dX0_join_28 : decode cX0_join 28 = .ok (.return_, 1) := by decide +kernel
theorem dX0_join_29 : decode cX0_join 29 = .ok (.aload_n 0, 1) := by decide +kernel
theorem dX0_join_30 : decode cX0_join 30 = .ok (.iload 5, 2) := by decide +kernel
theorem dX0_join_32 : decode cX0_join 32 = .ok (.invokevirtual 29, 3) := by decide +kernel
theorem dX0_join_35 : decode cX0_join 35 = .ok (.istore 7, 2) := by decide +kernel
theorem dX0_join_37 : decode cX0_join 37 = .ok (.aload_n 0, 1) := by decide +kernel
theorem dX0_join_38 : decode cX0_join 38 = .ok (.iload 5, 2) := by decide +kernel
theorem dX0_join_40 : decode cX0_join 40 = .ok (.invokevirtual 33, 3) := by decide +kernel
theorem dX0_join_43 : decode cX0_join 43 = .ok (.istore 8, 2) := by decide +kernel
theorem dX0_join_45 : decode cX0_join 45 = .ok (.aload_n 0, 1) := by decide +kernel
theorem dX0_join_46 : decode cX0_join 46 = .ok (.iload 6, 2) := by decide +kernel
theorem dX0_join_48 : decode cX0_join 48 = .ok (.invokevirtual 29, 3) := by decide +kernel
theorem dX0_join_51 : decode cX0_join 51 = .ok (.istore 9, 2) := by decide +kernel
theorem dX0_join_53 : decode cX0_join 53 = .ok (.aload_n 0, 1) := by decide +kernel
theorem dX0_join_54 : decode cX0_join 54 = .ok (.iload 6, 2) := by decide +kernel
theorem dX0_join_56 : decode cX0_join 56 = .ok (.invokevirtual 33, 3) := by decide +kernel
theorem dX0_join_59 : decode cX0_join 59 = .ok (.istore 10, 2) := by decide +kernel
theorem dX0_join_61 : decode cX0_join 61 = .ok (.iload 7, 2) := by decide +kernel
theorem dX0_join_63 : decode cX0_join 63 = .ok (.iload 9, 2) := by decide +kernel
theorem dX0_join_65 : decode cX0_join 65 = .ok (.if_icmp .ne 4, 3) := by decide +kernel
theorem dX0_join_68 : decode cX0_join 68 = .ok (.return_, 1) := by decide +kernel
theorem dX0_join_69 : decode cX0_join 69 = .ok (.iconst 0, 1) := by decide +kernel
theorem dX0_join_70 : decode cX0_join 70 = .ok (.istore 11, 2) := by decide +kernel
theorem dX0_join_72 : decode cX0_join 72 = .ok (.iconst 0, 1) := by decide +kernel
theorem dX0_join_73 : decode cX0_join 73 = .ok (.istore 12, 2) := by decide +kernel
theorem dX0_join_75 : decode cX0_join 75 = .ok (.iload 12, 2) := by decide +kernel
theorem dX0_join_77 : decode cX0_join 77 = .ok (.aload_n 0, 1) := by decide +kernel
theorem dX0_join_78 : decode cX0_join 78 = .ok (.getfield 15, 3) := by decide +kernel
theorem dX0_join_81 : decode cX0_join 81 = .ok (.if_icmp .ge 59, 3) := by decide +kernel
theorem dX0_join_84 : decode cX0_join 84 = .ok (.iload 11, 2) := by decide +kernel
theorem dX0_join_86 : decode cX0_join 86 = .ok (.bipush 48, 2) := by decide +kernel
theorem dX0_join_88 : decode cX0_join 88 = .ok (.if_icmp .ge 52, 3) := by decide +kernel
theorem dX0_join_91 : decode cX0_join 91 = .ok (.iload 12, 2) := by decide +kernel
theorem dX0_join_93 : decode cX0_join 93 = .ok (.iload 7, 2) := by decide +kernel
theorem dX0_join_95 : decode cX0_join 95 = .ok (.if_icmp .lt 10, 3) := by decide +kernel
theorem dX0_join_98 : decode cX0_join 98 = .ok (.iload 12, 2) := by decide +kernel
theorem dX0_join_100 : decode cX0_join 100 = .ok (.iload 8, 2) := by decide +kernel
theorem dX0_join_102 : decode cX0_join 102 = .ok (.if_icmp .le 32, 3) := by decide +kernel
theorem dX0_join_105 : decode cX0_join 105 = .ok (.iload 12, 2) := by decide +kernel
theorem dX0_join_107 : decode cX0_join 107 = .ok (.iload 9, 2) := by decide +kernel
theorem dX0_join_109 : decode cX0_join 109 = .ok (.if_icmp .lt 10, 3) := by decide +kernel
theorem dX0_join_112 : decode cX0_join 112 = .ok (.iload 12, 2) := by decide +kernel
theorem dX0_join_114 : decode cX0_join 114 = .ok (.iload 10, 2) := by decide +kernel
theorem dX0_join_116 : decode cX0_join 116 = .ok (.if_icmp .le 18, 3) := by decide +kernel
theorem dX0_join_119 : decode cX0_join 119 = .ok (.aload 4, 2) := by decide +kernel
theorem dX0_join_121 : decode cX0_join 121 = .ok (.iload 11, 2) := by decide +kernel
theorem dX0_join_123 : decode cX0_join 123 = .ok (.aload_n 0, 1) := by decide +kernel
theorem dX0_join_124 : decode cX0_join 124 = .ok (.getfield 11, 3) := by decide +kernel
theorem dX0_join_127 : decode cX0_join 127 = .ok (.iload 12, 2) := by decide +kernel
theorem dX0_join_129 : decode cX0_join 129 = .ok (.iaload, 1) := by decide +kernel
theorem dX0_join_130 : decode cX0_join 130 = .ok (.iastore, 1) := by decide +kernel
theorem dX0_join_131 : decode cX0_join 131 = .ok (.iinc 11 1, 3) := by decide +kernel
theorem dX0_join_134 : decode cX0_join 134 = .ok (.iinc 12 1, 3) := by decide +kernel
theorem dX0_join_137 : decode cX0_join 137 = .ok (.goto (-62), 3) := by decide +kernel
theorem dX0_join_140 : decode cX0_join 140 = .ok (.aload_n 0, 1) := by decide +kernel
theorem dX0_join_141 : decode cX0_join 141 = .ok (.aload 4, 2) := by decide +kernel
theorem dX0_join_143 : decode cX0_join 143 = .ok (.iload 11, 2) := by decide +kernel
theorem dX0_join_145 : decode cX0_join 145 = .ok (.iload 5, 2) := by decide +kernel
theorem dX0_join_147 : decode cX0_join 147 = .ok (.iload 8, 2) := by decide +kernel
theorem dX0_join_149 : decode cX0_join 149 = .ok (.invokevirtual 63, 3) := by decide +kernel
theorem dX0_join_152 : decode cX0_join 152 = .ok (.istore 11, 2) := by decide +kernel
theorem dX0_join_154 : decode cX0_join 154 = .ok (.aload_n 0, 1) := by decide +kernel
theorem dX0_join_155 : decode cX0_join 155 = .ok (.aload 4, 2) := by decide +kernel
theorem dX0_join_157 : decode cX0_join 157 = .ok (.iload 11, 2) := by decide +kernel
theorem dX0_join_159 : decode cX0_join 159 = .ok (.iload 7, 2) := by decide +kernel
theorem dX0_join_161 : decode cX0_join 161 = .ok (.iload 5, 2) := by decide +kernel
theorem dX0_join_163 : decode cX0_join 163 = .ok (.invokevirtual 63, 3) := by decide +kernel
theorem dX0_join_166 : decode cX0_join 166 = .ok (.istore 11, 2) := by decide +kernel
theorem dX0_join_168 : decode cX0_join 168 = .ok (.aload_n 0, 1) := by decide +kernel
theorem dX0_join_169 : decode cX0_join 169 = .ok (.aload 4, 2) := by decide +kernel
theorem dX0_join_171 : decode cX0_join 171 = .ok (.iload 11, 2) := by decide +kernel
theorem dX0_join_173 : decode cX0_join 173 = .ok (.bipush 100, 2) := by decide +kernel
theorem dX0_join_175 : decode cX0_join 175 = .ok (.iload_n 1, 1) := by decide +kernel
theorem dX0_join_176 : decode cX0_join 176 = .ok (.iadd, 1) := by decide +kernel
theorem dX0_join_177 : decode cX0_join 177 = .ok (.invokevirtual 67, 3) := by decide +kernel
theorem dX0_join_180 : decode cX0_join 180 = .ok (.istore 11, 2) := by decide +kernel
theorem dX0_join_182 : decode cX0_join 182 = .ok (.aload_n 0, 1) := by decide +kernel
theorem dX0_join_183 : decode cX0_join 183 = .ok (.aload 4, 2) := by decide +kernel
theorem dX0_join_185 : decode cX0_join 185 = .ok (.iload 11, 2) := by decide +kernel
theorem dX0_join_187 : decode cX0_join 187 = .ok (.iload 6, 2) := by decide +kernel
theorem dX0_join_189 : decode cX0_join 189 = .ok (.iload 10, 2) := by decide +kernel
theorem dX0_join_191 : decode cX0_join 191 = .ok (.invokevirtual 63, 3) := by decide +kernel
theorem dX0_join_194 : decode cX0_join 194 = .ok (.istore 11, 2) := by decide +kernel
theorem dX0_join_196 : decode cX0_join 196 = .ok (.aload_n 0, 1) := by decide +kernel
theorem dX0_join_197 : decode cX0_join 197 = .ok (.aload 4, 2) := by decide +kernel
theorem dX0_join_199 : decode cX0_join 199 = .ok (.iload 11, 2) := by decide +kernel
theorem dX0_join_201 : decode cX0_join 201 = .ok (.iload 9, 2) := by decide +kernel
theorem dX0_join_203 : decode cX0_join 203 = .ok (.iload 6, 2) := by decide +kernel
theorem dX0_join_205 : decode cX0_join 205 = .ok (.invokevirtual 63, 3) := by decide +kernel
theorem dX0_join_208 : decode cX0_join 208 = .ok (.istore 11, 2) := by decide +kernel
theorem dX0_join_210 : decode cX0_join 210 = .ok (.aload_n 0, 1) := by decide +kernel
theorem dX0_join_211 : decode cX0_join 211 = .ok (.aload 4, 2) := by decide +kernel
theorem dX0_join_213 : decode cX0_join 213 = .ok (.iload 11, 2) := by decide +kernel
theorem dX0_join_215 : decode cX0_join 215 = .ok (.bipush 100, 2) := by decide +kernel
theorem dX0_join_217 : decode cX0_join 217 = .ok (.iload_n 1, 1) := by decide +kernel
theorem dX0_join_218 : decode cX0_join 218 = .ok (.iadd, 1) := by decide +kernel
theorem dX0_join_219 : decode cX0_join 219 = .ok (.invokevirtual 67, 3) := by decide +kernel
theorem dX0_join_222 : decode cX0_join 222 = .ok (.istore 11, 2) := by decide +kernel
theorem dX0_join_224 : decode cX0_join 224 = .ok (.aload_n 0, 1) := by decide +kernel
theorem dX0_join_225 : decode cX0_join 225 = .ok (.aload 4, 2) := by decide +kernel
theorem dX0_join_227 : decode cX0_join 227 = .ok (.aload_n 0, 1) := by decide +kernel
theorem dX0_join_228 : decode cX0_join 228 = .ok (.aload 4, 2) := by decide +kernel
theorem dX0_join_230 : decode cX0_join 230 = .ok (.iload 11, 2) := by decide +kernel
theorem dX0_join_232 : decode cX0_join 232 = .ok (.iconst (-1), 1) := by decide +kernel
theorem dX0_join_233 : decode cX0_join 233 = .ok (.invokevirtual 67, 3) := by decide +kernel
theorem dX0_join_236 : decode cX0_join 236 = .ok (.invokevirtual 71, 3) := by decide +kernel
theorem dX0_join_239 : decode cX0_join 239 = .ok (.return_, 1) := by decide +kernel
theorem dX0_split_0 : decode cX0_split 0 = .ok (.aload_n 0, 1) := by decide +kernel
theorem dX0_split_1 : decode cX0_split 1 = .ok (.bipush 100, 2) := by decide +kernel
theorem dX0_split_3 : decode cX0_split 3 = .ok (.iload_n 1, 1) := by decide +kernel
theorem dX0_split_4 : decode cX0_split 4 = .ok (.iadd, 1) := by decide +kernel
theorem dX0_split_5 : decode cX0_split 5 = .ok (.iconst 0, 1) := by decide +kernel
theorem dX0_split_6 : decode cX0_split 6 = .ok (.invokevirtual 25, 3) := by decide +kernel
theorem dX0_split_9 : decode cX0_split 9 = .ok (.istore_n 3, 1) := by decide +kernel
theorem dX0_split_10 : decode cX0_split 10 = .ok (.iload_n 3, 1) := by decide +kernel
theorem dX0_split_11 : decode cX0_split 11 = .ok (.iconst (-1), 1) := by decide +kernel
theorem dX0_split_12 : decode cX0_split 12 = .ok (.if_icmp .ne 7, 3) := by decide +kernel
theorem dX0_split_15 : decode cX0_split 15 = .ok (.iconst (-1), 1) := by decide +kernel
theorem dX0_split_16 : decode cX0_split 16 = .ok (.goto 14, 3) := by decide +kernel
theorem dX0_split_19 : decode cX0_split 19 = .ok (.aload_n 0, 1) := by decide +kernel
theorem dX0_split_20 : decode cX0_split 20 = .ok (.bipush 100, 2) := by decide +kernel
theorem dX0_split_22 : decode cX0_split 22 = .ok (.iload_n 1, 1) := by decide +kernel
theorem dX0_split_23 : decode cX0_split 23 = .ok (.iadd, 1) := by decide +kernel
theorem dX0_split_24 : decode cX0_split 24 = .ok (.iload_n 3, 1) := by decide +kernel
theorem dX0_split_25 : decode cX0_split 25 = .ok (.iconst 1, 1) := by decide +kernel
theorem dX0_split_26 : decode cX0_split 26 = .ok (.iadd, 1) := by decide +kernel
theorem dX0_split_27 : decode cX0_split 27 = .ok (.invokevirtual 25, 3) := by decide +kernel
theorem dX0_split_30 : decode cX0_split 30 = .ok (.istore 4, 2) := by decide +kernel
theorem dX0_split_32 : decode cX0_split 32 = .ok (.iload 4, 2) := by decide +kernel
theorem dX0_split_34 : decode cX0_split 34 = .ok (.iconst (-1), 1) := by decide +kernel
theorem dX0_split_35 : decode cX0_split 35 = .ok (.if_icmp .ne 4, 3) := by decide +kernel
theorem dX0_split_38 : decode cX0_split 38 = .ok (.return_, 1) := by decide +kernel
theorem dX0_split_39 : decode cX0_split 39 = .ok (.aload_n 0, 1) := by decide +kernel
theorem dX0_split_40 : decode cX0_split 40 = .ok (.iload_n 3, 1) := by decide +kernel
theorem dX0_split_41 : decode cX0_split 41 = .ok (.invokevirtual 29, 3) := by decide +kernel
theorem dX0_split_44 : decode cX0_split 44 = .ok (.istore 5, 2) := by decide +kernel
theorem dX0_split_46 : decode cX0_split 46 = .ok (.aload_n 0, 1) := by decide +kernel
theorem dX0_split_47 : decode cX0_split 47 = .ok (.iload 4, 2) := by decide +kernel
theorem dX0_split_49 : decode cX0_split 49 = .ok (.invokevirtual 33, 3) := by decide +kernel
theorem dX0_split_52 : decode cX0_split 52 = .ok (.istore 6, 2) := by decide +kernel
theorem dX0_split_54 : decode cX0_split 54 = .ok (.aload_n 0, 1) := by decide +kernel
theorem dX0_split_55 : decode cX0_split 55 = .ok (.aload_n 2, 1) := by decide +kernel
theorem dX0_split_56 : decode cX0_split 56 = .ok (.iconst 0, 1) := by decide +kernel
theorem dX0_split_57 : decode cX0_split 57 = .ok (.iconst 0, 1) := by decide +kernel
theorem dX0_split_58 : decode cX0_split 58 = .ok (.iload 5, 2) := by decide +kernel
theorem dX0_split_60 : decode cX0_split 60 = .ok (.invokevirtual 63, 3) := by decide +kernel
theorem dX0_split_63 : decode cX0_split 63 = .ok (.istore 7, 2) := by decide +kernel
theorem dX0_split_65 : decode cX0_split 65 = .ok (.aload_n 0, 1) := by decide +kernel
theorem dX0_split_66 : decode cX0_split 66 = .ok (.aload_n 2, 1) := by decide +kernel
theorem dX0_split_67 : decode cX0_split 67 = .ok (.iload 7, 2) := by decide +kernel
theorem dX0_split_69 : decode cX0_split 69 = .ok (.iload 6, 2) := by decide +kernel
theorem dX0_split_71 : decode cX0_split 71 = .ok (.iconst 1, 1) := by decide +kernel
theorem dX0_split_72 : decode cX0_split 72 = .ok (.iadd, 1) := by decide +kernel
theorem dX0_split_73 : decode cX0_split 73 = .ok (.aload_n 0, 1) := by decide +kernel
theorem dX0_split_74 : decode cX0_split 74 = .ok (.getfield 15, 3) := by decide +kernel
theorem dX0_split_77 : decode cX0_split 77 = .ok (.invokevirtual 63, 3) := by decide +kernel
theorem dX0_split_80 : decode cX0_split 80 = .ok (.istore 7, 2) := by decide +kernel
theorem dX0_split_82 : decode cX0_split 82 = .ok (.aload_n 0, 1) := by decide +kernel
theorem dX0_split_83 : decode cX0_split 83 = .ok (.aload_n 2, 1) := by decide +kernel
theorem dX0_split_84 : decode cX0_split 84 = .ok (.iload 7, 2) := by decide +kernel
theorem dX0_split_86 : decode cX0_split 86 = .ok (.iload_n 3, 1) := by decide +kernel
theorem dX0_split_87 : decode cX0_split 87 = .ok (.iconst 1, 1) := by decide +kernel
theorem dX0_split_88 : decode cX0_split 88 = .ok (.iadd, 1) := by decide +kernel
theorem dX0_split_89 : decode cX0_split 89 = .ok (.iload 4, 2) := by decide +kernel
theorem dX0_split_91 : decode cX0_split 91 = .ok (.invokevirtual 63, 3) := by decide +kernel
theorem dX0_split_94 : decode cX0_split 94 = .ok (.istore 7, 2) := by decide +kernel
theorem dX0_split_96 : decode cX0_split 96 = .ok (.aload_n 0, 1) := by decide +kernel
theorem dX0_split_97 : decode cX0_split 97 = .ok (.aload_n 2, 1) := by decide +kernel
theorem dX0_split_98 : decode cX0_split 98 = .ok (.iload 7, 2) := by decide +kernel
theorem dX0_split_100 : decode cX0_split 100 = .ok (.iconst (-1), 1) := by decide +kernel
theorem dX0_split_101 : decode cX0_split 101 = .ok (.invokevirtual 67, 3) := by decide +kernel
theorem dX0_split_104 : decode cX0_split 104 = .ok (.istore 7, 2) := by decide +kernel
theorem dX0_split_106 : decode cX0_split 106 = .ok (.aload_n 0, 1) := by decide +kernel
theorem dX0_split_107 : decode cX0_split 107 = .ok (.aload_n 2, 1) := by decide +kernel
theorem dX0_split_108 : decode cX0_split 108 = .ok (.iload 7, 2) := by decide +kernel
theorem dX0_split_110 : decode cX0_split 110 = .ok (.iload 5, 2) := by decide +kernel
theorem dX0_split_112 : decode cX0_split 112 = .ok (.iload_n 3, 1) := by decide +kernel
theorem dX0_split_113 : decode cX0_split 113 = .ok (.invokevirtual 63, 3) := by decide +kernel
theorem dX0_split_116 : decode cX0_split 116 = .ok (.istore 7, 2) := by decide +kernel
theorem dX0_split_118 : decode cX0_split 118 = .ok (.aload_n 0, 1) := by decide +kernel
theorem dX0_split_119 : decode cX0_split 119 = .ok (.aload_n 2, 1) := by decide +kernel
theorem dX0_split_120 : decode cX0_split 120 = .ok (.iload 7, 2) := by decide +kernel
theorem dX0_split_122 : decode cX0_split 122 = .ok (.iload 4, 2) := by decide +kernel
theorem dX0_split_124 : decode cX0_split 124 = .ok (.iconst 1, 1) := by decide +kernel
theorem dX0_split_125 : decode cX0_split 125 = .ok (.iadd, 1) := by decide +kernel
theorem dX0_split_126 : decode cX0_split 126 = .ok (.iload 6, 2) := by decide +kernel
theorem dX0_split_128 : decode cX0_split 128 = .ok (.invokevirtual 63, 3) := by decide +kernel
theorem dX0_split_131 : decode cX0_split 131 = .ok (.istore 7, 2) := by decide +kernel
theorem dX0_split_133 : decode cX0_split 133 = .ok (.aload_n 0, 1) := by decide +kernel
theorem dX0_split_134 : decode cX0_split 134 = .ok (.aload_n 2, 1) := by decide +kernel
theorem dX0_split_135 : decode cX0_split 135 = .ok (.aload_n 0, 1) := by decide +kernel
theorem dX0_split_136 : decode cX0_split 136 = .ok (.aload_n 2, 1) := by decide +kernel
theorem dX0_split_137 : decode cX0_split 137 = .ok (.iload 7, 2) := by decide +kernel
theorem dX0_split_139 : decode cX0_split 139 = .ok (.iconst (-1), 1) := by decide +kernel
theorem dX0_split_140 : decode cX0_split 140 = .ok (.invokevirtual 67, 3) := by decide +kernel
theorem dX0_split_143 : decode cX0_split 143 = .ok (.invokevirtual 71, 3) := by decide +kernel
theorem dX0_split_146 : decode cX0_split 146 = .ok (.return_, 1) := by decide +kernel
theorem dX0_placeOf_0 : decode cX0_placeOf 0 = .ok (.iload_n 2, 1) := by decide +kernel
theorem dX0_placeOf_1 : decode cX0_placeOf 1 = .ok (.istore_n 3, 1) := by decide +kernel
theorem dX0_placeOf_2 : decode cX0_placeOf 2 = .ok (.iload_n 3, 1) := by decide +kernel
theorem dX0_placeOf_3 : decode cX0_placeOf 3 = .ok (.aload_n 0, 1) := by decide +kernel
theorem dX0_placeOf_4 : decode cX0_placeOf 4 = .ok (.getfield 15, 3) := by decide +kernel
theorem dX0_placeOf_7 : decode cX0_placeOf 7 = .ok (.if_icmp .ge 21, 3) := by decide +kernel
theorem dX0_placeOf_10 : decode cX0_placeOf 10 = .ok (.aload_n 0, 1) := by decide +kernel
theorem dX0_placeOf_11 : decode cX0_placeOf 11 = .ok (.getfield 11, 3) := by decide +kernel
theorem dX0_placeOf_14 : decode cX0_placeOf 14 = .ok (.iload_n 3, 1) := by decide +kernel
theorem dX0_placeOf_15 : decode cX0_placeOf 15 = .ok (.iaload, 1) := by decide +kernel
theorem dX0_placeOf_16 : decode cX0_placeOf 16 = .ok (.iload_n 1, 1) := by decide +kernel
theorem dX0_placeOf_17 : decode cX0_placeOf 17 = .ok (.if_icmp .ne 5, 3) := by decide +kernel
theorem dX0_placeOf_20 : decode cX0_placeOf 20 = .ok (.iload_n 3, 1) := by decide +kernel
theorem dX0_placeOf_21 : decode cX0_placeOf 21 = .ok (.ireturn, 1) := by decide +kernel
theorem dX0_placeOf_22 : decode cX0_placeOf 22 = .ok (.iinc 3 1, 3) := by decide +kernel
theorem dX0_placeOf_25 : decode cX0_placeOf 25 = .ok (.goto (-23), 3) := by decide +kernel
theorem dX0_placeOf_28 : decode cX0_placeOf 28 = .ok (.iconst (-1), 1) := by decide +kernel
theorem dX0_placeOf_29 : decode cX0_placeOf 29 = .ok (.ireturn, 1) := by decide +kernel
theorem dX0_beginOf_0 : decode cX0_beginOf 0 = .ok (.iload_n 1, 1) := by decide +kernel
theorem dX0_beginOf_1 : decode cX0_beginOf 1 = .ok (.istore_n 2, 1) := by decide +kernel
theorem dX0_beginOf_2 : decode cX0_beginOf 2 = .ok (.iload_n 2, 1) := by decide +kernel
theorem dX0_beginOf_3 : decode cX0_beginOf 3 = .ok (.ifCond .le 21, 3) := by decide +kernel
theorem dX0_beginOf_6 : decode cX0_beginOf 6 = .ok (.aload_n 0, 1) := by decide +kernel
theorem dX0_beginOf_7 : decode cX0_beginOf 7 = .ok (.getfield 11, 3) := by decide +kernel
theorem dX0_beginOf_10 : decode cX0_beginOf 10 = .ok (.iload_n 2, 1) := by decide +kernel
theorem dX0_beginOf_11 : decode cX0_beginOf 11 = .ok (.iconst 1, 1) := by decide +kernel
theorem dX0_beginOf_12 : decode cX0_beginOf 12 = .ok (.isub, 1) := by decide +kernel
theorem dX0_beginOf_13 : decode cX0_beginOf 13 = .ok (.iaload, 1) := by decide +kernel
theorem dX0_beginOf_14 : decode cX0_beginOf 14 = .ok (.iconst (-1), 1) := by decide +kernel
theorem dX0_beginOf_15 : decode cX0_beginOf 15 = .ok (.if_icmp .eq 9, 3) := by decide +kernel
theorem dX0_beginOf_18 : decode cX0_beginOf 18 = .ok (.iinc 2 (-1), 3) := by decide +kernel
theorem dX0_beginOf_21 : decode cX0_beginOf 21 = .ok (.goto (-19), 3) := by decide +kernel
theorem dX0_beginOf_24 : decode cX0_beginOf 24 = .ok (.iload_n 2, 1) := by decide +kernel
theorem dX0_beginOf_25 : decode cX0_beginOf 25 = .ok (.ireturn, 1) := by decide +kernel
theorem dX0_endOf_0 : decode cX0_endOf 0 = .ok (.iload_n 1, 1) := by decide +kernel
theorem dX0_endOf_1 : decode cX0_endOf 1 = .ok (.istore_n 2, 1) := by decide +kernel
theorem dX0_endOf_2 : decode cX0_endOf 2 = .ok (.iload_n 2, 1) := by decide +kernel
theorem dX0_endOf_3 : decode cX0_endOf 3 = .ok (.aload_n 0, 1) := by decide +kernel
theorem dX0_endOf_4 : decode cX0_endOf 4 = .ok (.getfield 15, 3) := by decide +kernel
theorem dX0_endOf_7 : decode cX0_endOf 7 = .ok (.if_icmp .ge 19, 3) := by decide +kernel
theorem dX0_endOf_10 : decode cX0_endOf 10 = .ok (.aload_n 0, 1) := by decide +kernel
theorem dX0_endOf_11 : decode cX0_endOf 11 = .ok (.getfield 11, 3) := by decide +kernel
theorem dX0_endOf_14 : decode cX0_endOf 14 = .ok (.iload_n 2, 1) := by decide +kernel
theorem dX0_endOf_15 : decode cX0_endOf 15 = .ok (.iaload, 1) := by decide +kernel
theorem dX0_endOf_16 : decode cX0_endOf 16 = .ok (.iconst (-1), 1) := by decide +kernel
theorem dX0_endOf_17 : decode cX0_endOf 17 = .ok (.if_icmp .eq 9, 3) := by decide +kernel
theorem dX0_endOf_20 : decode cX0_endOf 20 = .ok (.iinc 2 1, 3) := by decide +kernel
theorem dX0_endOf_23 : decode cX0_endOf 23 = .ok (.goto (-21), 3) := by decide +kernel
theorem dX0_endOf_26 : decode cX0_endOf 26 = .ok (.iload_n 2, 1) := by decide +kernel
theorem dX0_endOf_27 : decode cX0_endOf 27 = .ok (.ireturn, 1) := by decide +kernel
theorem dX0_nodesIn_0 : decode cX0_nodesIn 0 = .ok (.iconst 0, 1) := by decide +kernel
theorem dX0_nodesIn_1 : decode cX0_nodesIn 1 = .ok (.istore_n 3, 1) := by decide +kernel
theorem dX0_nodesIn_2 : decode cX0_nodesIn 2 = .ok (.iload_n 1, 1) := by decide +kernel
theorem dX0_nodesIn_3 : decode cX0_nodesIn 3 = .ok (.istore 4, 2) := by decide +kernel
theorem dX0_nodesIn_5 : decode cX0_nodesIn 5 = .ok (.iload 4, 2) := by decide +kernel
theorem dX0_nodesIn_7 : decode cX0_nodesIn 7 = .ok (.iload_n 2, 1) := by decide +kernel
theorem dX0_nodesIn_8 : decode cX0_nodesIn 8 = .ok (.if_icmp .ge 42, 3) := by decide +kernel
theorem dX0_nodesIn_11 : decode cX0_nodesIn 11 = .ok (.iload 4, 2) := by decide +kernel
theorem dX0_nodesIn_13 : decode cX0_nodesIn 13 = .ok (.aload_n 0, 1) := by decide +kernel
theorem dX0_nodesIn_14 : decode cX0_nodesIn 14 = .ok (.getfield 15, 3) := by decide +kernel
theorem dX0_nodesIn_17 : decode cX0_nodesIn 17 = .ok (.if_icmp .ge 33, 3) := by decide +kernel
theorem dX0_nodesIn_20 : decode cX0_nodesIn 20 = .ok (.aload_n 0, 1) := by decide +kernel
theorem dX0_nodesIn_21 : decode cX0_nodesIn 21 = .ok (.getfield 11, 3) := by decide +kernel
theorem dX0_nodesIn_24 : decode cX0_nodesIn 24 = .ok (.iload 4, 2) := by decide +kernel
theorem dX0_nodesIn_26 : decode cX0_nodesIn 26 = .ok (.iaload, 1) := by decide +kernel
theorem dX0_nodesIn_27 : decode cX0_nodesIn 27 = .ok (.bipush 100, 2) := by decide +kernel
theorem dX0_nodesIn_29 : decode cX0_nodesIn 29 = .ok (.if_icmp .ge 15, 3) := by decide +kernel
theorem dX0_nodesIn_32 : decode cX0_nodesIn 32 = .ok (.iload_n 3, 1) := by decide +kernel
theorem dX0_nodesIn_33 : decode cX0_nodesIn 33 = .ok (.iconst 1, 1) := by decide +kernel
theorem dX0_nodesIn_34 : decode cX0_nodesIn 34 = .ok (.aload_n 0, 1) := by decide +kernel
theorem dX0_nodesIn_35 : decode cX0_nodesIn 35 = .ok (.getfield 11, 3) := by decide +kernel
theorem dX0_nodesIn_38 : decode cX0_nodesIn 38 = .ok (.iload 4, 2) := by decide +kernel
theorem dX0_nodesIn_40 : decode cX0_nodesIn 40 = .ok (.iaload, 1) := by decide +kernel
theorem dX0_nodesIn_41 : decode cX0_nodesIn 41 = .ok (.ishl, 1) := by decide +kernel
theorem dX0_nodesIn_42 : decode cX0_nodesIn 42 = .ok (.ior, 1) := by decide +kernel
theorem dX0_nodesIn_43 : decode cX0_nodesIn 43 = .ok (.istore_n 3, 1) := by decide +kernel
theorem dX0_nodesIn_44 : decode cX0_nodesIn 44 = .ok (.iinc 4 1, 3) := by decide +kernel
theorem dX0_nodesIn_47 : decode cX0_nodesIn 47 = .ok (.goto (-42), 3) := by decide +kernel
theorem dX0_nodesIn_50 : decode cX0_nodesIn 50 = .ok (.iload_n 3, 1) := by decide +kernel
theorem dX0_nodesIn_51 : decode cX0_nodesIn 51 = .ok (.ireturn, 1) := by decide +kernel
theorem dX0_openAt_0 : decode cX0_openAt 0 = .ok (.lconst 0, 1) := by decide +kernel
theorem dX0_openAt_1 : decode cX0_openAt 1 = .ok (.lstore_n 2, 1) := by decide +kernel
theorem dX0_openAt_2 : decode cX0_openAt 2 = .ok (.iload_n 1, 1) := by decide +kernel
theorem dX0_openAt_3 : decode cX0_openAt 3 = .ok (.iconst 1, 1) := by decide +kernel
theorem dX0_openAt_4 : decode cX0_openAt 4 = .ok (.isub, 1) := by decide +kernel
theorem dX0_openAt_5 : decode cX0_openAt 5 = .ok (.istore 4, 2) := by decide +kernel
theorem dX0_openAt_7 : decode cX0_openAt 7 = .ok (.iload 4, 2) := by decide +kernel
theorem dX0_openAt_9 : decode cX0_openAt 9 = .ok (.ifCond .lt 47, 3) := by decide +kernel
theorem dX0_openAt_12 : decode cX0_openAt 12 = .ok (.aload_n 0, 1) := by decide +kernel
theorem dX0_openAt_13 : decode cX0_openAt 13 = .ok (.getfield 11, 3) := by decide +kernel
theorem dX0_openAt_16 : decode cX0_openAt 16 = .ok (.iload 4, 2) := by decide +kernel
theorem dX0_openAt_18 : decode cX0_openAt 18 = .ok (.iaload, 1) := by decide +kernel
theorem dX0_openAt_19 : decode cX0_openAt 19 = .ok (.iconst (-1), 1) := by decide +kernel
theorem dX0_openAt_20 : decode cX0_openAt 20 = .ok (.if_icmp .eq 36, 3) := by decide +kernel
theorem dX0_openAt_23 : decode cX0_openAt 23 = .ok (.aload_n 0, 1) := by decide +kernel
theorem dX0_openAt_24 : decode cX0_openAt 24 = .ok (.getfield 11, 3) := by decide +kernel
theorem dX0_openAt_27 : decode cX0_openAt 27 = .ok (.iload 4, 2) := by decide +kernel
theorem dX0_openAt_29 : decode cX0_openAt 29 = .ok (.iaload, 1) := by decide +kernel
theorem dX0_openAt_30 : decode cX0_openAt 30 = .ok (.bipush 100, 2) := by decide +kernel
theorem dX0_openAt_32 : decode cX0_openAt 32 = .ok (.if_icmp .lt 18, 3) := by decide +kernel
theorem dX0_openAt_35 : decode cX0_openAt 35 = .ok (.lload_n 2, 1) := by decide +kernel
theorem dX0_openAt_36 : decode cX0_openAt 36 = .ok (.lconst 1, 1) := by decide +kernel
theorem dX0_openAt_37 : decode cX0_openAt 37 = .ok (.aload_n 0, 1) := by decide +kernel
theorem dX0_openAt_38 : decode cX0_openAt 38 = .ok (.getfield 11, 3) := by decide +kernel
theorem dX0_openAt_41 : decode cX0_openAt 41 = .ok (.iload 4, 2) := by decide +kernel
theorem dX0_openAt_43 : decode cX0_openAt 43 = .ok (.iaload, 1) := by decide +kernel
theorem dX0_openAt_44 : decode cX0_openAt 44 = .ok (.bipush 100, 2) := by decide +kernel
theorem dX0_openAt_46 : decode cX0_openAt 46 = .ok (.isub, 1) := by decide +kernel
theorem dX0_openAt_47 : decode cX0_openAt 47 = .ok (.lshl, 1) := by decide +kernel
theorem dX0_openAt_48 : decode cX0_openAt 48 = .ok (.lxor, 1) := by decide +kernel
theorem dX0_openAt_49 : decode cX0_openAt 49 = .ok (.lstore_n 2, 1) := by decide +kernel
theorem dX0_openAt_50 : decode cX0_openAt 50 = .ok (.iinc 4 (-1), 3) := by decide +kernel
theorem dX0_openAt_53 : decode cX0_openAt 53 = .ok (.goto (-46), 3) := by decide +kernel
theorem dX0_openAt_56 : decode cX0_openAt 56 = .ok (.lload_n 2, 1) := by decide +kernel
theorem dX0_openAt_57 : decode cX0_openAt 57 = .ok (.lreturn, 1) := by decide +kernel
theorem dX0_copyTo_0 : decode cX0_copyTo 0 = .ok (.iload_n 2, 1) := by decide +kernel
theorem dX0_copyTo_1 : decode cX0_copyTo 1 = .ok (.istore 5, 2) := by decide +kernel
theorem dX0_copyTo_3 : decode cX0_copyTo 3 = .ok (.iload_n 3, 1) := by decide +kernel
theorem dX0_copyTo_4 : decode cX0_copyTo 4 = .ok (.istore 6, 2) := by decide +kernel
theorem dX0_copyTo_6 : decode cX0_copyTo 6 = .ok (.iload 6, 2) := by decide +kernel
theorem dX0_copyTo_8 : decode cX0_copyTo 8 = .ok (.iload 4, 2) := by decide +kernel
theorem dX0_copyTo_10 : decode cX0_copyTo 10 = .ok (.if_icmp .ge 30, 3) := by decide +kernel
theorem dX0_copyTo_13 : decode cX0_copyTo 13 = .ok (.iload 5, 2) := by decide +kernel
theorem dX0_copyTo_15 : decode cX0_copyTo 15 = .ok (.bipush 48, 2) := by decide +kernel
theorem dX0_copyTo_17 : decode cX0_copyTo 17 = .ok (.if_icmp .ge 23, 3) := by decide +kernel
theorem dX0_copyTo_20 : decode cX0_copyTo 20 = .ok (.aload_n 1, 1) := by decide +kernel
theorem dX0_copyTo_21 : decode cX0_copyTo 21 = .ok (.iload 5, 2) := by decide +kernel
theorem dX0_copyTo_23 : decode cX0_copyTo 23 = .ok (.aload_n 0, 1) := by decide +kernel
theorem dX0_copyTo_24 : decode cX0_copyTo 24 = .ok (.getfield 11, 3) := by decide +kernel
theorem dX0_copyTo_27 : decode cX0_copyTo 27 = .ok (.iload 6, 2) := by decide +kernel
theorem dX0_copyTo_29 : decode cX0_copyTo 29 = .ok (.iaload, 1) := by decide +kernel
theorem dX0_copyTo_30 : decode cX0_copyTo 30 = .ok (.iastore, 1) := by decide +kernel
theorem dX0_copyTo_31 : decode cX0_copyTo 31 = .ok (.iinc 5 1, 3) := by decide +kernel
theorem dX0_copyTo_34 : decode cX0_copyTo 34 = .ok (.iinc 6 1, 3) := by decide +kernel
theorem dX0_copyTo_37 : decode cX0_copyTo 37 = .ok (.goto (-31), 3) := by decide +kernel
theorem dX0_copyTo_40 : decode cX0_copyTo 40 = .ok (.iload 5, 2) := by decide +kernel
theorem dX0_copyTo_42 : decode cX0_copyTo 42 = .ok (.ireturn, 1) := by decide +kernel
theorem dX0_putTo_0 : decode cX0_putTo 0 = .ok (.iload_n 2, 1) := by decide +kernel
theorem dX0_putTo_1 : decode cX0_putTo 1 = .ok (.bipush 48, 2) := by decide +kernel
theorem dX0_putTo_3 : decode cX0_putTo 3 = .ok (.if_icmp .lt 5, 3) := by decide +kernel
theorem dX0_putTo_6 : decode cX0_putTo 6 = .ok (.iload_n 2, 1) := by decide +kernel
theorem dX0_putTo_7 : decode cX0_putTo 7 = .ok (.ireturn, 1) := by decide +kernel
theorem dX0_putTo_8 : decode cX0_putTo 8 = .ok (.aload_n 1, 1) := by decide +kernel
theorem dX0_putTo_9 : decode cX0_putTo 9 = .ok (.iload_n 2, 1) := by decide +kernel
theorem dX0_putTo_10 : decode cX0_putTo 10 = .ok (.iload_n 3, 1) := by decide +kernel
theorem dX0_putTo_11 : decode cX0_putTo 11 = .ok (.iastore, 1) := by decide +kernel
theorem dX0_putTo_12 : decode cX0_putTo 12 = .ok (.iload_n 2, 1) := by decide +kernel
theorem dX0_putTo_13 : decode cX0_putTo 13 = .ok (.iconst 1, 1) := by decide +kernel
theorem dX0_putTo_14 : decode cX0_putTo 14 = .ok (.iadd, 1) := by decide +kernel
theorem dX0_putTo_15 : decode cX0_putTo 15 = .ok (.ireturn, 1) := by decide +kernel
theorem dX0_takeFrom_0 : decode cX0_takeFrom 0 = .ok (.iconst 0, 1) := by decide +kernel
theorem dX0_takeFrom_1 : decode cX0_takeFrom 1 = .ok (.istore_n 3, 1) := by decide +kernel
theorem dX0_takeFrom_2 : decode cX0_takeFrom 2 = .ok (.iload_n 3, 1) := by decide +kernel
theorem dX0_takeFrom_3 : decode cX0_takeFrom 3 = .ok (.iload_n 2, 1) := by decide +kernel
theorem dX0_takeFrom_4 : decode cX0_takeFrom 4 = .ok (.if_icmp .ge 24, 3) := by decide +kernel
theorem dX0_takeFrom_7 : decode cX0_takeFrom 7 = .ok (.iload_n 3, 1) := by decide +kernel
theorem dX0_takeFrom_8 : decode cX0_takeFrom 8 = .ok (.bipush 48, 2) := by decide +kernel
theorem dX0_takeFrom_10 : decode cX0_takeFrom 10 = .ok (.if_icmp .ge 18, 3) := by decide +kernel
theorem dX0_takeFrom_13 : decode cX0_takeFrom 13 = .ok (.aload_n 0, 1) := by decide +kernel
theorem dX0_takeFrom_14 : decode cX0_takeFrom 14 = .ok (.getfield 11, 3) := by decide +kernel
theorem dX0_takeFrom_17 : decode cX0_takeFrom 17 = .ok (.iload_n 3, 1) := by decide +kernel
theorem dX0_takeFrom_18 : decode cX0_takeFrom 18 = .ok (.aload_n 1, 1) := by decide +kernel
theorem dX0_takeFrom_19 : decode cX0_takeFrom 19 = .ok (.iload_n 3, 1) := by decide +kernel
theorem dX0_takeFrom_20 : decode cX0_takeFrom 20 = .ok (.iaload, 1) := by decide +kernel
theorem dX0_takeFrom_21 : decode cX0_takeFrom 21 = .ok (.iastore, 1) := by decide +kernel
theorem dX0_takeFrom_22 : decode cX0_takeFrom 22 = .ok (.iinc 3 1, 3) := by decide +kernel
theorem dX0_takeFrom_25 : decode cX0_takeFrom 25 = .ok (.goto (-23), 3) := by decide +kernel
theorem dX0_takeFrom_28 : decode cX0_takeFrom 28 = .ok (.aload_n 0, 1) := by decide +kernel
theorem dX0_takeFrom_29 : decode cX0_takeFrom 29 = .ok (.iload_n 2, 1) := by decide +kernel
theorem dX0_takeFrom_30 : decode cX0_takeFrom 30 = .ok (.putfield 15, 3) := by decide +kernel
theorem dX0_takeFrom_33 : decode cX0_takeFrom 33 = .ok (.return_, 1) := by decide +kernel

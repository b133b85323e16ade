theorem dX5_triesLift_38 : decode cX5_triesLift 38 = .ok (.iconst 3, 1) := by decide +kernel
theorem dX5_triesLift_39 : decode cX5_triesLift 39 = .ok (.iaload, 1) := by decide +kernel
theorem dX5_triesLift_40 : decode cX5_triesLift 40 = .ok (.aload_n 0, 1) := by decide +kernel
theorem dX5_triesLift_41 : decode cX5_triesLift 41 = .ok (.getfield 16, 3) := by decide +kernel
theorem dX5_triesLift_44 : decode cX5_triesLift 44 = .ok (.iconst 3, 1) := by decide +kernel
theorem dX5_triesLift_45 : decode cX5_triesLift 45 = .ok (.iaload, 1) := by decide +kernel
theorem dX5_triesLift_46 : decode cX5_triesLift 46 = .ok (.isub, 1) := by decide +kernel
theorem dX5_triesLift_47 : decode cX5_triesLift 47 = .ok (.putfield 308, 3) := by decide +kernel
theorem dX5_triesLift_50 : decode cX5_triesLift 50 = .ok (.aload_n 0, 1) := by decide +kernel
theorem dX5_triesLift_51 : decode cX5_triesLift 51 = .ok (.aload_n 0, 1) := by decide +kernel
theorem dX5_triesLift_52 : decode cX5_triesLift 52 = .ok (.getfield 7, 3) := by decide +kernel
theorem dX5_triesLift_55 : decode cX5_triesLift 55 = .ok (.iconst 2, 1) := by decide +kernel
theorem dX5_triesLift_56 : decode cX5_triesLift 56 = .ok (.iaload, 1) := by decide +kernel
theorem dX5_triesLift_57 : decode cX5_triesLift 57 = .ok (.aload_n 0, 1) := by decide +kernel
theorem dX5_triesLift_58 : decode cX5_triesLift 58 = .ok (.getfield 16, 3) := by decide +kernel
theorem dX5_triesLift_61 : decode cX5_triesLift 61 = .ok (.iconst 2, 1) := by decide +kernel
theorem dX5_triesLift_62 : decode cX5_triesLift 62 = .ok (.iaload, 1) := by decide +kernel
theorem dX5_triesLift_63 : decode cX5_triesLift 63 = .ok (.isub, 1) := by decide +kernel
theorem dX5_triesLift_64 : decode cX5_triesLift 64 = .ok (.putfield 311, 3) := by decide +kernel
theorem dX5_triesLift_67 : decode cX5_triesLift 67 = .ok (.iconst 0, 1) := by decide +kernel
theorem dX5_triesLift_68 : decode cX5_triesLift 68 = .ok (.istore_n 3, 1) := by decide +kernel
theorem dX5_triesLift_69 : decode cX5_triesLift 69 = .ok (.iload_n 3, 1) := by decide +kernel
theorem dX5_triesLift_70 : decode cX5_triesLift 70 = .ok (.sipush 4341, 3) := by decide +kernel
theorem dX5_triesLift_73 : decode cX5_triesLift 73 = .ok (.if_icmp .ge 21, 3) := by decide +kernel
theorem dX5_triesLift_76 : decode cX5_triesLift 76 = .ok (.aload_n 0, 1) := by decide +kernel
theorem dX5_triesLift_77 : decode cX5_triesLift 77 = .ok (.getfield 7, 3) := by decide +kernel
theorem dX5_triesLift_80 : decode cX5_triesLift 80 = .ok (.iload_n 3, 1) := by decide +kernel
theorem dX5_triesLift_81 : decode cX5_triesLift 81 = .ok (.aload_n 0, 1) := by decide +kernel
theorem dX5_triesLift_82 : decode cX5_triesLift 82 = .ok (.getfield 16, 3) := by decide +kernel
theorem dX5_triesLift_85 : decode cX5_triesLift 85 = .ok (.iload_n 3, 1) := by decide +kernel
theorem dX5_triesLift_86 : decode cX5_triesLift 86 = .ok (.iaload, 1) := by decide +kernel
theorem dX5_triesLift_87 : decode cX5_triesLift 87 = .ok (.iastore, 1) := by decide +kernel
theorem dX5_triesLift_88 : decode cX5_triesLift 88 = .ok (.iinc 3 1, 3) := by decide +kernel
theorem dX5_triesLift_91 : decode cX5_triesLift 91 = .ok (.goto (-22), 3) := by decide +kernel
theorem dX5_triesLift_94 : decode cX5_triesLift 94 = .ok (.aload_n 0, 1) := by decide +kernel
theorem dX5_triesLift_95 : decode cX5_triesLift 95 = .ok (.getfield 139, 3) := by decide +kernel
theorem dX5_triesLift_98 : decode cX5_triesLift 98 = .ok (.ireturn, 1) := by decide +kernel
theorem dX5_heir_0 : decode cX5_heir 0 = .ok (.aload_n 0, 1) := by decide +kernel
theorem dX5_heir_1 : decode cX5_heir 1 = .ok (.aload_n 0, 1) := by decide +kernel
theorem dX5_heir_2 : decode cX5_heir 2 = .ok (.iload_n 1, 1) := by decide +kernel
theorem dX5_heir_3 : decode cX5_heir 3 = .ok (.invokevirtual 65, 3) := by decide +kernel
theorem dX5_heir_6 : decode cX5_heir 6 = .ok (.ifCond .ne 7, 3) := by decide +kernel
theorem dX5_heir_9 : decode cX5_heir 9 = .ok (.iconst 1, 1) := by decide +kernel
theorem dX5_heir_10 : decode cX5_heir 10 = .ok (.goto 16, 3) := by decide +kernel
theorem dX5_heir_13 : decode cX5_heir 13 = .ok (.aload_n 0, 1) := by decide +kernel
theorem dX5_heir_14 : decode cX5_heir 14 = .ok (.iload_n 1, 1) := by decide +kernel
theorem dX5_heir_15 : decode cX5_heir 15 = .ok (.invokevirtual 133, 3) := by decide +kernel
theorem dX5_heir_18 : decode cX5_heir 18 = .ok (.ifCond .ne 7, 3) := by decide +kernel
theorem dX5_heir_21 : decode cX5_heir 21 = .ok (.iconst 2, 1) := by decide +kernel
theorem dX5_heir_22 : decode cX5_heir 22 = .ok (.goto 4, 3) := by decide +kernel
theorem dX5_heir_25 : decode cX5_heir 25 = .ok (.iconst 0, 1) := by decide +kernel
theorem dX5_heir_26 : decode cX5_heir 26 = .ok (.putfield 58, 3) := by decide +kernel
theorem dX5_heir_29 : decode cX5_heir 29 = .ok (.aload_n 0, 1) := by decide +kernel
theorem dX5_heir_30 : decode cX5_heir 30 = .ok (.getfield 58, 3) := by decide +kernel
theorem dX5_heir_33 : decode cX5_heir 33 = .ok (.ifCond .le 7, 3) := by decide +kernel
theorem dX5_heir_36 : decode cX5_heir 36 = .ok (.iconst 0, 1) := by decide +kernel
theorem dX5_heir_37 : decode cX5_heir 37 = .ok (.goto 8, 3) := by decide +kernel
theorem dX5_heir_40 : decode cX5_heir 40 = .ok (.aload_n 0, 1) := by decide +kernel
theorem dX5_heir_41 : decode cX5_heir 41 = .ok (.iload_n 1, 1) := by decide +kernel
theorem dX5_heir_42 : decode cX5_heir 42 = .ok (.invokevirtual 314, 3) := by decide +kernel
theorem dX5_heir_45 : decode cX5_heir 45 = .ok (.ireturn, 1) := by decide +kernel
theorem dX5_would_0 : decode cX5_would 0 = .ok (.aload_n 0, 1) := by decide +kernel
theorem dX5_would_1 : decode cX5_would 1 = .ok (.aload_n 0, 1) := by decide +kernel
theorem dX5_would_2 : decode cX5_would 2 = .ok (.iload_n 1, 1) := by decide +kernel
theorem dX5_would_3 : decode cX5_would 3 = .ok (.invokevirtual 65, 3) := by decide +kernel
theorem dX5_would_6 : decode cX5_would 6 = .ok (.ifCond .ne 7, 3) := by decide +kernel
theorem dX5_would_9 : decode cX5_would 9 = .ok (.iconst 1, 1) := by decide +kernel
theorem dX5_would_10 : decode cX5_would 10 = .ok (.goto 29, 3) := by decide +kernel
theorem dX5_would_13 : decode cX5_would 13 = .ok (.iload_n 2, 1) := by decide +kernel
theorem dX5_would_14 : decode cX5_would 14 = .ok (.iconst 0, 1) := by decide +kernel
theorem dX5_would_15 : decode cX5_would 15 = .ok (.iconst 1, 1) := by decide +kernel
theorem dX5_would_16 : decode cX5_would 16 = .ok (.invokestatic 61, 3) := by decide +kernel
theorem dX5_would_19 : decode cX5_would 19 = .ok (.ifCond .ne 7, 3) := by decide +kernel
theorem dX5_would_22 : decode cX5_would 22 = .ok (.iconst 2, 1) := by decide +kernel
theorem dX5_would_23 : decode cX5_would 23 = .ok (.goto 16, 3) := by decide +kernel
theorem dX5_would_26 : decode cX5_would 26 = .ok (.aload_n 0, 1) := by decide +kernel
theorem dX5_would_27 : decode cX5_would 27 = .ok (.iload_n 1, 1) := by decide +kernel
theorem dX5_would_28 : decode cX5_would 28 = .ok (.invokevirtual 142, 3) := by decide +kernel
theorem dX5_would_31 : decode cX5_would 31 = .ok (.ifCond .ne 7, 3) := by decide +kernel
theorem dX5_would_34 : decode cX5_would 34 = .ok (.iconst 3, 1) := by decide +kernel
theorem dX5_would_35 : decode cX5_would 35 = .ok (.goto 4, 3) := by decide +kernel
theorem dX5_would_38 : decode cX5_would 38 = .ok (.iconst 0, 1) := by decide +kernel
theorem dX5_would_39 : decode cX5_would 39 = .ok (.putfield 58, 3) := by decide +kernel
theorem dX5_would_42 : decode cX5_would 42 = .ok (.aload_n 0, 1) := by decide +kernel
theorem dX5_would_43 : decode cX5_would 43 = .ok (.getfield 58, 3) := by decide +kernel
theorem dX5_would_46 : decode cX5_would 46 = .ok (.ifCond .le 5, 3) := by decide +kernel
theorem dX5_would_49 : decode cX5_would 49 = .ok (.iconst 0, 1) := by decide +kernel
theorem dX5_would_50 : decode cX5_would 50 = .ok (.ireturn, 1) := by decide +kernel
theorem dX5_would_51 : decode cX5_would 51 = .ok (.aload_n 0, 1) := by decide +kernel
theorem dX5_would_52 : decode cX5_would 52 = .ok (.iload_n 1, 1) := by decide +kernel
theorem dX5_would_53 : decode cX5_would 53 = .ok (.invokevirtual 314, 3) := by decide +kernel
theorem dX5_would_56 : decode cX5_would 56 = .ok (.istore_n 3, 1) := by decide +kernel
theorem dX5_would_57 : decode cX5_would 57 = .ok (.iload_n 2, 1) := by decide +kernel
theorem dX5_would_58 : decode cX5_would 58 = .ok (.ifCond .ne 10, 3) := by decide +kernel
theorem dX5_would_61 : decode cX5_would 61 = .ok (.aload_n 0, 1) := by decide +kernel
theorem dX5_would_62 : decode cX5_would 62 = .ok (.getfield 308, 3) := by decide +kernel
theorem dX5_would_65 : decode cX5_would 65 = .ok (.goto 7, 3) := by decide +kernel
theorem dX5_would_68 : decode cX5_would 68 = .ok (.aload_n 0, 1) := by decide +kernel
theorem dX5_would_69 : decode cX5_would 69 = .ok (.getfield 311, 3) := by decide +kernel
theorem dX5_would_72 : decode cX5_would 72 = .ok (.ireturn, 1) := by decide +kernel
theorem dX5_isBridge_0 : decode cX5_isBridge 0 = .ok (.aload_n 0, 1) := by decide +kernel
theorem dX5_isBridge_1 : decode cX5_isBridge 1 = .ok (.iload_n 1, 1) := by decide +kernel
theorem dX5_isBridge_2 : decode cX5_isBridge 2 = .ok (.invokevirtual 133, 3) := by decide +kernel
theorem dX5_isBridge_5 : decode cX5_isBridge 5 = .ok (.ifCond .ne 5, 3) := by decide +kernel
theorem dX5_isBridge_8 : decode cX5_isBridge 8 = .ok (.iconst 0, 1) := by decide +kernel
theorem dX5_isBridge_9 : decode cX5_isBridge 9 = .ok (.ireturn, 1) := by decide +kernel
theorem dX5_isBridge_10 : decode cX5_isBridge 10 = .ok (.aload_n 0, 1) := by decide +kernel
theorem dX5_isBridge_11 : decode cX5_isBridge 11 = .ok (.aload_n 0, 1) := by decide +kernel
theorem dX5_isBridge_12 : decode cX5_isBridge 12 = .ok (.iload_n 1, 1) := by decide +kernel
theorem dX5_isBridge_13 : decode cX5_isBridge 13 = .ok (.iconst 0, 1) := by decide +kernel
theorem dX5_isBridge_14 : decode cX5_isBridge 14 = .ok (.invokevirtual 69, 3) := by decide +kernel
theorem dX5_isBridge_17 : decode cX5_isBridge 17 = .ok (.iconst 0, 1) := by decide +kernel
theorem dX5_isBridge_18 : decode cX5_isBridge 18 = .ok (.iload_n 1, 1) := by decide +kernel
theorem dX5_isBridge_19 : decode cX5_isBridge 19 = .ok (.iconst (-1), 1) := by decide +kernel
theorem dX5_isBridge_20 : decode cX5_isBridge 20 = .ok (.invokevirtual 279, 3) := by decide +kernel
theorem dX5_isBridge_23 : decode cX5_isBridge 23 = .ok (.aload_n 0, 1) := by decide +kernel
theorem dX5_isBridge_24 : decode cX5_isBridge 24 = .ok (.getfield 39, 3) := by decide +kernel
theorem dX5_isBridge_27 : decode cX5_isBridge 27 = .ok (.aload_n 0, 1) := by decide +kernel
theorem dX5_isBridge_28 : decode cX5_isBridge 28 = .ok (.iload_n 1, 1) := by decide +kernel
theorem dX5_isBridge_29 : decode cX5_isBridge 29 = .ok (.iconst 1, 1) := by decide +kernel
theorem dX5_isBridge_30 : decode cX5_isBridge 30 = .ok (.invokevirtual 69, 3) := by decide +kernel
theorem dX5_isBridge_33 : decode cX5_isBridge 33 = .ok (.iaload, 1) := by decide +kernel
theorem dX5_isBridge_34 : decode cX5_isBridge 34 = .ok (.iconst (-1), 1) := by decide +kernel
theorem dX5_isBridge_35 : decode cX5_isBridge 35 = .ok (.if_icmp .ne 7, 3) := by decide +kernel
theorem dX5_isBridge_38 : decode cX5_isBridge 38 = .ok (.iconst 1, 1) := by decide +kernel
theorem dX5_isBridge_39 : decode cX5_isBridge 39 = .ok (.goto 4, 3) := by decide +kernel
theorem dX5_isBridge_42 : decode cX5_isBridge 42 = .ok (.iconst 0, 1) := by decide +kernel
theorem dX5_isBridge_43 : decode cX5_isBridge 43 = .ok (.ireturn, 1) := by decide +kernel
theorem dX5_bridge_0 : decode cX5_bridge 0 = .ok (.aload_n 0, 1) := by decide +kernel
theorem dX5_bridge_1 : decode cX5_bridge 1 = .ok (.aload_n 0, 1) := by decide +kernel
theorem dX5_bridge_2 : decode cX5_bridge 2 = .ok (.iload_n 1, 1) := by decide +kernel
theorem dX5_bridge_3 : decode cX5_bridge 3 = .ok (.invokevirtual 65, 3) := by decide +kernel
theorem dX5_bridge_6 : decode cX5_bridge 6 = .ok (.ifCond .eq 7, 3) := by decide +kernel
theorem dX5_bridge_9 : decode cX5_bridge 9 = .ok (.iconst 0, 1) := by decide +kernel
theorem dX5_bridge_10 : decode cX5_bridge 10 = .ok (.goto 4, 3) := by decide +kernel
theorem dX5_bridge_13 : decode cX5_bridge 13 = .ok (.iconst 1, 1) := by decide +kernel
theorem dX5_bridge_14 : decode cX5_bridge 14 = .ok (.putfield 58, 3) := by decide +kernel
theorem dX5_bridge_17 : decode cX5_bridge 17 = .ok (.aload_n 0, 1) := by decide +kernel
theorem dX5_bridge_18 : decode cX5_bridge 18 = .ok (.getfield 58, 3) := by decide +kernel
theorem dX5_bridge_21 : decode cX5_bridge 21 = .ok (.ifCond .ne 15, 3) := by decide +kernel
theorem dX5_bridge_24 : decode cX5_bridge 24 = .ok (.aload_n 0, 1) := by decide +kernel
theorem dX5_bridge_25 : decode cX5_bridge 25 = .ok (.iload_n 1, 1) := by decide +kernel
theorem dX5_bridge_26 : decode cX5_bridge 26 = .ok (.invokevirtual 317, 3) := by decide +kernel
theorem dX5_bridge_29 : decode cX5_bridge 29 = .ok (.ifCond .eq 7, 3) := by decide +kernel
theorem dX5_bridge_32 : decode cX5_bridge 32 = .ok (.iconst 1, 1) := by decide +kernel
theorem dX5_bridge_33 : decode cX5_bridge 33 = .ok (.goto 4, 3) := by decide +kernel
theorem dX5_bridge_36 : decode cX5_bridge 36 = .ok (.iconst 0, 1) := by decide +kernel
theorem dX5_bridge_37 : decode cX5_bridge 37 = .ok (.ireturn, 1) := by decide +kernel
theorem dX5_isHinge_0 : decode cX5_isHinge 0 = .ok (.aload_n 0, 1) := by decide +kernel
theorem dX5_isHinge_1 : decode cX5_isHinge 1 = .ok (.iconst 0, 1) := by decide +kernel
theorem dX5_isHinge_2 : decode cX5_isHinge 2 = .ok (.iload_n 1, 1) := by decide +kernel
theorem dX5_isHinge_3 : decode cX5_isHinge 3 = .ok (.invokevirtual 116, 3) := by decide +kernel
theorem dX5_isHinge_6 : decode cX5_isHinge 6 = .ok (.iconst 1, 1) := by decide +kernel
theorem dX5_isHinge_7 : decode cX5_isHinge 7 = .ok (.iload_n 1, 1) := by decide +kernel
theorem dX5_isHinge_8 : decode cX5_isHinge 8 = .ok (.ishl, 1) := by decide +kernel
theorem dX5_isHinge_9 : decode cX5_isHinge 9 = .ok (.iconst (-1), 1) := by decide +kernel
theorem dX5_isHinge_10 : decode cX5_isHinge 10 = .ok (.ixor, 1) := by decide +kernel
theorem dX5_isHinge_11 : decode cX5_isHinge 11 = .ok (.iand, 1) := by decide +kernel
theorem dX5_isHinge_12 : decode cX5_isHinge 12 = .ok (.istore_n 2, 1) := by decide +kernel
theorem dX5_isHinge_13 : decode cX5_isHinge 13 = .ok (.iconst (-1), 1) := by decide +kernel
theorem dX5_isHinge_14 : decode cX5_isHinge 14 = .ok (.istore_n 3, 1) := by decide +kernel
theorem dX5_isHinge_15 : decode cX5_isHinge 15 = .ok (.iconst 0, 1) := by decide +kernel
theorem dX5_isHinge_16 : decode cX5_isHinge 16 = .ok (.istore 4, 2) := by decide +kernel
theorem dX5_isHinge_18 : decode cX5_isHinge 18 = .ok (.iload 4, 2) := by decide +kernel
theorem dX5_isHinge_20 : decode cX5_isHinge 20 = .ok (.aload_n 0, 1) := by decide +kernel
theorem dX5_isHinge_21 : decode cX5_isHinge 21 = .ok (.getfield 7, 3) := by decide +kernel
theorem dX5_isHinge_24 : decode cX5_isHinge 24 = .ok (.iconst 0, 1) := by decide +kernel
theorem dX5_isHinge_25 : decode cX5_isHinge 25 = .ok (.iaload, 1) := by decide +kernel
theorem dX5_isHinge_26 : decode cX5_isHinge 26 = .ok (.if_icmp .ge 26, 3) := by decide +kernel
theorem dX5_isHinge_29 : decode cX5_isHinge 29 = .ok (.iload_n 2, 1) := by decide +kernel
theorem dX5_isHinge_30 : decode cX5_isHinge 30 = .ok (.iload 4, 2) := by decide +kernel
theorem dX5_isHinge_32 : decode cX5_isHinge 32 = .ok (.invokestatic 101, 3) := by decide +kernel
theorem dX5_isHinge_35 : decode cX5_isHinge 35 = .ok (.ifCond .eq 11, 3) := by decide +kernel
theorem dX5_isHinge_38 : decode cX5_isHinge 38 = .ok (.iload_n 3, 1) := by decide +kernel
theorem dX5_isHinge_39 : decode cX5_isHinge 39 = .ok (.iconst (-1), 1) := by decide +kernel
theorem dX5_isHinge_40 : decode cX5_isHinge 40 = .ok (.if_icmp .ne 6, 3) := by decide +kernel
theorem dX5_isHinge_43 : decode cX5_isHinge 43 = .ok (.iload 4, 2) := by decide +kernel
theorem dX5_isHinge_45 : decode cX5_isHinge 45 = .ok (.istore_n 3, 1) := by decide +kernel
theorem dX5_isHinge_46 : decode cX5_isHinge 46 = .ok (.iinc 4 1, 3) := by decide +kernel
theorem dX5_isHinge_49 : decode cX5_isHinge 49 = .ok (.goto (-31), 3) := by decide +kernel
theorem dX5_isHinge_52 : decode cX5_isHinge 52 = .ok (.iload_n 3, 1) := by decide +kernel
theorem dX5_isHinge_53 : decode cX5_isHinge 53 = .ok (.iconst (-1), 1) := by decide +kernel
theorem dX5_isHinge_54 : decode cX5_isHinge 54 = .ok (.if_icmp .ne 5, 3) := by decide +kernel
theorem dX5_isHinge_57 : decode cX5_isHinge 57 = .ok (.iconst 0, 1) := by decide +kernel
theorem dX5_isHinge_58 : decode cX5_isHinge 58 = .ok (.ireturn, 1) := by decide +kernel
theorem dX5_isHinge_59 : decode cX5_isHinge 59 = .ok (.aload_n 0, 1) := by decide +kernel
theorem dX5_isHinge_60 : decode cX5_isHinge 60 = .ok (.iload_n 3, 1) := by decide +kernel
theorem dX5_isHinge_61 : decode cX5_isHinge 61 = .ok (.iconst 0, 1) := by decide +kernel
theorem dX5_isHinge_62 : decode cX5_isHinge 62 = .ok (.iconst (-1), 1) := by decide +kernel
theorem dX5_isHinge_63 : decode cX5_isHinge 63 = .ok (.iload_n 1, 1) := by decide +kernel
theorem dX5_isHinge_64 : decode cX5_isHinge 64 = .ok (.invokevirtual 279, 3) := by decide +kernel
theorem dX5_isHinge_67 : decode cX5_isHinge 67 = .ok (.iconst 0, 1) := by decide +kernel
theorem dX5_isHinge_68 : decode cX5_isHinge 68 = .ok (.istore 4, 2) := by decide +kernel
theorem dX5_isHinge_70 : decode cX5_isHinge 70 = .ok (.iload 4, 2) := by decide +kernel
theorem dX5_isHinge_72 : decode cX5_isHinge 72 = .ok (.aload_n 0, 1) := by decide +kernel
theorem dX5_isHinge_73 : decode cX5_isHinge 73 = .ok (.getfield 7, 3) := by decide +kernel
theorem dX5_isHinge_76 : decode cX5_isHinge 76 = .ok (.iconst 0, 1) := by decide +kernel
theorem dX5_isHinge_77 : decode cX5_isHinge 77 = .ok (.iaload, 1) := by decide +kernel
theorem dX5_isHinge_78 : decode cX5_isHinge 78 = .ok (.if_icmp .ge 31, 3) := by decide +kernel
theorem dX5_isHinge_81 : decode cX5_isHinge 81 = .ok (.iload_n 2, 1) := by decide +kernel
theorem dX5_isHinge_82 : decode cX5_isHinge 82 = .ok (.iload 4, 2) := by decide +kernel
theorem dX5_isHinge_84 : decode cX5_isHinge 84 = .ok (.invokestatic 101, 3) := by decide +kernel
theorem dX5_isHinge_87 : decode cX5_isHinge 87 = .ok (.ifCond .eq 16, 3) := by decide +kernel
theorem dX5_isHinge_90 : decode cX5_isHinge 90 = .ok (.aload_n 0, 1) := by decide +kernel
theorem dX5_isHinge_91 : decode cX5_isHinge 91 = .ok (.getfield 39, 3) := by decide +kernel
theorem dX5_isHinge_94 : decode cX5_isHinge 94 = .ok (.iload 4, 2) := by decide +kernel
theorem dX5_isHinge_96 : decode cX5_isHinge 96 = .ok (.iaload, 1) := by decide +kernel
theorem dX5_isHinge_97 : decode cX5_isHinge 97 = .ok (.iconst (-1), 1) := by decide +kernel
theorem dX5_isHinge_98 : decode cX5_isHinge 98 = .ok (.if_icmp .ne 5, 3) := by decide +kernel
theorem dX5_isHinge_101 : decode cX5_isHinge 101 = .ok (.iconst 1, 1) := by decide +kernel
theorem dX5_isHinge_102 : decode cX5_isHinge 102 = .ok (.ireturn, 1) := by decide +kernel
theorem dX5_isHinge_103 : decode cX5_isHinge 103 = .ok (.iinc 4 1, 3) := by decide +kernel
theorem dX5_isHinge_106 : decode cX5_isHinge 106 = .ok (.goto (-36), 3) := by decide +kernel
theorem dX5_isHinge_109 : decode cX5_isHinge 109 = .ok (.iconst 0, 1) := by decide +kernel
theorem dX5_isHinge_110 : decode cX5_isHinge 110 = .ok (.ireturn, 1) := by decide +kernel
theorem dX5_hinges_0 : decode cX5_hinges 0 = .ok (.aload_n 0, 1) := by decide +kernel
theorem dX5_hinges_1 : decode cX5_hinges 1 = .ok (.iconst 0, 1) := by decide +kernel
theorem dX5_hinges_2 : decode cX5_hinges 2 = .ok (.putfield 58, 3) := by decide +kernel
theorem dX5_hinges_5 : decode cX5_hinges 5 = .ok (.iconst 0, 1) := by decide +kernel
theorem dX5_hinges_6 : decode cX5_hinges 6 = .ok (.istore_n 1, 1) := by decide +kernel
theorem dX5_hinges_7 : decode cX5_hinges 7 = .ok (.iconst 0, 1) := by decide +kernel
theorem dX5_hinges_8 : decode cX5_hinges 8 = .ok (.istore_n 2, 1) := by decide +kernel
theorem dX5_hinges_9 : decode cX5_hinges 9 = .ok (.iload_n 2, 1) := by decide +kernel
theorem dX5_hinges_10 : decode cX5_hinges 10 = .ok (.aload_n 0, 1) := by decide +kernel
theorem dX5_hinges_11 : decode cX5_hinges 11 = .ok (.getfield 7, 3) := by decide +kernel
theorem dX5_hinges_14 : decode cX5_hinges 14 = .ok (.iconst 0, 1) := by decide +kernel
theorem dX5_hinges_15 : decode cX5_hinges 15 = .ok (.iaload, 1) := by decide +kernel
theorem dX5_hinges_16 : decode cX5_hinges 16 = .ok (.if_icmp .ge 27, 3) := by decide +kernel
theorem dX5_hinges_19 : decode cX5_hinges 19 = .ok (.iload_n 1, 1) := by decide +kernel
theorem dX5_hinges_20 : decode cX5_hinges 20 = .ok (.aload_n 0, 1) := by decide +kernel
theorem dX5_hinges_21 : decode cX5_hinges 21 = .ok (.iload_n 2, 1) := by decide +kernel
theorem dX5_hinges_22 : decode cX5_hinges 22 = .ok (.invokevirtual 320, 3) := by decide +kernel
theorem dX5_hinges_25 : decode cX5_hinges 25 = .ok (.ifCond .eq 9, 3) := by decide +kernel
theorem dX5_hinges_28 : decode cX5_hinges 28 = .ok (.iconst 1, 1) := by decide +kernel
theorem dX5_hinges_29 : decode cX5_hinges 29 = .ok (.iload_n 2, 1) := by decide +kernel
theorem dX5_hinges_30 : decode cX5_hinges 30 = .ok (.ishl, 1) := by decide +kernel
theorem dX5_hinges_31 : decode cX5_hinges 31 = .ok (.goto 4, 3) := by decide +kernel
theorem dX5_hinges_34 : decode cX5_hinges 34 = .ok (.iconst 0, 1) := by decide +kernel
theorem dX5_hinges_35 : decode cX5_hinges 35 = .ok (.ior, 1) := by decide +kernel
theorem dX5_hinges_36 : decode cX5_hinges 36 = .ok (.istore_n 1, 1) := by decide +kernel
theorem dX5_hinges_37 : decode cX5_hinges 37 = .ok (.iinc 2 1, 3) := by decide +kernel
theorem dX5_hinges_40 : decode cX5_hinges 40 = .ok (.goto (-31), 3) := by decide +kernel
theorem dX5_hinges_43 : decode cX5_hinges 43 = .ok (.iload_n 1, 1) := by decide +kernel
theorem dX5_hinges_44 : decode cX5_hinges 44 = .ok (.ireturn, 1) := by decide +kernel
theorem dX5_carries_0 : decode cX5_carries 0 = .ok (.aload_n 0, 1) := by decide +kernel
theorem dX5_carries_1 : decode cX5_carries 1 = .ok (.iload_n 1, 1) := by decide +kernel
theorem dX5_carries_2 : decode cX5_carries 2 = .ok (.invokevirtual 142, 3) := by decide +kernel
theorem dX5_carries_5 : decode cX5_carries 5 = .ok (.ifCond .eq 12, 3) := by decide +kernel
theorem dX5_carries_8 : decode cX5_carries 8 = .ok (.aload_n 0, 1) := by decide +kernel
theorem dX5_carries_9 : decode cX5_carries 9 = .ok (.iload_n 1, 1) := by decide +kernel
theorem dX5_carries_10 : decode cX5_carries 10 = .ok (.iload_n 2, 1) := by decide +kernel
theorem dX5_carries_11 : decode cX5_carries 11 = .ok (.invokevirtual 273, 3) := by decide +kernel
theorem dX5_carries_14 : decode cX5_carries 14 = .ok (.ifCond .ne 5, 3) := by decide +kernel
theorem dX5_carries_17 : decode cX5_carries 17 = .ok (.iconst 0, 1) := by decide +kernel
theorem dX5_carries_18 : decode cX5_carries 18 = .ok (.ireturn, 1) := by decide +kernel
theorem dX5_carries_19 : decode cX5_carries 19 = .ok (.aload_n 0, 1) := by decide +kernel
theorem dX5_carries_20 : decode cX5_carries 20 = .ok (.iload_n 1, 1) := by decide +kernel
theorem dX5_carries_21 : decode cX5_carries 21 = .ok (.iconst 0, 1) := by decide +kernel
theorem dX5_carries_22 : decode cX5_carries 22 = .ok (.invokevirtual 69, 3) := by decide +kernel
theorem dX5_carries_25 : decode cX5_carries 25 = .ok (.iload_n 2, 1) := by decide +kernel
theorem dX5_carries_26 : decode cX5_carries 26 = .ok (.if_icmp .ne 21, 3) := by decide +kernel
theorem dX5_carries_29 : decode cX5_carries 29 = .ok (.aload_n 0, 1) := by decide +kernel
theorem dX5_carries_30 : decode cX5_carries 30 = .ok (.getfield 45, 3) := by decide +kernel
theorem dX5_carries_33 : decode cX5_carries 33 = .ok (.iload_n 1, 1) := by decide +kernel
theorem dX5_carries_34 : decode cX5_carries 34 = .ok (.iaload, 1) := by decide +kernel
theorem dX5_carries_35 : decode cX5_carries 35 = .ok (.iconst 1, 1) := by decide +kernel
theorem dX5_carries_36 : decode cX5_carries 36 = .ok (.if_icmp .ge 7, 3) := by decide +kernel
theorem dX5_carries_39 : decode cX5_carries 39 = .ok (.iconst 1, 1) := by decide +kernel
theorem dX5_carries_40 : decode cX5_carries 40 = .ok (.goto 22, 3) := by decide +kernel
theorem dX5_carries_43 : decode cX5_carries 43 = .ok (.iconst 0, 1) := by decide +kernel
theorem dX5_carries_44 : decode cX5_carries 44 = .ok (.goto 18, 3) := by decide +kernel
theorem dX5_carries_47 : decode cX5_carries 47 = .ok (.aload_n 0, 1) := by decide +kernel
theorem dX5_carries_48 : decode cX5_carries 48 = .ok (.getfield 45, 3) := by decide +kernel
theorem dX5_carries_51 : decode cX5_carries 51 = .ok (.iload_n 1, 1) := by decide +kernel
theorem dX5_carries_52 : decode cX5_carries 52 = .ok (.iaload, 1) := by decide +kernel
theorem dX5_carries_53 : decode cX5_carries 53 = .ok (.iconst (-1), 1) := by decide +kernel
theorem dX5_carries_54 : decode cX5_carries 54 = .ok (.if_icmp .le 7, 3) := by decide +kernel
theorem dX5_carries_57 : decode cX5_carries 57 = .ok (.iconst 1, 1) := by decide +kernel
theorem dX5_carries_58 : decode cX5_carries 58 = .ok (.goto 4, 3) := by decide +kernel
theorem dX5_carries_61 : decode cX5_carries 61 = .ok (.iconst 0, 1) := by decide +kernel
theorem dX5_carries_62 : decode cX5_carries 62 = .ok (.ireturn, 1) := by decide +kernel
theorem dX5_oneMore_0 : decode cX5_oneMore 0 = .ok (.iconst 0, 1) := by decide +kernel
theorem dX5_oneMore_1 : decode cX5_oneMore 1 = .ok (.istore_n 3, 1) := by decide +kernel
theorem dX5_oneMore_2 : decode cX5_oneMore 2 = .ok (.iload_n 3, 1) := by decide +kernel
theorem dX5_oneMore_3 : decode cX5_oneMore 3 = .ok (.bipush 16, 2) := by decide +kernel
theorem dX5_oneMore_5 : decode cX5_oneMore 5 = .ok (.if_icmp .ge 16, 3) := by decide +kernel
theorem dX5_oneMore_8 : decode cX5_oneMore 8 = .ok (.aload_n 0, 1) := by decide +kernel
theorem dX5_oneMore_9 : decode cX5_oneMore 9 = .ok (.getfield 42, 3) := by decide +kernel
theorem dX5_oneMore_12 : decode cX5_oneMore 12 = .ok (.iload_n 3, 1) := by decide +kernel
theorem dX5_oneMore_13 : decode cX5_oneMore 13 = .ok (.iconst (-1), 1) := by decide +kernel
theorem dX5_oneMore_14 : decode cX5_oneMore 14 = .ok (.iastore, 1) := by decide +kernel
theorem dX5_oneMore_15 : decode cX5_oneMore 15 = .ok (.iinc 3 1, 3) := by decide +kernel
theorem dX5_oneMore_18 : decode cX5_oneMore 18 = .ok (.goto (-16), 3) := by decide +kernel
theorem dX5_oneMore_21 : decode cX5_oneMore 21 = .ok (.aload_n 0, 1) := by decide +kernel
theorem dX5_oneMore_22 : decode cX5_oneMore 22 = .ok (.getfield 42, 3) := by decide +kernel
theorem dX5_oneMore_25 : decode cX5_oneMore 25 = .ok (.iload_n 1, 1) := by decide +kernel
theorem dX5_oneMore_26 : decode cX5_oneMore 26 = .ok (.bipush 60, 2) := by decide +kernel
theorem dX5_oneMore_28 : decode cX5_oneMore 28 = .ok (.iastore, 1) := by decide +kernel
theorem dX5_oneMore_29 : decode cX5_oneMore 29 = .ok (.iconst 1, 1) := by decide +kernel
theorem dX5_oneMore_30 : decode cX5_oneMore 30 = .ok (.istore_n 3, 1) := by decide +kernel
theorem dX5_oneMore_31 : decode cX5_oneMore 31 = .ok (.iload_n 3, 1) := by decide +kernel
theorem dX5_oneMore_32 : decode cX5_oneMore 32 = .ok (.ifCond .eq 94, 3) := by decide +kernel
theorem dX5_oneMore_35 : decode cX5_oneMore 35 = .ok (.aload_n 0, 1) := by decide +kernel
theorem dX5_oneMore_36 : decode cX5_oneMore 36 = .ok (.getfield 42, 3) := by decide +kernel
theorem dX5_oneMore_39 : decode cX5_oneMore 39 = .ok (.iload_n 2, 1) := by decide +kernel
theorem dX5_oneMore_40 : decode cX5_oneMore 40 = .ok (.iaload, 1) := by decide +kernel
theorem dX5_oneMore_41 : decode cX5_oneMore 41 = .ok (.iconst (-1), 1) := by decide +kernel
theorem dX5_oneMore_42 : decode cX5_oneMore 42 = .ok (.if_icmp .ne 84, 3) := by decide +kernel
theorem dX5_oneMore_45 : decode cX5_oneMore 45 = .ok (.iconst 0, 1) := by decide +kernel
theorem dX5_oneMore_46 : decode cX5_oneMore 46 = .ok (.istore_n 3, 1) := by decide +kernel
theorem dX5_oneMore_47 : decode cX5_oneMore 47 = .ok (.iconst 0, 1) := by decide +kernel
theorem dX5_oneMore_48 : decode cX5_oneMore 48 = .ok (.istore 4, 2) := by decide +kernel
theorem dX5_oneMore_50 : decode cX5_oneMore 50 = .ok (.iload 4, 2) := by decide +kernel
theorem dX5_oneMore_52 : decode cX5_oneMore 52 = .ok (.aload_n 0, 1) := by decide +kernel
theorem dX5_oneMore_53 : decode cX5_oneMore 53 = .ok (.getfield 7, 3) := by decide +kernel
theorem dX5_oneMore_56 : decode cX5_oneMore 56 = .ok (.iconst 1, 1) := by decide +kernel
theorem dX5_oneMore_57 : decode cX5_oneMore 57 = .ok (.iaload, 1) := by decide +kernel
theorem dX5_oneMore_58 : decode cX5_oneMore 58 = .ok (.if_icmp .ge 65, 3) := by decide +kernel
theorem dX5_oneMore_61 : decode cX5_oneMore 61 = .ok (.aload_n 0, 1) := by decide +kernel
theorem dX5_oneMore_62 : decode cX5_oneMore 62 = .ok (.iload 4, 2) := by decide +kernel
theorem dX5_oneMore_64 : decode cX5_oneMore 64 = .ok (.aload_n 0, 1) := by decide +kernel
theorem dX5_oneMore_65 : decode cX5_oneMore 65 = .ok (.iload 4, 2) := by decide +kernel
theorem dX5_oneMore_67 : decode cX5_oneMore 67 = .ok (.iconst 0, 1) := by decide +kernel
theorem dX5_oneMore_68 : decode cX5_oneMore 68 = .ok (.invokevirtual 69, 3) := by decide +kernel
theorem dX5_oneMore_71 : decode cX5_oneMore 71 = .ok (.aload_n 0, 1) := by decide +kernel
theorem dX5_oneMore_72 : decode cX5_oneMore 72 = .ok (.iload 4, 2) := by decide +kernel
theorem dX5_oneMore_74 : decode cX5_oneMore 74 = .ok (.iconst 1, 1) := by decide +kernel
theorem dX5_oneMore_75 : decode cX5_oneMore 75 = .ok (.invokevirtual 69, 3) := by decide +kernel
theorem dX5_oneMore_78 : decode cX5_oneMore 78 = .ok (.invokevirtual 323, 3) := by decide +kernel
theorem dX5_oneMore_81 : decode cX5_oneMore 81 = .ok (.ifCond .ne 30, 3) := by decide +kernel
theorem dX5_oneMore_84 : decode cX5_oneMore 84 = .ok (.aload_n 0, 1) := by decide +kernel
theorem dX5_oneMore_85 : decode cX5_oneMore 85 = .ok (.iload 4, 2) := by decide +kernel
theorem dX5_oneMore_87 : decode cX5_oneMore 87 = .ok (.aload_n 0, 1) := by decide +kernel
theorem dX5_oneMore_88 : decode cX5_oneMore 88 = .ok (.iload 4, 2) := by decide +kernel
theorem dX5_oneMore_90 : decode cX5_oneMore 90 = .ok (.iconst 1, 1) := by decide +kernel
theorem dX5_oneMore_91 : decode cX5_oneMore 91 = .ok (.invokevirtual 69, 3) := by decide +kernel
theorem dX5_oneMore_94 : decode cX5_oneMore 94 = .ok (.aload_n 0, 1) := by decide +kernel
theorem dX5_oneMore_95 : decode cX5_oneMore 95 = .ok (.iload 4, 2) := by decide +kernel
theorem dX5_oneMore_97 : decode cX5_oneMore 97 = .ok (.iconst 0, 1) := by decide +kernel
theorem dX5_oneMore_98 : decode cX5_oneMore 98 = .ok (.invokevirtual 69, 3) := by decide +kernel
theorem dX5_oneMore_101 : decode cX5_oneMore 101 = .ok (.invokevirtual 323, 3) := by decide +kernel
theorem dX5_oneMore_104 : decode cX5_oneMore 104 = .ok (.ifCond .ne 7, 3) := by decide +kernel
theorem dX5_oneMore_107 : decode cX5_oneMore 107 = .ok (.iload_n 3, 1) := by decide +kernel
theorem dX5_oneMore_108 : decode cX5_oneMore 108 = .ok (.ifCond .eq 7, 3) := by decide +kernel
theorem dX5_oneMore_111 : decode cX5_oneMore 111 = .ok (.iconst 1, 1) := by decide +kernel
theorem dX5_oneMore_112 : decode cX5_oneMore 112 = .ok (.goto 4, 3) := by decide +kernel
theorem dX5_oneMore_115 : decode cX5_oneMore 115 = .ok (.iconst 0, 1) := by decide +kernel
theorem dX5_oneMore_116 : decode cX5_oneMore 116 = .ok (.istore_n 3, 1) := by decide +kernel
theorem dX5_oneMore_117 : decode cX5_oneMore 117 = .ok (.iinc 4 1, 3) := by decide +kernel
theorem dX5_oneMore_120 : decode cX5_oneMore 120 = .ok (.goto (-70), 3) := by decide +kernel
theorem dX5_oneMore_123 : decode cX5_oneMore 123 = .ok (.goto (-92), 3) := by decide +kernel
theorem dX5_oneMore_126 : decode cX5_oneMore 126 = .ok (.aload_n 0, 1) := by decide +kernel
theorem dX5_oneMore_127 : decode cX5_oneMore 127 = .ok (.getfield 42, 3) := by decide +kernel
theorem dX5_oneMore_130 : decode cX5_oneMore 130 = .ok (.iload_n 2, 1) := by decide +kernel
theorem dX5_oneMore_131 : decode cX5_oneMore 131 = .ok (.iaload, 1) := by decide +kernel
theorem dX5_oneMore_132 : decode cX5_oneMore 132 = .ok (.iconst (-1), 1) := by decide +kernel
theorem dX5_oneMore_133 : decode cX5_oneMore 133 = .ok (.if_icmp .ne 5, 3) := by decide +kernel
theorem dX5_oneMore_136 : decode cX5_oneMore 136 = .ok (.iconst 0, 1) := by decide +kernel
theorem dX5_oneMore_137 : decode cX5_oneMore 137 = .ok (.ireturn, 1) := by decide +kernel
theorem dX5_oneMore_138 : decode cX5_oneMore 138 = .ok (.iload_n 2, 1) := by decide +kernel
theorem dX5_oneMore_139 : decode cX5_oneMore 139 = .ok (.istore 4, 2) := by decide +kernel
theorem dX5_oneMore_141 : decode cX5_oneMore 141 = .ok (.iload 4, 2) := by decide +kernel
theorem dX5_oneMore_143 : decode cX5_oneMore 143 = .ok (.iload_n 1, 1) := by decide +kernel
theorem dX5_oneMore_144 : decode cX5_oneMore 144 = .ok (.if_icmp .eq 78, 3) := by decide +kernel
theorem dX5_oneMore_147 : decode cX5_oneMore 147 = .ok (.aload_n 0, 1) := by decide +kernel
theorem dX5_oneMore_148 : decode cX5_oneMore 148 = .ok (.getfield 42, 3) := by decide +kernel
theorem dX5_oneMore_151 : decode cX5_oneMore 151 = .ok (.iload 4, 2) := by decide +kernel
theorem dX5_oneMore_153 : decode cX5_oneMore 153 = .ok (.iaload, 1) := by decide +kernel
theorem dX5_oneMore_154 : decode cX5_oneMore 154 = .ok (.istore 5, 2) := by decide +kernel
theorem dX5_oneMore_156 : decode cX5_oneMore 156 = .ok (.aload_n 0, 1) := by decide +kernel
theorem dX5_oneMore_157 : decode cX5_oneMore 157 = .ok (.iload 5, 2) := by decide +kernel
theorem dX5_oneMore_159 : decode cX5_oneMore 159 = .ok (.iconst 1, 1) := by decide +kernel
theorem dX5_oneMore_160 : decode cX5_oneMore 160 = .ok (.invokevirtual 69, 3) := by decide +kernel
theorem dX5_oneMore_163 : decode cX5_oneMore 163 = .ok (.iload 4, 2) := by decide +kernel
theorem dX5_oneMore_165 : decode cX5_oneMore 165 = .ok (.if_icmp .ne 7, 3) := by decide +kernel
theorem dX5_oneMore_168 : decode cX5_oneMore 168 = .ok (.iconst 1, 1) := by decide +kernel
theorem dX5_oneMore_169 : decode cX5_oneMore 169 = .ok (.goto 4, 3) := by decide +kernel
theorem dX5_oneMore_172 : decode cX5_oneMore 172 = .ok (.iconst 0, 1) := by decide +kernel
theorem dX5_oneMore_173 : decode cX5_oneMore 173 = .ok (.istore 6, 2) := by decide +kernel
theorem dX5_oneMore_175 : decode cX5_oneMore 175 = .ok (.aload_n 0, 1) := by decide +kernel
theorem dX5_oneMore_176 : decode cX5_oneMore 176 = .ok (.getfield 45, 3) := by decide +kernel
theorem dX5_oneMore_179 : decode cX5_oneMore 179 = .ok (.iload 5, 2) := by decide +kernel
theorem dX5_oneMore_181 : decode cX5_oneMore 181 = .ok (.dup2, 1) := by decide +kernel
theorem dX5_oneMore_182 : decode cX5_oneMore 182 = .ok (.iaload, 1) := by decide +kernel
theorem dX5_oneMore_183 : decode cX5_oneMore 183 = .ok (.iload 6, 2) := by decide +kernel
theorem dX5_oneMore_185 : decode cX5_oneMore 185 = .ok (.ifCond .eq 7, 3) := by decide +kernel
theorem dX5_oneMore_188 : decode cX5_oneMore 188 = .ok (.iconst 1, 1) := by decide +kernel
theorem dX5_oneMore_189 : decode cX5_oneMore 189 = .ok (.goto 4, 3) := by decide +kernel
theorem dX5_oneMore_192 : decode cX5_oneMore 192 = .ok (.iconst (-1), 1) := by decide +kernel
theorem dX5_oneMore_193 : decode cX5_oneMore 193 = .ok (.iadd, 1) := by decide +kernel
theorem dX5_oneMore_194 : decode cX5_oneMore 194 = .ok (.iastore, 1) := by decide +kernel
theorem dX5_oneMore_195 : decode cX5_oneMore 195 = .ok (.iload 6, 2) := by decide +kernel
theorem dX5_oneMore_197 : decode cX5_oneMore 197 = .ok (.ifCond .eq 13, 3) := by decide +kernel
theorem dX5_oneMore_200 : decode cX5_oneMore 200 = .ok (.aload_n 0, 1) := by decide +kernel
theorem dX5_oneMore_201 : decode cX5_oneMore 201 = .ok (.iload 5, 2) := by decide +kernel
theorem dX5_oneMore_203 : decode cX5_oneMore 203 = .ok (.iconst 0, 1) := by decide +kernel
theorem dX5_oneMore_204 : decode cX5_oneMore 204 = .ok (.invokevirtual 69, 3) := by decide +kernel
theorem dX5_oneMore_207 : decode cX5_oneMore 207 = .ok (.goto 10, 3) := by decide +kernel
theorem dX5_oneMore_210 : decode cX5_oneMore 210 = .ok (.aload_n 0, 1) := by decide +kernel
theorem dX5_oneMore_211 : decode cX5_oneMore 211 = .ok (.iload 5, 2) := by decide +kernel
theorem dX5_oneMore_213 : decode cX5_oneMore 213 = .ok (.iconst 1, 1) := by decide +kernel
theorem dX5_oneMore_214 : decode cX5_oneMore 214 = .ok (.invokevirtual 69, 3) := by decide +kernel
theorem dX5_oneMore_217 : decode cX5_oneMore 217 = .ok (.istore 4, 2) := by decide +kernel
theorem dX5_oneMore_219 : decode cX5_oneMore 219 = .ok (.goto (-78), 3) := by decide +kernel
theorem dX5_oneMore_222 : decode cX5_oneMore 222 = .ok (.iconst 1, 1) := by decide +kernel
theorem dX5_oneMore_223 : decode cX5_oneMore 223 = .ok (.ireturn, 1) := by decide +kernel
theorem dX5_comes_0 : decode cX5_comes 0 = .ok (.aload_n 0, 1) := by decide +kernel
theorem dX5_comes_1 : decode cX5_comes 1 = .ok (.getfield 42, 3) := by decide +kernel
theorem dX5_comes_4 : decode cX5_comes 4 = .ok (.iload_n 2, 1) := by decide +kernel
theorem dX5_comes_5 : decode cX5_comes 5 = .ok (.iaload, 1) := by decide +kernel
theorem dX5_comes_6 : decode cX5_comes 6 = .ok (.iconst (-1), 1) := by decide +kernel
theorem dX5_comes_7 : decode cX5_comes 7 = .ok (.if_icmp .eq 22, 3) := by decide +kernel
theorem dX5_comes_10 : decode cX5_comes 10 = .ok (.aload_n 0, 1) := by decide +kernel
theorem dX5_comes_11 : decode cX5_comes 11 = .ok (.getfield 42, 3) := by decide +kernel
theorem dX5_comes_14 : decode cX5_comes 14 = .ok (.iload_n 3, 1) := by decide +kernel
theorem dX5_comes_15 : decode cX5_comes 15 = .ok (.iaload, 1) := by decide +kernel
theorem dX5_comes_16 : decode cX5_comes 16 = .ok (.iconst (-1), 1) := by decide +kernel
theorem dX5_comes_17 : decode cX5_comes 17 = .ok (.if_icmp .ne 12, 3) := by decide +kernel
theorem dX5_comes_20 : decode cX5_comes 20 = .ok (.aload_n 0, 1) := by decide +kernel
theorem dX5_comes_21 : decode cX5_comes 21 = .ok (.iload_n 1, 1) := by decide +kernel
theorem dX5_comes_22 : decode cX5_comes 22 = .ok (.iload_n 2, 1) := by decide +kernel
theorem dX5_comes_23 : decode cX5_comes 23 = .ok (.invokevirtual 326, 3) := by decide +kernel
theorem dX5_comes_26 : decode cX5_comes 26 = .ok (.ifCond .ne 5, 3) := by decide +kernel
theorem dX5_comes_29 : decode cX5_comes 29 = .ok (.iconst 0, 1) := by decide +kernel
theorem dX5_comes_30 : decode cX5_comes 30 = .ok (.ireturn, 1) := by decide +kernel
theorem dX5_comes_31 : decode cX5_comes 31 = .ok (.aload_n 0, 1) := by decide +kernel
theorem dX5_comes_32 : decode cX5_comes 32 = .ok (.getfield 42, 3) := by decide +kernel
theorem dX5_comes_35 : decode cX5_comes 35 = .ok (.iload_n 3, 1) := by decide +kernel
theorem dX5_comes_36 : decode cX5_comes 36 = .ok (.iload_n 1, 1) := by decide +kernel
theorem dX5_comes_37 : decode cX5_comes 37 = .ok (.iastore, 1) := by decide +kernel
theorem dX5_comes_38 : decode cX5_comes 38 = .ok (.iconst 1, 1) := by decide +kernel
theorem dX5_comes_39 : decode cX5_comes 39 = .ok (.ireturn, 1) := by decide +kernel
theorem dX5_cut_0 : decode cX5_cut 0 = .ok (.aload_n 0, 1) := by decide +kernel
theorem dX5_cut_1 : decode cX5_cut 1 = .ok (.aload_n 0, 1) := by decide +kernel
theorem dX5_cut_2 : decode cX5_cut 2 = .ok (.iload_n 1, 1) := by decide +kernel
theorem dX5_cut_3 : decode cX5_cut 3 = .ok (.invokevirtual 105, 3) := by decide +kernel
theorem dX5_cut_6 : decode cX5_cut 6 = .ok (.ifCond .eq 15, 3) := by decide +kernel
theorem dX5_cut_9 : decode cX5_cut 9 = .ok (.aload_n 0, 1) := by decide +kernel
theorem dX5_cut_10 : decode cX5_cut 10 = .ok (.iload_n 2, 1) := by decide +kernel
theorem dX5_cut_11 : decode cX5_cut 11 = .ok (.invokevirtual 105, 3) := by decide +kernel
theorem dX5_cut_14 : decode cX5_cut 14 = .ok (.ifCond .eq 7, 3) := by decide +kernel
theorem dX5_cut_17 : decode cX5_cut 17 = .ok (.iconst 0, 1) := by decide +kernel
theorem dX5_cut_18 : decode cX5_cut 18 = .ok (.goto 4, 3) := by decide +kernel
theorem dX5_cut_21 : decode cX5_cut 21 = .ok (.iconst 1, 1) := by decide +kernel
theorem dX5_cut_22 : decode cX5_cut 22 = .ok (.putfield 58, 3) := by decide +kernel
theorem dX5_cut_25 : decode cX5_cut 25 = .ok (.aload_n 0, 1) := by decide +kernel
theorem dX5_cut_26 : decode cX5_cut 26 = .ok (.getfield 58, 3) := by decide +kernel
theorem dX5_cut_29 : decode cX5_cut 29 = .ok (.ifCond .le 5, 3) := by decide +kernel
theorem dX5_cut_32 : decode cX5_cut 32 = .ok (.iconst 0, 1) := by decide +kernel
theorem dX5_cut_33 : decode cX5_cut 33 = .ok (.ireturn, 1) := by decide +kernel
theorem dX5_cut_34 : decode cX5_cut 34 = .ok (.iload_n 1, 1) := by decide +kernel
theorem dX5_cut_35 : decode cX5_cut 35 = .ok (.iload_n 2, 1) := by decide +kernel
theorem dX5_cut_36 : decode cX5_cut 36 = .ok (.if_icmp .ne 6, 3) := by decide +kernel
theorem dX5_cut_39 : decode cX5_cut 39 = .ok (.bipush 99, 2) := by decide +kernel
theorem dX5_cut_41 : decode cX5_cut 41 = .ok (.ireturn, 1) := by decide +kernel
theorem dX5_cut_42 : decode cX5_cut 42 = .ok (.iconst 0, 1) := by decide +kernel
theorem dX5_cut_43 : decode cX5_cut 43 = .ok (.istore_n 3, 1) := by decide +kernel
theorem dX5_cut_44 : decode cX5_cut 44 = .ok (.iload_n 3, 1) := by decide +kernel
theorem dX5_cut_45 : decode cX5_cut 45 = .ok (.bipush 60, 2) := by decide +kernel
theorem dX5_cut_47 : decode cX5_cut 47 = .ok (.if_icmp .ge 16, 3) := by decide +kernel
theorem dX5_cut_50 : decode cX5_cut 50 = .ok (.aload_n 0, 1) := by decide +kernel
theorem dX5_cut_51 : decode cX5_cut 51 = .ok (.getfield 45, 3) := by decide +kernel
theorem dX5_cut_54 : decode cX5_cut 54 = .ok (.iload_n 3, 1) := by decide +kernel
theorem dX5_cut_55 : decode cX5_cut 55 = .ok (.iconst 0, 1) := by decide +kernel
theorem dX5_cut_56 : decode cX5_cut 56 = .ok (.iastore, 1) := by decide +kernel
theorem dX5_cut_57 : decode cX5_cut 57 = .ok (.iinc 3 1, 3) := by decide +kernel
theorem dX5_cut_60 : decode cX5_cut 60 = .ok (.goto (-16), 3) := by decide +kernel
theorem dX5_cut_63 : decode cX5_cut 63 = .ok (.iconst 0, 1) := by decide +kernel
theorem dX5_cut_64 : decode cX5_cut 64 = .ok (.istore_n 3, 1) := by decide +kernel
theorem dX5_cut_65 : decode cX5_cut 65 = .ok (.aload_n 0, 1) := by decide +kernel
theorem dX5_cut_66 : decode cX5_cut 66 = .ok (.iload_n 1, 1) := by decide +kernel
theorem dX5_cut_67 : decode cX5_cut 67 = .ok (.iload_n 2, 1) := by decide +kernel
theorem dX5_cut_68 : decode cX5_cut 68 = .ok (.invokevirtual 329, 3) := by decide +kernel
theorem dX5_cut_71 : decode cX5_cut 71 = .ok (.ifCond .eq 9, 3) := by decide +kernel
theorem dX5_cut_74 : decode cX5_cut 74 = .ok (.iinc 3 1, 3) := by decide +kernel
theorem dX5_cut_77 : decode cX5_cut 77 = .ok (.goto (-12), 3) := by decide +kernel
theorem dX5_cut_80 : decode cX5_cut 80 = .ok (.iload_n 3, 1) := by decide +kernel
theorem dX5_cut_81 : decode cX5_cut 81 = .ok (.ireturn, 1) := by decide +kernel
theorem dX5_islandOf_0 : decode cX5_islandOf 0 = .ok (.iconst 0, 1) := by decide +kernel
theorem dX5_islandOf_1 : decode cX5_islandOf 1 = .ok (.istore_n 2, 1) := by decide +kernel
theorem dX5_islandOf_2 : decode cX5_islandOf 2 = .ok (.iload_n 2, 1) := by decide +kernel
theorem dX5_islandOf_3 : decode cX5_islandOf 3 = .ok (.aload_n 0, 1) := by decide +kernel
theorem dX5_islandOf_4 : decode cX5_islandOf 4 = .ok (.getfield 7, 3) := by decide +kernel
theorem dX5_islandOf_7 : decode cX5_islandOf 7 = .ok (.iconst 1, 1) := by decide +kernel
theorem dX5_islandOf_8 : decode cX5_islandOf 8 = .ok (.iaload, 1) := by decide +kernel
theorem dX5_islandOf_9 : decode cX5_islandOf 9 = .ok (.if_icmp .ge 36, 3) := by decide +kernel
theorem dX5_islandOf_12 : decode cX5_islandOf 12 = .ok (.aload_n 0, 1) := by decide +kernel
theorem dX5_islandOf_13 : decode cX5_islandOf 13 = .ok (.getfield 45, 3) := by decide +kernel
theorem dX5_islandOf_16 : decode cX5_islandOf 16 = .ok (.iload_n 2, 1) := by decide +kernel
theorem dX5_islandOf_17 : decode cX5_islandOf 17 = .ok (.aload_n 0, 1) := by decide +kernel
theorem dX5_islandOf_18 : decode cX5_islandOf 18 = .ok (.iload_n 2, 1) := by decide +kernel
theorem dX5_islandOf_19 : decode cX5_islandOf 19 = .ok (.invokevirtual 142, 3) := by decide +kernel
theorem dX5_islandOf_22 : decode cX5_islandOf 22 = .ok (.ifCond .eq 15, 3) := by decide +kernel
theorem dX5_islandOf_25 : decode cX5_islandOf 25 = .ok (.aload_n 0, 1) := by decide +kernel
theorem dX5_islandOf_26 : decode cX5_islandOf 26 = .ok (.iload_n 2, 1) := by decide +kernel
theorem dX5_islandOf_27 : decode cX5_islandOf 27 = .ok (.invokevirtual 317, 3) := by decide +kernel
theorem dX5_islandOf_30 : decode cX5_islandOf 30 = .ok (.ifCond .ne 7, 3) := by decide +kernel
theorem dX5_islandOf_33 : decode cX5_islandOf 33 = .ok (.iconst 1, 1) := by decide +kernel
theorem dX5_islandOf_34 : decode cX5_islandOf 34 = .ok (.goto 4, 3) := by decide +kernel
theorem dX5_islandOf_37 : decode cX5_islandOf 37 = .ok (.iconst 0, 1) := by decide +kernel
theorem dX5_islandOf_38 : decode cX5_islandOf 38 = .ok (.iastore, 1) := by decide +kernel
theorem dX5_islandOf_39 : decode cX5_islandOf 39 = .ok (.iinc 2 1, 3) := by decide +kernel
theorem dX5_islandOf_42 : decode cX5_islandOf 42 = .ok (.goto (-40), 3) := by decide +kernel
theorem dX5_islandOf_45 : decode cX5_islandOf 45 = .ok (.iconst 1, 1) := by decide +kernel
theorem dX5_islandOf_46 : decode cX5_islandOf 46 = .ok (.iload_n 1, 1) := by decide +kernel
theorem dX5_islandOf_47 : decode cX5_islandOf 47 = .ok (.ishl, 1) := by decide +kernel
theorem dX5_islandOf_48 : decode cX5_islandOf 48 = .ok (.istore_n 2, 1) := by decide +kernel
theorem dX5_islandOf_49 : decode cX5_islandOf 49 = .ok (.iconst 0, 1) := by decide +kernel
theorem dX5_islandOf_50 : decode cX5_islandOf 50 = .ok (.istore_n 3, 1) := by decide +kernel
theorem dX5_islandOf_51 : decode cX5_islandOf 51 = .ok (.iload_n 3, 1) := by decide +kernel
theorem dX5_islandOf_52 : decode cX5_islandOf 52 = .ok (.iload_n 2, 1) := by decide +kernel
theorem dX5_islandOf_53 : decode cX5_islandOf 53 = .ok (.if_icmp .eq 89, 3) := by decide +kernel
theorem dX5_islandOf_56 : decode cX5_islandOf 56 = .ok (.iload_n 2, 1) := by decide +kernel
theorem dX5_islandOf_57 : decode cX5_islandOf 57 = .ok (.istore_n 3, 1) := by decide +kernel
theorem dX5_islandOf_58 : decode cX5_islandOf 58 = .ok (.iconst 0, 1) := by decide +kernel
theorem dX5_islandOf_59 : decode cX5_islandOf 59 = .ok (.istore 4, 2) := by decide +kernel
theorem dX5_islandOf_61 : decode cX5_islandOf 61 = .ok (.iload 4, 2) := by decide +kernel
theorem dX5_islandOf_63 : decode cX5_islandOf 63 = .ok (.aload_n 0, 1) := by decide +kernel
theorem dX5_islandOf_64 : decode cX5_islandOf 64 = .ok (.getfield 7, 3) := by decide +kernel
theorem dX5_islandOf_67 : decode cX5_islandOf 67 = .ok (.iconst 1, 1) := by decide +kernel
theorem dX5_islandOf_68 : decode cX5_islandOf 68 = .ok (.iaload, 1) := by decide +kernel
theorem dX5_islandOf_69 : decode cX5_islandOf 69 = .ok (.if_icmp .ge 70, 3) := by decide +kernel
theorem dX5_islandOf_72 : decode cX5_islandOf 72 = .ok (.aload_n 0, 1) := by decide +kernel
theorem dX5_islandOf_73 : decode cX5_islandOf 73 = .ok (.getfield 45, 3) := by decide +kernel
theorem dX5_islandOf_76 : decode cX5_islandOf 76 = .ok (.iload 4, 2) := by decide +kernel
theorem dX5_islandOf_78 : decode cX5_islandOf 78 = .ok (.iaload, 1) := by decide +kernel
theorem dX5_islandOf_79 : decode cX5_islandOf 79 = .ok (.iconst 1, 1) := by decide +kernel
theorem dX5_islandOf_80 : decode cX5_islandOf 80 = .ok (.if_icmp .ne 53, 3) := by decide +kernel
theorem dX5_islandOf_83 : decode cX5_islandOf 83 = .ok (.iload_n 2, 1) := by decide +kernel
theorem dX5_islandOf_84 : decode cX5_islandOf 84 = .ok (.aload_n 0, 1) := by decide +kernel
theorem dX5_islandOf_85 : decode cX5_islandOf 85 = .ok (.iload 4, 2) := by decide +kernel
theorem dX5_islandOf_87 : decode cX5_islandOf 87 = .ok (.iconst 0, 1) := by decide +kernel
theorem dX5_islandOf_88 : decode cX5_islandOf 88 = .ok (.invokevirtual 69, 3) := by decide +kernel
theorem dX5_islandOf_91 : decode cX5_islandOf 91 = .ok (.invokestatic 101, 3) := by decide +kernel
theorem dX5_islandOf_94 : decode cX5_islandOf 94 = .ok (.ifCond .ne 17, 3) := by decide +kernel
theorem dX5_islandOf_97 : decode cX5_islandOf 97 = .ok (.iload_n 2, 1) := by decide +kernel
theorem dX5_islandOf_98 : decode cX5_islandOf 98 = .ok (.aload_n 0, 1) := by decide +kernel
theorem dX5_islandOf_99 : decode cX5_islandOf 99 = .ok (.iload 4, 2) := by decide +kernel
theorem dX5_islandOf_101 : decode cX5_islandOf 101 = .ok (.iconst 1, 1) := by decide +kernel
theorem dX5_islandOf_102 : decode cX5_islandOf 102 = .ok (.invokevirtual 69, 3) := by decide +kernel
theorem dX5_islandOf_105 : decode cX5_islandOf 105 = .ok (.invokestatic 101, 3) := by decide +kernel
theorem dX5_islandOf_108 : decode cX5_islandOf 108 = .ok (.ifCond .eq 25, 3) := by decide +kernel
theorem dX5_islandOf_111 : decode cX5_islandOf 111 = .ok (.iload_n 2, 1) := by decide +kernel
theorem dX5_islandOf_112 : decode cX5_islandOf 112 = .ok (.iconst 1, 1) := by decide +kernel
theorem dX5_islandOf_113 : decode cX5_islandOf 113 = .ok (.aload_n 0, 1) := by decide +kernel
theorem dX5_islandOf_114 : decode cX5_islandOf 114 = .ok (.iload 4, 2) := by decide +kernel
theorem dX5_islandOf_116 : decode cX5_islandOf 116 = .ok (.iconst 0, 1) := by decide +kernel
theorem dX5_islandOf_117 : decode cX5_islandOf 117 = .ok (.invokevirtual 69, 3) := by decide +kernel
theorem dX5_islandOf_120 : decode cX5_islandOf 120 = .ok (.ishl, 1) := by decide +kernel
theorem dX5_islandOf_121 : decode cX5_islandOf 121 = .ok (.iconst 1, 1) := by decide +kernel
theorem dX5_islandOf_122 : decode cX5_islandOf 122 = .ok (.aload_n 0, 1) := by decide +kernel
theorem dX5_islandOf_123 : decode cX5_islandOf 123 = .ok (.iload 4, 2) := by decide +kernel
theorem dX5_islandOf_125 : decode cX5_islandOf 125 = .ok (.iconst 1, 1) := by decide +kernel
theorem dX5_islandOf_126 : decode cX5_islandOf 126 = .ok (.invokevirtual 69, 3) := by decide +kernel
theorem dX5_islandOf_129 : decode cX5_islandOf 129 = .ok (.ishl, 1) := by decide +kernel
theorem dX5_islandOf_130 : decode cX5_islandOf 130 = .ok (.ior, 1) := by decide +kernel
theorem dX5_islandOf_131 : decode cX5_islandOf 131 = .ok (.ior, 1) := by decide +kernel
theorem dX5_islandOf_132 : decode cX5_islandOf 132 = .ok (.istore_n 2, 1) := by decide +kernel
theorem dX5_islandOf_133 : decode cX5_islandOf 133 = .ok (.iinc 4 1, 3) := by decide +kernel
theorem dX5_islandOf_136 : decode cX5_islandOf 136 = .ok (.goto (-75), 3) := by decide +kernel
theorem dX5_islandOf_139 : decode cX5_islandOf 139 = .ok (.goto (-88), 3) := by decide +kernel
theorem dX5_islandOf_142 : decode cX5_islandOf 142 = .ok (.iload_n 2, 1) := by decide +kernel
theorem dX5_islandOf_143 : decode cX5_islandOf 143 = .ok (.ireturn, 1) := by decide +kernel
theorem dX5_lossOf_0 : decode cX5_lossOf 0 = .ok (.aload_n 0, 1) := by decide +kernel
theorem dX5_lossOf_1 : decode cX5_lossOf 1 = .ok (.iload_n 1, 1) := by decide +kernel
theorem dX5_lossOf_2 : decode cX5_lossOf 2 = .ok (.invokevirtual 317, 3) := by decide +kernel
theorem dX5_lossOf_5 : decode cX5_lossOf 5 = .ok (.ifCond .ne 5, 3) := by decide +kernel
theorem dX5_lossOf_8 : decode cX5_lossOf 8 = .ok (.iconst 0, 1) := by decide +kernel
theorem dX5_lossOf_9 : decode cX5_lossOf 9 = .ok (.ireturn, 1) := by decide +kernel
theorem dX5_lossOf_10 : decode cX5_lossOf 10 = .ok (.aload_n 0, 1) := by decide +kernel
theorem dX5_lossOf_11 : decode cX5_lossOf 11 = .ok (.aload_n 0, 1) := by decide +kernel
theorem dX5_lossOf_12 : decode cX5_lossOf 12 = .ok (.iload_n 1, 1) := by decide +kernel
theorem dX5_lossOf_13 : decode cX5_lossOf 13 = .ok (.iconst 0, 1) := by decide +kernel
theorem dX5_lossOf_14 : decode cX5_lossOf 14 = .ok (.invokevirtual 69, 3) := by decide +kernel
theorem dX5_lossOf_17 : decode cX5_lossOf 17 = .ok (.iconst 0, 1) := by decide +kernel
theorem dX5_lossOf_18 : decode cX5_lossOf 18 = .ok (.iload_n 1, 1) := by decide +kernel
theorem dX5_lossOf_19 : decode cX5_lossOf 19 = .ok (.iconst (-1), 1) := by decide +kernel
theorem dX5_lossOf_20 : decode cX5_lossOf 20 = .ok (.invokevirtual 279, 3) := by decide +kernel
theorem dX5_lossOf_23 : decode cX5_lossOf 23 = .ok (.iconst 0, 1) := by decide +kernel
theorem dX5_lossOf_24 : decode cX5_lossOf 24 = .ok (.istore_n 2, 1) := by decide +kernel
theorem dX5_lossOf_25 : decode cX5_lossOf 25 = .ok (.iconst 0, 1) := by decide +kernel
theorem dX5_lossOf_26 : decode cX5_lossOf 26 = .ok (.istore_n 3, 1) := by decide +kernel
theorem dX5_lossOf_27 : decode cX5_lossOf 27 = .ok (.iload_n 3, 1) := by decide +kernel
theorem dX5_lossOf_28 : decode cX5_lossOf 28 = .ok (.aload_n 0, 1) := by decide +kernel
theorem dX5_lossOf_29 : decode cX5_lossOf 29 = .ok (.getfield 7, 3) := by decide +kernel
theorem dX5_lossOf_32 : decode cX5_lossOf 32 = .ok (.iconst 0, 1) := by decide +kernel
theorem dX5_lossOf_33 : decode cX5_lossOf 33 = .ok (.iaload, 1) := by decide +kernel
theorem dX5_lossOf_34 : decode cX5_lossOf 34 = .ok (.if_icmp .ge 27, 3) := by decide +kernel
theorem dX5_lossOf_37 : decode cX5_lossOf 37 = .ok (.iload_n 2, 1) := by decide +kernel
theorem dX5_lossOf_38 : decode cX5_lossOf 38 = .ok (.aload_n 0, 1) := by decide +kernel
theorem dX5_lossOf_39 : decode cX5_lossOf 39 = .ok (.getfield 39, 3) := by decide +kernel
theorem dX5_lossOf_42 : decode cX5_lossOf 42 = .ok (.iload_n 3, 1) := by decide +kernel
theorem dX5_lossOf_43 : decode cX5_lossOf 43 = .ok (.iaload, 1) := by decide +kernel
theorem dX5_lossOf_44 : decode cX5_lossOf 44 = .ok (.iconst (-1), 1) := by decide +kernel
theorem dX5_lossOf_45 : decode cX5_lossOf 45 = .ok (.if_icmp .eq 7, 3) := by decide +kernel
theorem dX5_lossOf_48 : decode cX5_lossOf 48 = .ok (.iconst 1, 1) := by decide +kernel
theorem dX5_lossOf_49 : decode cX5_lossOf 49 = .ok (.goto 4, 3) := by decide +kernel
theorem dX5_lossOf_52 : decode cX5_lossOf 52 = .ok (.iconst 0, 1) := by decide +kernel
theorem dX5_lossOf_53 : decode cX5_lossOf 53 = .ok (.iadd, 1) := by decide +kernel
theorem dX5_lossOf_54 : decode cX5_lossOf 54 = .ok (.istore_n 2, 1) := by decide +kernel
theorem dX5_lossOf_55 : decode cX5_lossOf 55 = .ok (.iinc 3 1, 3) := by decide +kernel
theorem dX5_lossOf_58 : decode cX5_lossOf 58 = .ok (.goto (-31), 3) := by decide +kernel
theorem dX5_lossOf_61 : decode cX5_lossOf 61 = .ok (.iload_n 2, 1) := by decide +kernel
theorem dX5_lossOf_62 : decode cX5_lossOf 62 = .ok (.aload_n 0, 1) := by decide +kernel
theorem dX5_lossOf_63 : decode cX5_lossOf 63 = .ok (.iconst 0, 1) := by decide +kernel
theorem dX5_lossOf_64 : decode cX5_lossOf 64 = .ok (.aload_n 0, 1) := by decide +kernel
theorem dX5_lossOf_65 : decode cX5_lossOf 65 = .ok (.iload_n 1, 1) := by decide +kernel
theorem dX5_lossOf_66 : decode cX5_lossOf 66 = .ok (.iconst 0, 1) := by decide +kernel
theorem dX5_lossOf_67 : decode cX5_lossOf 67 = .ok (.invokevirtual 69, 3) := by decide +kernel
theorem dX5_lossOf_70 : decode cX5_lossOf 70 = .ok (.invokevirtual 116, 3) := by decide +kernel
theorem dX5_lossOf_73 : decode cX5_lossOf 73 = .ok (.invokestatic 119, 3) := by decide +kernel
theorem dX5_lossOf_76 : decode cX5_lossOf 76 = .ok (.iload_n 2, 1) := by decide +kernel
theorem dX5_lossOf_77 : decode cX5_lossOf 77 = .ok (.isub, 1) := by decide +kernel
theorem dX5_lossOf_78 : decode cX5_lossOf 78 = .ok (.imul, 1) := by decide +kernel
theorem dX5_lossOf_79 : decode cX5_lossOf 79 = .ok (.ireturn, 1) := by decide +kernel
theorem dX5_key_0 : decode cX5_key 0 = .ok (.iconst (-1), 1) := by decide +kernel
theorem dX5_key_1 : decode cX5_key 1 = .ok (.istore_n 1, 1) := by decide +kernel
theorem dX5_key_2 : decode cX5_key 2 = .ok (.iconst 0, 1) := by decide +kernel
theorem dX5_key_3 : decode cX5_key 3 = .ok (.istore_n 2, 1) := by decide +kernel
theorem dX5_key_4 : decode cX5_key 4 = .ok (.iconst 0, 1) := by decide +kernel
theorem dX5_key_5 : decode cX5_key 5 = .ok (.istore_n 3, 1) := by decide +kernel
theorem dX5_key_6 : decode cX5_key 6 = .ok (.iload_n 3, 1) := by decide +kernel
theorem dX5_key_7 : decode cX5_key 7 = .ok (.aload_n 0, 1) := by decide +kernel
theorem dX5_key_8 : decode cX5_key 8 = .ok (.getfield 7, 3) := by decide +kernel
theorem dX5_key_11 : decode cX5_key 11 = .ok (.iconst 1, 1) := by decide +kernel
theorem dX5_key_12 : decode cX5_key 12 = .ok (.iaload, 1) := by decide +kernel
theorem dX5_key_13 : decode cX5_key 13 = .ok (.if_icmp .ge 30, 3) := by decide +kernel
theorem dX5_key_16 : decode cX5_key 16 = .ok (.aload_n 0, 1) := by decide +kernel
theorem dX5_key_17 : decode cX5_key 17 = .ok (.iload_n 3, 1) := by decide +kernel
theorem dX5_key_18 : decode cX5_key 18 = .ok (.invokevirtual 293, 3) := by decide +kernel
theorem dX5_key_21 : decode cX5_key 21 = .ok (.istore 4, 2) := by decide +kernel
theorem dX5_key_23 : decode cX5_key 23 = .ok (.iload 4, 2) := by decide +kernel
theorem dX5_key_25 : decode cX5_key 25 = .ok (.iload_n 2, 1) := by decide +kernel
theorem dX5_key_26 : decode cX5_key 26 = .ok (.if_icmp .gt 6, 3) := by decide +kernel
theorem dX5_key_29 : decode cX5_key 29 = .ok (.goto 8, 3) := by decide +kernel
theorem dX5_key_32 : decode cX5_key 32 = .ok (.iload_n 3, 1) := by decide +kernel
theorem dX5_key_33 : decode cX5_key 33 = .ok (.istore_n 1, 1) := by decide +kernel
theorem dX5_key_34 : decode cX5_key 34 = .ok (.iload 4, 2) := by decide +kernel
theorem dX5_key_36 : decode cX5_key 36 = .ok (.istore_n 2, 1) := by decide +kernel
theorem dX5_key_37 : decode cX5_key 37 = .ok (.iinc 3 1, 3) := by decide +kernel
theorem dX5_key_40 : decode cX5_key 40 = .ok (.goto (-34), 3) := by decide +kernel
theorem dX5_key_43 : decode cX5_key 43 = .ok (.iload_n 1, 1) := by decide +kernel
theorem dX5_key_44 : decode cX5_key 44 = .ok (.ireturn, 1) := by decide +kernel
theorem dX5_within_0 : decode cX5_within 0 = .ok (.aload_n 0, 1) := by decide +kernel
theorem dX5_within_1 : decode cX5_within 1 = .ok (.aload_n 0, 1) := by decide +kernel
theorem dX5_within_2 : decode cX5_within 2 = .ok (.iload_n 1, 1) := by decide +kernel
theorem dX5_within_3 : decode cX5_within 3 = .ok (.invokevirtual 105, 3) := by decide +kernel
theorem dX5_within_6 : decode cX5_within 6 = .ok (.ifCond .ne 7, 3) := by decide +kernel
theorem dX5_within_9 : decode cX5_within 9 = .ok (.iconst 1, 1) := by decide +kernel
theorem dX5_within_10 : decode cX5_within 10 = .ok (.goto 18, 3) := by decide +kernel
theorem dX5_within_13 : decode cX5_within 13 = .ok (.iload_n 2, 1) := by decide +kernel
theorem dX5_within_14 : decode cX5_within 14 = .ok (.iconst 0, 1) := by decide +kernel
theorem dX5_within_15 : decode cX5_within 15 = .ok (.bipush 16, 2) := by decide +kernel
theorem dX5_within_17 : decode cX5_within 17 = .ok (.invokestatic 61, 3) := by decide +kernel
theorem dX5_within_20 : decode cX5_within 20 = .ok (.ifCond .ne 7, 3) := by decide +kernel
theorem dX5_within_23 : decode cX5_within 23 = .ok (.iconst 2, 1) := by decide +kernel
theorem dX5_within_24 : decode cX5_within 24 = .ok (.goto 4, 3) := by decide +kernel
theorem dX5_within_27 : decode cX5_within 27 = .ok (.iconst 0, 1) := by decide +kernel
theorem dX5_within_28 : decode cX5_within 28 = .ok (.putfield 58, 3) := by decide +kernel
theorem dX5_within_31 : decode cX5_within 31 = .ok (.aload_n 0, 1) := by decide +kernel
theorem dX5_within_32 : decode cX5_within 32 = .ok (.getfield 58, 3) := by decide +kernel
theorem dX5_within_35 : decode cX5_within 35 = .ok (.ifCond .le 5, 3) := by decide +kernel
theorem dX5_within_38 : decode cX5_within 38 = .ok (.iconst 0, 1) := by decide +kernel
theorem dX5_within_39 : decode cX5_within 39 = .ok (.ireturn, 1) := by decide +kernel
theorem dX5_within_40 : decode cX5_within 40 = .ok (.aload_n 0, 1) := by decide +kernel
theorem dX5_within_41 : decode cX5_within 41 = .ok (.iload_n 1, 1) := by decide +kernel
theorem dX5_within_42 : decode cX5_within 42 = .ok (.iconst 0, 1) := by decide +kernel
theorem dX5_within_43 : decode cX5_within 43 = .ok (.iconst (-1), 1) := by decide +kernel
theorem dX5_within_44 : decode cX5_within 44 = .ok (.iconst (-1), 1) := by decide +kernel
theorem dX5_within_45 : decode cX5_within 45 = .ok (.invokevirtual 279, 3) := by decide +kernel
theorem dX5_within_48 : decode cX5_within 48 = .ok (.iconst 0, 1) := by decide +kernel
theorem dX5_within_49 : decode cX5_within 49 = .ok (.istore_n 3, 1) := by decide +kernel
theorem dX5_within_50 : decode cX5_within 50 = .ok (.iconst 0, 1) := by decide +kernel
theorem dX5_within_51 : decode cX5_within 51 = .ok (.istore 4, 2) := by decide +kernel
theorem dX5_within_53 : decode cX5_within 53 = .ok (.iload 4, 2) := by decide +kernel
theorem dX5_within_55 : decode cX5_within 55 = .ok (.aload_n 0, 1) := by decide +kernel
theorem dX5_within_56 : decode cX5_within 56 = .ok (.getfield 7, 3) := by decide +kernel
theorem dX5_within_59 : decode cX5_within 59 = .ok (.iconst 0, 1) := by decide +kernel
theorem dX5_within_60 : decode cX5_within 60 = .ok (.iaload, 1) := by decide +kernel
theorem dX5_within_61 : decode cX5_within 61 = .ok (.if_icmp .ge 35, 3) := by decide +kernel
theorem dX5_within_64 : decode cX5_within 64 = .ok (.iload_n 3, 1) := by decide +kernel
theorem dX5_within_65 : decode cX5_within 65 = .ok (.aload_n 0, 1) := by decide +kernel
theorem dX5_within_66 : decode cX5_within 66 = .ok (.getfield 39, 3) := by decide +kernel
theorem dX5_within_69 : decode cX5_within 69 = .ok (.iload 4, 2) := by decide +kernel
theorem dX5_within_71 : decode cX5_within 71 = .ok (.iaload, 1) := by decide +kernel
theorem dX5_within_72 : decode cX5_within 72 = .ok (.iconst 0, 1) := by decide +kernel
theorem dX5_within_73 : decode cX5_within 73 = .ok (.iload_n 2, 1) := by decide +kernel
theorem dX5_within_74 : decode cX5_within 74 = .ok (.invokestatic 61, 3) := by decide +kernel
theorem dX5_within_77 : decode cX5_within 77 = .ok (.ifCond .eq 10, 3) := by decide +kernel
theorem dX5_within_80 : decode cX5_within 80 = .ok (.iconst 1, 1) := by decide +kernel
theorem dX5_within_81 : decode cX5_within 81 = .ok (.iload 4, 2) := by decide +kernel
theorem dX5_within_83 : decode cX5_within 83 = .ok (.ishl, 1) := by decide +kernel
theorem dX5_within_84 : decode cX5_within 84 = .ok (.goto 4, 3) := by decide +kernel
theorem dX5_within_87 : decode cX5_within 87 = .ok (.iconst 0, 1) := by decide +kernel
theorem dX5_within_88 : decode cX5_within 88 = .ok (.ior, 1) := by decide +kernel
theorem dX5_within_89 : decode cX5_within 89 = .ok (.istore_n 3, 1) := by decide +kernel
theorem dX5_within_90 : decode cX5_within 90 = .ok (.iinc 4 1, 3) := by decide +kernel
theorem dX5_within_93 : decode cX5_within 93 = .ok (.goto (-40), 3) := by decide +kernel
theorem dX5_within_96 : decode cX5_within 96 = .ok (.iload_n 3, 1) := by decide +kernel
theorem dX5_within_97 : decode cX5_within 97 = .ok (.ireturn, 1) := by decide +kernel
theorem dX5_doTie_0 : decode cX5_doTie 0 = .ok (.iconst 1, 1) := by decide +kernel
theorem dX5_doTie_1 : decode cX5_doTie 1 = .ok (.iload_n 3, 1) := by decide +kernel
theorem dX5_doTie_2 : decode cX5_doTie 2 = .ok (.ishl, 1) := by decide +kernel
theorem dX5_doTie_3 : decode cX5_doTie 3 = .ok (.istore 5, 2) := by decide +kernel
theorem dX5_doTie_5 : decode cX5_doTie 5 = .ok (.iconst 0, 1) := by decide +kernel
theorem dX5_doTie_6 : decode cX5_doTie 6 = .ok (.istore 6, 2) := by decide +kernel
theorem dX5_doTie_8 : decode cX5_doTie 8 = .ok (.iload 6, 2) := by decide +kernel
theorem dX5_doTie_10 : decode cX5_doTie 10 = .ok (.iload 5, 2) := by decide +kernel
theorem dX5_doTie_12 : decode cX5_doTie 12 = .ok (.if_icmp .eq 97, 3) := by decide +kernel
theorem dX5_doTie_15 : decode cX5_doTie 15 = .ok (.iload 5, 2) := by decide +kernel
theorem dX5_doTie_17 : decode cX5_doTie 17 = .ok (.istore 6, 2) := by decide +kernel
theorem dX5_doTie_19 : decode cX5_doTie 19 = .ok (.iconst 0, 1) := by decide +kernel
theorem dX5_doTie_20 : decode cX5_doTie 20 = .ok (.istore 7, 2) := by decide +kernel
theorem dX5_doTie_22 : decode cX5_doTie 22 = .ok (.iload 7, 2) := by decide +kernel
theorem dX5_doTie_24 : decode cX5_doTie 24 = .ok (.iload_n 2, 1) := by decide +kernel
theorem dX5_doTie_25 : decode cX5_doTie 25 = .ok (.if_icmp .ge 81, 3) := by decide +kernel
theorem dX5_doTie_28 : decode cX5_doTie 28 = .ok (.aload_n 0, 1) := by decide +kernel
theorem dX5_doTie_29 : decode cX5_doTie 29 = .ok (.getfield 45, 3) := by decide +kernel
theorem dX5_doTie_32 : decode cX5_doTie 32 = .ok (.iload 7, 2) := by decide +kernel
theorem dX5_doTie_34 : decode cX5_doTie 34 = .ok (.iaload, 1) := by decide +kernel
theorem dX5_doTie_35 : decode cX5_doTie 35 = .ok (.istore 8, 2) := by decide +kernel
theorem dX5_doTie_37 : decode cX5_doTie 37 = .ok (.iload_n 1, 1) := by decide +kernel
theorem dX5_doTie_38 : decode cX5_doTie 38 = .ok (.iload 7, 2) := by decide +kernel
theorem dX5_doTie_40 : decode cX5_doTie 40 = .ok (.invokestatic 101, 3) := by decide +kernel
theorem dX5_doTie_43 : decode cX5_doTie 43 = .ok (.ifCond .eq 57, 3) := by decide +kernel
theorem dX5_doTie_46 : decode cX5_doTie 46 = .ok (.iload 5, 2) := by decide +kernel
theorem dX5_doTie_48 : decode cX5_doTie 48 = .ok (.aload_n 0, 1) := by decide +kernel
theorem dX5_doTie_49 : decode cX5_doTie 49 = .ok (.iload 8, 2) := by decide +kernel
theorem dX5_doTie_51 : decode cX5_doTie 51 = .ok (.iconst 0, 1) := by decide +kernel
theorem dX5_doTie_52 : decode cX5_doTie 52 = .ok (.invokevirtual 69, 3) := by decide +kernel
theorem dX5_doTie_55 : decode cX5_doTie 55 = .ok (.invokestatic 101, 3) := by decide +kernel
theorem dX5_doTie_58 : decode cX5_doTie 58 = .ok (.ifCond .ne 18, 3) := by decide +kernel
theorem dX5_doTie_61 : decode cX5_doTie 61 = .ok (.iload 5, 2) := by decide +kernel
theorem dX5_doTie_63 : decode cX5_doTie 63 = .ok (.aload_n 0, 1) := by decide +kernel
theorem dX5_doTie_64 : decode cX5_doTie 64 = .ok (.iload 8, 2) := by decide +kernel
theorem dX5_doTie_66 : decode cX5_doTie 66 = .ok (.iconst 1, 1) := by decide +kernel
theorem dX5_doTie_67 : decode cX5_doTie 67 = .ok (.invokevirtual 69, 3) := by decide +kernel
theorem dX5_doTie_70 : decode cX5_doTie 70 = .ok (.invokestatic 101, 3) := by decide +kernel
theorem dX5_doTie_73 : decode cX5_doTie 73 = .ok (.ifCond .eq 27, 3) := by decide +kernel
theorem dX5_doTie_76 : decode cX5_doTie 76 = .ok (.iload 5, 2) := by decide +kernel
theorem dX5_doTie_78 : decode cX5_doTie 78 = .ok (.iconst 1, 1) := by decide +kernel
theorem dX5_doTie_79 : decode cX5_doTie 79 = .ok (.aload_n 0, 1) := by decide +kernel
theorem dX5_doTie_80 : decode cX5_doTie 80 = .ok (.iload 8, 2) := by decide +kernel
theorem dX5_doTie_82 : decode cX5_doTie 82 = .ok (.iconst 0, 1) := by decide +kernel
theorem dX5_doTie_83 : decode cX5_doTie 83 = .ok (.invokevirtual 69, 3) := by decide +kernel
theorem dX5_doTie_86 : decode cX5_doTie 86 = .ok (.ishl, 1) := by decide +kernel
theorem dX5_doTie_87 : decode cX5_doTie 87 = .ok (.iconst 1, 1) := by decide +kernel
theorem dX5_doTie_88 : decode cX5_doTie 88 = .ok (.aload_n 0, 1) := by decide +kernel
theorem dX5_doTie_89 : decode cX5_doTie 89 = .ok (.iload 8, 2) := by decide +kernel
theorem dX5_doTie_91 : decode cX5_doTie 91 = .ok (.iconst 1, 1) := by decide +kernel
theorem dX5_doTie_92 : decode cX5_doTie 92 = .ok (.invokevirtual 69, 3) := by decide +kernel
theorem dX5_doTie_95 : decode cX5_doTie 95 = .ok (.ishl, 1) := by decide +kernel
theorem dX5_doTie_96 : decode cX5_doTie 96 = .ok (.ior, 1) := by decide +kernel
theorem dX5_doTie_97 : decode cX5_doTie 97 = .ok (.ior, 1) := by decide +kernel
theorem dX5_doTie_98 : decode cX5_doTie 98 = .ok (.istore 5, 2) := by decide +kernel
theorem dX5_doTie_100 : decode cX5_doTie 100 = .ok (.iinc 7 1, 3) := by decide +kernel
theorem dX5_doTie_103 : decode cX5_doTie 103 = .ok (.goto (-81), 3) := by decide +kernel
theorem dX5_doTie_106 : decode cX5_doTie 106 = .ok (.goto (-98), 3) := by decide +kernel
theorem dX5_doTie_109 : decode cX5_doTie 109 = .ok (.iload 5, 2) := by decide +kernel
theorem dX5_doTie_111 : decode cX5_doTie 111 = .ok (.iload 4, 2) := by decide +kernel
theorem dX5_doTie_113 : decode cX5_doTie 113 = .ok (.invokestatic 101, 3) := by decide +kernel
theorem dX5_doTie_116 : decode cX5_doTie 116 = .ok (.ireturn, 1) := by decide +kernel
theorem dX5_odds_0 : decode cX5_odds 0 = .ok (.aload_n 0, 1) := by decide +kernel
theorem dX5_odds_1 : decode cX5_odds 1 = .ok (.aload_n 0, 1) := by decide +kernel
theorem dX5_odds_2 : decode cX5_odds 2 = .ok (.iload_n 1, 1) := by decide +kernel
theorem dX5_odds_3 : decode cX5_odds 3 = .ok (.invokevirtual 105, 3) := by decide +kernel
theorem dX5_odds_6 : decode cX5_odds 6 = .ok (.ifCond .eq 15, 3) := by decide +kernel
theorem dX5_odds_9 : decode cX5_odds 9 = .ok (.aload_n 0, 1) := by decide +kernel
theorem dX5_odds_10 : decode cX5_odds 10 = .ok (.iload_n 2, 1) := by decide +kernel
theorem dX5_odds_11 : decode cX5_odds 11 = .ok (.invokevirtual 105, 3) := by decide +kernel
theorem dX5_odds_14 : decode cX5_odds 14 = .ok (.ifCond .eq 7, 3) := by decide +kernel
theorem dX5_odds_17 : decode cX5_odds 17 = .ok (.iconst 0, 1) := by decide +kernel
theorem dX5_odds_18 : decode cX5_odds 18 = .ok (.goto 4, 3) := by decide +kernel
theorem dX5_odds_21 : decode cX5_odds 21 = .ok (.iconst 1, 1) := by decide +kernel
theorem dX5_odds_22 : decode cX5_odds 22 = .ok (.putfield 58, 3) := by decide +kernel
theorem dX5_odds_25 : decode cX5_odds 25 = .ok (.aload_n 0, 1) := by decide +kernel
theorem dX5_odds_26 : decode cX5_odds 26 = .ok (.getfield 58, 3) := by decide +kernel
theorem dX5_odds_29 : decode cX5_odds 29 = .ok (.ifCond .le 5, 3) := by decide +kernel
theorem dX5_odds_32 : decode cX5_odds 32 = .ok (.iconst 0, 1) := by decide +kernel
theorem dX5_odds_33 : decode cX5_odds 33 = .ok (.ireturn, 1) := by decide +kernel
theorem dX5_odds_34 : decode cX5_odds 34 = .ok (.aload_n 0, 1) := by decide +kernel
theorem dX5_odds_35 : decode cX5_odds 35 = .ok (.invokevirtual 332, 3) := by decide +kernel
theorem dX5_odds_38 : decode cX5_odds 38 = .ok (.istore_n 3, 1) := by decide +kernel
theorem dX5_odds_39 : decode cX5_odds 39 = .ok (.iload_n 3, 1) := by decide +kernel
theorem dX5_odds_40 : decode cX5_odds 40 = .ok (.bipush 12, 2) := by decide +kernel
theorem dX5_odds_42 : decode cX5_odds 42 = .ok (.if_icmp .le 5, 3) := by decide +kernel
theorem dX5_odds_45 : decode cX5_odds 45 = .ok (.iconst (-1), 1) := by decide +kernel
theorem dX5_odds_46 : decode cX5_odds 46 = .ok (.ireturn, 1) := by decide +kernel
theorem dX5_odds_47 : decode cX5_odds 47 = .ok (.iconst 0, 1) := by decide +kernel
theorem dX5_odds_48 : decode cX5_odds 48 = .ok (.istore 4, 2) := by decide +kernel
theorem dX5_odds_50 : decode cX5_odds 50 = .ok (.iconst 0, 1) := by decide +kernel
theorem dX5_odds_51 : decode cX5_odds 51 = .ok (.istore 5, 2) := by decide +kernel
theorem dX5_odds_53 : decode cX5_odds 53 = .ok (.iload 5, 2) := by decide +kernel
theorem dX5_odds_55 : decode cX5_odds 55 = .ok (.aload_n 0, 1) := by decide +kernel
theorem dX5_odds_56 : decode cX5_odds 56 = .ok (.getfield 7, 3) := by decide +kernel
theorem dX5_odds_59 : decode cX5_odds 59 = .ok (.iconst 1, 1) := by decide +kernel
theorem dX5_odds_60 : decode cX5_odds 60 = .ok (.iaload, 1) := by decide +kernel
theorem dX5_odds_61 : decode cX5_odds 61 = .ok (.if_icmp .ge 33, 3) := by decide +kernel
theorem dX5_odds_64 : decode cX5_odds 64 = .ok (.aload_n 0, 1) := by decide +kernel
theorem dX5_odds_65 : decode cX5_odds 65 = .ok (.iload 5, 2) := by decide +kernel
theorem dX5_odds_67 : decode cX5_odds 67 = .ok (.invokevirtual 142, 3) := by decide +kernel
theorem dX5_odds_70 : decode cX5_odds 70 = .ok (.ifCond .ne 6, 3) := by decide +kernel
theorem dX5_odds_73 : decode cX5_odds 73 = .ok (.goto 15, 3) := by decide +kernel
theorem dX5_odds_76 : decode cX5_odds 76 = .ok (.aload_n 0, 1) := by decide +kernel
theorem dX5_odds_77 : decode cX5_odds 77 = .ok (.getfield 45, 3) := by decide +kernel
theorem dX5_odds_80 : decode cX5_odds 80 = .ok (.iload 4, 2) := by decide +kernel
theorem dX5_odds_82 : decode cX5_odds 82 = .ok (.iload 5, 2) := by decide +kernel
theorem dX5_odds_84 : decode cX5_odds 84 = .ok (.iastore, 1) := by decide +kernel
theorem dX5_odds_85 : decode cX5_odds 85 = .ok (.iinc 4 1, 3) := by decide +kernel
theorem dX5_odds_88 : decode cX5_odds 88 = .ok (.iinc 5 1, 3) := by decide +kernel
theorem dX5_odds_91 : decode cX5_odds 91 = .ok (.goto (-38), 3) := by decide +kernel
theorem dX5_odds_94 : decode cX5_odds 94 = .ok (.iconst 0, 1) := by decide +kernel
theorem dX5_odds_95 : decode cX5_odds 95 = .ok (.istore 5, 2) := by decide +kernel
theorem dX5_odds_97 : decode cX5_odds 97 = .ok (.iconst 0, 1) := by decide +kernel
theorem dX5_odds_98 : decode cX5_odds 98 = .ok (.istore 6, 2) := by decide +kernel
theorem dX5_odds_100 : decode cX5_odds 100 = .ok (.iload 6, 2) := by decide +kernel
theorem dX5_odds_102 : decode cX5_odds 102 = .ok (.iconst 1, 1) := by decide +kernel
theorem dX5_odds_103 : decode cX5_odds 103 = .ok (.iload_n 3, 1) := by decide +kernel
theorem dX5_odds_104 : decode cX5_odds 104 = .ok (.ishl, 1) := by decide +kernel
theorem dX5_odds_105 : decode cX5_odds 105 = .ok (.if_icmp .ge 31, 3) := by decide +kernel
theorem dX5_odds_108 : decode cX5_odds 108 = .ok (.iload 5, 2) := by decide +kernel
theorem dX5_odds_110 : decode cX5_odds 110 = .ok (.aload_n 0, 1) := by decide +kernel
theorem dX5_odds_111 : decode cX5_odds 111 = .ok (.iload 6, 2) := by decide +kernel
theorem dX5_odds_113 : decode cX5_odds 113 = .ok (.iload_n 3, 1) := by decide +kernel
theorem dX5_odds_114 : decode cX5_odds 114 = .ok (.iload_n 1, 1) := by decide +kernel
theorem dX5_odds_115 : decode cX5_odds 115 = .ok (.iload_n 2, 1) := by decide +kernel
theorem dX5_odds_116 : decode cX5_odds 116 = .ok (.invokevirtual 335, 3) := by decide +kernel
theorem dX5_odds_119 : decode cX5_odds 119 = .ok (.ifCond .eq 7, 3) := by decide +kernel
theorem dX5_odds_122 : decode cX5_odds 122 = .ok (.iconst 1, 1) := by decide +kernel
theorem dX5_odds_123 : decode cX5_odds 123 = .ok (.goto 4, 3) := by decide +kernel
theorem dX5_odds_126 : decode cX5_odds 126 = .ok (.iconst 0, 1) := by decide +kernel
theorem dX5_odds_127 : decode cX5_odds 127 = .ok (.iadd, 1) := by decide +kernel
theorem dX5_odds_128 : decode cX5_odds 128 = .ok (.istore 5, 2) := by decide +kernel
theorem dX5_odds_130 : decode cX5_odds 130 = .ok (.iinc 6 1, 3) := by decide +kernel
theorem dX5_odds_133 : decode cX5_odds 133 = .ok (.goto (-33), 3) := by decide +kernel
theorem dX5_odds_136 : decode cX5_odds 136 = .ok (.iload 5, 2) := by decide +kernel
theorem dX5_odds_138 : decode cX5_odds 138 = .ok (.ireturn, 1) := by decide +kernel
theorem dX5_cheapest_0 : decode cX5_cheapest 0 = .ok (.iconst 0, 1) := by decide +kernel
theorem dX5_cheapest_1 : decode cX5_cheapest 1 = .ok (.istore_n 1, 1) := by decide +kernel
theorem dX5_cheapest_2 : decode cX5_cheapest 2 = .ok (.iconst 0, 1) := by decide +kernel
theorem dX5_cheapest_3 : decode cX5_cheapest 3 = .ok (.istore_n 2, 1) := by decide +kernel
theorem dX5_cheapest_4 : decode cX5_cheapest 4 = .ok (.iload_n 2, 1) := by decide +kernel
theorem dX5_cheapest_5 : decode cX5_cheapest 5 = .ok (.bipush 16, 2) := by decide +kernel
theorem dX5_cheapest_7 : decode cX5_cheapest 7 = .ok (.if_icmp .ge 16, 3) := by decide +kernel
theorem dX5_cheapest_10 : decode cX5_cheapest 10 = .ok (.aload_n 0, 1) := by decide +kernel
theorem dX5_cheapest_11 : decode cX5_cheapest 11 = .ok (.getfield 42, 3) := by decide +kernel
theorem dX5_cheapest_14 : decode cX5_cheapest 14 = .ok (.iload_n 2, 1) := by decide +kernel
theorem dX5_cheapest_15 : decode cX5_cheapest 15 = .ok (.iload_n 2, 1) := by decide +kernel
theorem dX5_cheapest_16 : decode cX5_cheapest 16 = .ok (.iastore, 1) := by decide +kernel
theorem dX5_cheapest_17 : decode cX5_cheapest 17 = .ok (.iinc 2 1, 3) := by decide +kernel
theorem dX5_cheapest_20 : decode cX5_cheapest 20 = .ok (.goto (-16), 3) := by decide +kernel
theorem dX5_cheapest_23 : decode cX5_cheapest 23 = .ok (.iconst 0, 1) := by decide +kernel
theorem dX5_cheapest_24 : decode cX5_cheapest 24 = .ok (.istore_n 2, 1) := by decide +kernel
theorem dX5_cheapest_25 : decode cX5_cheapest 25 = .ok (.iload_n 2, 1) := by decide +kernel
theorem dX5_cheapest_26 : decode cX5_cheapest 26 = .ok (.bipush 100, 2) := by decide +kernel
theorem dX5_cheapest_28 : decode cX5_cheapest 28 = .ok (.if_icmp .ge 150, 3) := by decide +kernel
theorem dX5_cheapest_31 : decode cX5_cheapest 31 = .ok (.iconst 0, 1) := by decide +kernel
theorem dX5_cheapest_32 : decode cX5_cheapest 32 = .ok (.istore_n 3, 1) := by decide +kernel
theorem dX5_cheapest_33 : decode cX5_cheapest 33 = .ok (.iload_n 3, 1) := by decide +kernel
theorem dX5_cheapest_34 : decode cX5_cheapest 34 = .ok (.aload_n 0, 1) := by decide +kernel
theorem dX5_cheapest_35 : decode cX5_cheapest 35 = .ok (.getfield 7, 3) := by decide +kernel
theorem dX5_cheapest_38 : decode cX5_cheapest 38 = .ok (.iconst 1, 1) := by decide +kernel
theorem dX5_cheapest_39 : decode cX5_cheapest 39 = .ok (.iaload, 1) := by decide +kernel
theorem dX5_cheapest_40 : decode cX5_cheapest 40 = .ok (.if_icmp .ge 132, 3) := by decide +kernel
theorem dX5_cheapest_43 : decode cX5_cheapest 43 = .ok (.aload_n 0, 1) := by decide +kernel
theorem dX5_cheapest_44 : decode cX5_cheapest 44 = .ok (.iload_n 3, 1) := by decide +kernel
theorem dX5_cheapest_45 : decode cX5_cheapest 45 = .ok (.invokevirtual 142, 3) := by decide +kernel
theorem dX5_cheapest_48 : decode cX5_cheapest 48 = .ok (.ifCond .eq 118, 3) := by decide +kernel
theorem dX5_cheapest_51 : decode cX5_cheapest 51 = .ok (.aload_n 0, 1) := by decide +kernel
theorem dX5_cheapest_52 : decode cX5_cheapest 52 = .ok (.iload_n 3, 1) := by decide +kernel
theorem dX5_cheapest_53 : decode cX5_cheapest 53 = .ok (.iconst 5, 1) := by decide +kernel
theorem dX5_cheapest_54 : decode cX5_cheapest 54 = .ok (.invokevirtual 69, 3) := by decide +kernel
theorem dX5_cheapest_57 : decode cX5_cheapest 57 = .ok (.iload_n 2, 1) := by decide +kernel
theorem dX5_cheapest_58 : decode cX5_cheapest 58 = .ok (.if_icmp .ne 108, 3) := by decide +kernel
theorem dX5_cheapest_61 : decode cX5_cheapest 61 = .ok (.aload_n 0, 1) := by decide +kernel
theorem dX5_cheapest_62 : decode cX5_cheapest 62 = .ok (.getfield 42, 3) := by decide +kernel
theorem dX5_cheapest_65 : decode cX5_cheapest 65 = .ok (.aload_n 0, 1) := by decide +kernel
theorem dX5_cheapest_66 : decode cX5_cheapest 66 = .ok (.iload_n 3, 1) := by decide +kernel
theorem dX5_cheapest_67 : decode cX5_cheapest 67 = .ok (.iconst 0, 1) := by decide +kernel
theorem dX5_cheapest_68 : decode cX5_cheapest 68 = .ok (.invokevirtual 69, 3) := by decide +kernel
theorem dX5_cheapest_71 : decode cX5_cheapest 71 = .ok (.iaload, 1) := by decide +kernel
theorem dX5_cheapest_72 : decode cX5_cheapest 72 = .ok (.aload_n 0, 1) := by decide +kernel
theorem dX5_cheapest_73 : decode cX5_cheapest 73 = .ok (.getfield 42, 3) := by decide +kernel
theorem dX5_cheapest_76 : decode cX5_cheapest 76 = .ok (.aload_n 0, 1) := by decide +kernel
theorem dX5_cheapest_77 : decode cX5_cheapest 77 = .ok (.iload_n 3, 1) := by decide +kernel
theorem dX5_cheapest_78 : decode cX5_cheapest 78 = .ok (.iconst 1, 1) := by decide +kernel
theorem dX5_cheapest_79 : decode cX5_cheapest 79 = .ok (.invokevirtual 69, 3) := by decide +kernel
theorem dX5_cheapest_82 : decode cX5_cheapest 82 = .ok (.iaload, 1) := by decide +kernel
theorem dX5_cheapest_83 : decode cX5_cheapest 83 = .ok (.if_icmp .ne 6, 3) := by decide +kernel
theorem dX5_cheapest_86 : decode cX5_cheapest 86 = .ok (.goto 80, 3) := by decide +kernel
theorem dX5_cheapest_89 : decode cX5_cheapest 89 = .ok (.iload_n 1, 1) := by decide +kernel
theorem dX5_cheapest_90 : decode cX5_cheapest 90 = .ok (.iload_n 2, 1) := by decide +kernel
theorem dX5_cheapest_91 : decode cX5_cheapest 91 = .ok (.iadd, 1) := by decide +kernel
theorem dX5_cheapest_92 : decode cX5_cheapest 92 = .ok (.istore_n 1, 1) := by decide +kernel
theorem dX5_cheapest_93 : decode cX5_cheapest 93 = .ok (.aload_n 0, 1) := by decide +kernel
theorem dX5_cheapest_94 : decode cX5_cheapest 94 = .ok (.getfield 42, 3) := by decide +kernel
theorem dX5_cheapest_97 : decode cX5_cheapest 97 = .ok (.aload_n 0, 1) := by decide +kernel
theorem dX5_cheapest_98 : decode cX5_cheapest 98 = .ok (.iload_n 3, 1) := by decide +kernel
theorem dX5_cheapest_99 : decode cX5_cheapest 99 = .ok (.iconst 1, 1) := by decide +kernel
theorem dX5_cheapest_100 : decode cX5_cheapest 100 = .ok (.invokevirtual 69, 3) := by decide +kernel
theorem dX5_cheapest_103 : decode cX5_cheapest 103 = .ok (.iaload, 1) := by decide +kernel
theorem dX5_cheapest_104 : decode cX5_cheapest 104 = .ok (.istore 4, 2) := by decide +kernel
theorem dX5_cheapest_106 : decode cX5_cheapest 106 = .ok (.aload_n 0, 1) := by decide +kernel
theorem dX5_cheapest_107 : decode cX5_cheapest 107 = .ok (.getfield 42, 3) := by decide +kernel
theorem dX5_cheapest_110 : decode cX5_cheapest 110 = .ok (.aload_n 0, 1) := by decide +kernel
theorem dX5_cheapest_111 : decode cX5_cheapest 111 = .ok (.iload_n 3, 1) := by decide +kernel
theorem dX5_cheapest_112 : decode cX5_cheapest 112 = .ok (.iconst 0, 1) := by decide +kernel
theorem dX5_cheapest_113 : decode cX5_cheapest 113 = .ok (.invokevirtual 69, 3) := by decide +kernel
theorem dX5_cheapest_116 : decode cX5_cheapest 116 = .ok (.iaload, 1) := by decide +kernel
theorem dX5_cheapest_117 : decode cX5_cheapest 117 = .ok (.istore 5, 2) := by decide +kernel
theorem dX5_cheapest_119 : decode cX5_cheapest 119 = .ok (.iconst 0, 1) := by decide +kernel
theorem dX5_cheapest_120 : decode cX5_cheapest 120 = .ok (.istore 6, 2) := by decide +kernel
theorem dX5_cheapest_122 : decode cX5_cheapest 122 = .ok (.iload 6, 2) := by decide +kernel
theorem dX5_cheapest_124 : decode cX5_cheapest 124 = .ok (.bipush 16, 2) := by decide +kernel
theorem dX5_cheapest_126 : decode cX5_cheapest 126 = .ok (.if_icmp .ge 40, 3) := by decide +kernel
theorem dX5_cheapest_129 : decode cX5_cheapest 129 = .ok (.aload_n 0, 1) := by decide +kernel
theorem dX5_cheapest_130 : decode cX5_cheapest 130 = .ok (.getfield 42, 3) := by decide +kernel
theorem dX5_cheapest_133 : decode cX5_cheapest 133 = .ok (.iload 6, 2) := by decide +kernel
theorem dX5_cheapest_135 : decode cX5_cheapest 135 = .ok (.aload_n 0, 1) := by decide +kernel
theorem dX5_cheapest_136 : decode cX5_cheapest 136 = .ok (.getfield 42, 3) := by decide +kernel
theorem dX5_cheapest_139 : decode cX5_cheapest 139 = .ok (.iload 6, 2) := by decide +kernel
theorem dX5_cheapest_141 : decode cX5_cheapest 141 = .ok (.iaload, 1) := by decide +kernel
theorem dX5_cheapest_142 : decode cX5_cheapest 142 = .ok (.iload 4, 2) := by decide +kernel
theorem dX5_cheapest_144 : decode cX5_cheapest 144 = .ok (.if_icmp .ne 8, 3) := by decide +kernel
theorem dX5_cheapest_147 : decode cX5_cheapest 147 = .ok (.iload 5, 2) := by decide +kernel
theorem dX5_cheapest_149 : decode cX5_cheapest 149 = .ok (.goto 10, 3) := by decide +kernel
theorem dX5_cheapest_152 : decode cX5_cheapest 152 = .ok (.aload_n 0, 1) := by decide +kernel
theorem dX5_cheapest_153 : decode cX5_cheapest 153 = .ok (.getfield 42, 3) := by decide +kernel
theorem dX5_cheapest_156 : decode cX5_cheapest 156 = .ok (.iload 6, 2) := by decide +kernel
theorem dX5_cheapest_158 : decode cX5_cheapest 158 = .ok (.iaload, 1) := by decide +kernel
theorem dX5_cheapest_159 : decode cX5_cheapest 159 = .ok (.iastore, 1) := by decide +kernel
theorem dX5_cheapest_160 : decode cX5_cheapest 160 = .ok (.iinc 6 1, 3) := by decide +kernel
theorem dX5_cheapest_163 : decode cX5_cheapest 163 = .ok (.goto (-41), 3) := by decide +kernel
theorem dX5_cheapest_166 : decode cX5_cheapest 166 = .ok (.iinc 3 1, 3) := by decide +kernel
theorem dX5_cheapest_169 : decode cX5_cheapest 169 = .ok (.goto (-136), 3) := by decide +kernel
theorem dX5_cheapest_172 : decode cX5_cheapest 172 = .ok (.iinc 2 1, 3) := by decide +kernel
theorem dX5_cheapest_175 : decode cX5_cheapest 175 = .ok (.goto (-150), 3) := by decide +kernel
theorem dX5_cheapest_178 : decode cX5_cheapest 178 = .ok (.iload_n 1, 1) := by decide +kernel
theorem dX5_cheapest_179 : decode cX5_cheapest 179 = .ok (.ireturn, 1) := by decide +kernel
theorem dX5_fare_0 : decode cX5_fare 0 = .ok (.aload_n 0, 1) := by decide +kernel
theorem dX5_fare_1 : decode cX5_fare 1 = .ok (.aload_n 0, 1) := by decide +kernel
theorem dX5_fare_2 : decode cX5_fare 2 = .ok (.iload_n 1, 1) := by decide +kernel
theorem dX5_fare_3 : decode cX5_fare 3 = .ok (.invokevirtual 105, 3) := by decide +kernel
theorem dX5_fare_6 : decode cX5_fare 6 = .ok (.ifCond .eq 15, 3) := by decide +kernel
theorem dX5_fare_9 : decode cX5_fare 9 = .ok (.aload_n 0, 1) := by decide +kernel
theorem dX5_fare_10 : decode cX5_fare 10 = .ok (.iload_n 2, 1) := by decide +kernel
theorem dX5_fare_11 : decode cX5_fare 11 = .ok (.invokevirtual 105, 3) := by decide +kernel
theorem dX5_fare_14 : decode cX5_fare 14 = .ok (.ifCond .eq 7, 3) := by decide +kernel
theorem dX5_fare_17 : decode cX5_fare 17 = .ok (.iconst 0, 1) := by decide +kernel
theorem dX5_fare_18 : decode cX5_fare 18 = .ok (.goto 4, 3) := by decide +kernel
theorem dX5_fare_21 : decode cX5_fare 21 = .ok (.iconst 1, 1) := by decide +kernel
theorem dX5_fare_22 : decode cX5_fare 22 = .ok (.putfield 58, 3) := by decide +kernel
theorem dX5_fare_25 : decode cX5_fare 25 = .ok (.aload_n 0, 1) := by decide +kernel
theorem dX5_fare_26 : decode cX5_fare 26 = .ok (.getfield 58, 3) := by decide +kernel
theorem dX5_fare_29 : decode cX5_fare 29 = .ok (.ifCond .le 5, 3) := by decide +kernel
theorem dX5_fare_32 : decode cX5_fare 32 = .ok (.iconst 0, 1) := by decide +kernel
theorem dX5_fare_33 : decode cX5_fare 33 = .ok (.ireturn, 1) := by decide +kernel
theorem dX5_fare_34 : decode cX5_fare 34 = .ok (.iconst 0, 1) := by decide +kernel
theorem dX5_fare_35 : decode cX5_fare 35 = .ok (.istore_n 3, 1) := by decide +kernel
theorem dX5_fare_36 : decode cX5_fare 36 = .ok (.iload_n 3, 1) := by decide +kernel
theorem dX5_fare_37 : decode cX5_fare 37 = .ok (.bipush 16, 2) := by decide +kernel
theorem dX5_fare_39 : decode cX5_fare 39 = .ok (.if_icmp .ge 25, 3) := by decide +kernel
theorem dX5_fare_42 : decode cX5_fare 42 = .ok (.aload_n 0, 1) := by decide +kernel
theorem dX5_fare_43 : decode cX5_fare 43 = .ok (.getfield 39, 3) := by decide +kernel
theorem dX5_fare_46 : decode cX5_fare 46 = .ok (.iload_n 3, 1) := by decide +kernel
theorem dX5_fare_47 : decode cX5_fare 47 = .ok (.iload_n 3, 1) := by decide +kernel
theorem dX5_fare_48 : decode cX5_fare 48 = .ok (.iload_n 1, 1) := by decide +kernel
theorem dX5_fare_49 : decode cX5_fare 49 = .ok (.if_icmp .ne 7, 3) := by decide +kernel
theorem dX5_fare_52 : decode cX5_fare 52 = .ok (.iconst 0, 1) := by decide +kernel
theorem dX5_fare_53 : decode cX5_fare 53 = .ok (.goto 4, 3) := by decide +kernel
theorem dX5_fare_56 : decode cX5_fare 56 = .ok (.iconst (-1), 1) := by decide +kernel
theorem dX5_fare_57 : decode cX5_fare 57 = .ok (.iastore, 1) := by decide +kernel
theorem dX5_fare_58 : decode cX5_fare 58 = .ok (.iinc 3 1, 3) := by decide +kernel
theorem dX5_fare_61 : decode cX5_fare 61 = .ok (.goto (-25), 3) := by decide +kernel
theorem dX5_fare_64 : decode cX5_fare 64 = .ok (.iconst 0, 1) := by decide +kernel
theorem dX5_fare_65 : decode cX5_fare 65 = .ok (.istore_n 3, 1) := by decide +kernel
theorem dX5_fare_66 : decode cX5_fare 66 = .ok (.iload_n 3, 1) := by decide +kernel
theorem dX5_fare_67 : decode cX5_fare 67 = .ok (.bipush 16, 2) := by decide +kernel
theorem dX5_fare_69 : decode cX5_fare 69 = .ok (.if_icmp .ge 91, 3) := by decide +kernel
theorem dX5_fare_72 : decode cX5_fare 72 = .ok (.iconst 0, 1) := by decide +kernel
theorem dX5_fare_73 : decode cX5_fare 73 = .ok (.istore 4, 2) := by decide +kernel
theorem dX5_fare_75 : decode cX5_fare 75 = .ok (.iload 4, 2) := by decide +kernel
theorem dX5_fare_77 : decode cX5_fare 77 = .ok (.aload_n 0, 1) := by decide +kernel
theorem dX5_fare_78 : decode cX5_fare 78 = .ok (.getfield 7, 3) := by decide +kernel
theorem dX5_fare_81 : decode cX5_fare 81 = .ok (.iconst 1, 1) := by decide +kernel
theorem dX5_fare_82 : decode cX5_fare 82 = .ok (.iaload, 1) := by decide +kernel
theorem dX5_fare_83 : decode cX5_fare 83 = .ok (.if_icmp .ge 71, 3) := by decide +kernel
theorem dX5_fare_86 : decode cX5_fare 86 = .ok (.aload_n 0, 1) := by decide +kernel
theorem dX5_fare_87 : decode cX5_fare 87 = .ok (.iload 4, 2) := by decide +kernel
theorem dX5_fare_89 : decode cX5_fare 89 = .ok (.invokevirtual 142, 3) := by decide +kernel
theorem dX5_fare_92 : decode cX5_fare 92 = .ok (.ifCond .ne 6, 3) := by decide +kernel
theorem dX5_fare_95 : decode cX5_fare 95 = .ok (.goto 53, 3) := by decide +kernel
theorem dX5_fare_98 : decode cX5_fare 98 = .ok (.aload_n 0, 1) := by decide +kernel
theorem dX5_fare_99 : decode cX5_fare 99 = .ok (.aload_n 0, 1) := by decide +kernel
theorem dX5_fare_100 : decode cX5_fare 100 = .ok (.iload 4, 2) := by decide +kernel
theorem dX5_fare_102 : decode cX5_fare 102 = .ok (.iconst 0, 1) := by decide +kernel
theorem dX5_fare_103 : decode cX5_fare 103 = .ok (.invokevirtual 69, 3) := by decide +kernel
theorem dX5_fare_106 : decode cX5_fare 106 = .ok (.aload_n 0, 1) := by decide +kernel
theorem dX5_fare_107 : decode cX5_fare 107 = .ok (.iload 4, 2) := by decide +kernel
theorem dX5_fare_109 : decode cX5_fare 109 = .ok (.iconst 1, 1) := by decide +kernel
theorem dX5_fare_110 : decode cX5_fare 110 = .ok (.invokevirtual 69, 3) := by decide +kernel
theorem dX5_fare_113 : decode cX5_fare 113 = .ok (.aload_n 0, 1) := by decide +kernel
theorem dX5_fare_114 : decode cX5_fare 114 = .ok (.iload 4, 2) := by decide +kernel
theorem dX5_fare_116 : decode cX5_fare 116 = .ok (.iconst 5, 1) := by decide +kernel
theorem dX5_fare_117 : decode cX5_fare 117 = .ok (.invokevirtual 69, 3) := by decide +kernel
theorem dX5_fare_120 : decode cX5_fare 120 = .ok (.invokevirtual 339, 3) := by decide +kernel
theorem dX5_fare_123 : decode cX5_fare 123 = .ok (.aload_n 0, 1) := by decide +kernel
theorem dX5_fare_124 : decode cX5_fare 124 = .ok (.aload_n 0, 1) := by decide +kernel
theorem dX5_fare_125 : decode cX5_fare 125 = .ok (.iload 4, 2) := by decide +kernel
theorem dX5_fare_127 : decode cX5_fare 127 = .ok (.iconst 1, 1) := by decide +kernel
theorem dX5_fare_128 : decode cX5_fare 128 = .ok (.invokevirtual 69, 3) := by decide +kernel
theorem dX5_fare_131 : decode cX5_fare 131 = .ok (.aload_n 0, 1) := by decide +kernel
theorem dX5_fare_132 : decode cX5_fare 132 = .ok (.iload 4, 2) := by decide +kernel
theorem dX5_fare_134 : decode cX5_fare 134 = .ok (.iconst 0, 1) := by decide +kernel
theorem dX5_fare_135 : decode cX5_fare 135 = .ok (.invokevirtual 69, 3) := by decide +kernel
theorem dX5_fare_138 : decode cX5_fare 138 = .ok (.aload_n 0, 1) := by decide +kernel
theorem dX5_fare_139 : decode cX5_fare 139 = .ok (.iload 4, 2) := by decide +kernel
theorem dX5_fare_141 : decode cX5_fare 141 = .ok (.iconst 5, 1) := by decide +kernel
theorem dX5_fare_142 : decode cX5_fare 142 = .ok (.invokevirtual 69, 3) := by decide +kernel
theorem dX5_fare_145 : decode cX5_fare 145 = .ok (.invokevirtual 339, 3) := by decide +kernel
theorem dX5_fare_148 : decode cX5_fare 148 = .ok (.iinc 4 1, 3) := by decide +kernel
theorem dX5_fare_151 : decode cX5_fare 151 = .ok (.goto (-76), 3) := by decide +kernel
theorem dX5_fare_154 : decode cX5_fare 154 = .ok (.iinc 3 1, 3) := by decide +kernel
theorem dX5_fare_157 : decode cX5_fare 157 = .ok (.goto (-91), 3) := by decide +kernel
theorem dX5_fare_160 : decode cX5_fare 160 = .ok (.aload_n 0, 1) := by decide +kernel
theorem dX5_fare_161 : decode cX5_fare 161 = .ok (.getfield 39, 3) := by decide +kernel
theorem dX5_fare_164 : decode cX5_fare 164 = .ok (.iload_n 2, 1) := by decide +kernel
theorem dX5_fare_165 : decode cX5_fare 165 = .ok (.iaload, 1) := by decide +kernel
theorem dX5_fare_166 : decode cX5_fare 166 = .ok (.ireturn, 1) := by decide +kernel
theorem dX5_pays_0 : decode cX5_pays 0 = .ok (.aload_n 0, 1) := by decide +kernel
theorem dX5_pays_1 : decode cX5_pays 1 = .ok (.getfield 39, 3) := by decide +kernel
theorem dX5_pays_4 : decode cX5_pays 4 = .ok (.iload_n 1, 1) := by decide +kernel
theorem dX5_pays_5 : decode cX5_pays 5 = .ok (.iaload, 1) := by decide +kernel
theorem dX5_pays_6 : decode cX5_pays 6 = .ok (.iconst (-1), 1) := by decide +kernel
theorem dX5_pays_7 : decode cX5_pays 7 = .ok (.if_icmp .eq 30, 3) := by decide +kernel
theorem dX5_pays_10 : decode cX5_pays 10 = .ok (.aload_n 0, 1) := by decide +kernel
theorem dX5_pays_11 : decode cX5_pays 11 = .ok (.getfield 39, 3) := by decide +kernel
theorem dX5_pays_14 : decode cX5_pays 14 = .ok (.iload_n 2, 1) := by decide +kernel
theorem dX5_pays_15 : decode cX5_pays 15 = .ok (.iaload, 1) := by decide +kernel
theorem dX5_pays_16 : decode cX5_pays 16 = .ok (.iconst (-1), 1) := by decide +kernel
theorem dX5_pays_17 : decode cX5_pays 17 = .ok (.if_icmp .eq 21, 3) := by decide +kernel
theorem dX5_pays_20 : decode cX5_pays 20 = .ok (.aload_n 0, 1) := by decide +kernel
theorem dX5_pays_21 : decode cX5_pays 21 = .ok (.getfield 39, 3) := by decide +kernel
theorem dX5_pays_24 : decode cX5_pays 24 = .ok (.iload_n 2, 1) := by decide +kernel
theorem dX5_pays_25 : decode cX5_pays 25 = .ok (.iaload, 1) := by decide +kernel
theorem dX5_pays_26 : decode cX5_pays 26 = .ok (.aload_n 0, 1) := by decide +kernel
theorem dX5_pays_27 : decode cX5_pays 27 = .ok (.getfield 39, 3) := by decide +kernel
theorem dX5_pays_30 : decode cX5_pays 30 = .ok (.iload_n 1, 1) := by decide +kernel
theorem dX5_pays_31 : decode cX5_pays 31 = .ok (.iaload, 1) := by decide +kernel
theorem dX5_pays_32 : decode cX5_pays 32 = .ok (.iload_n 3, 1) := by decide +kernel
theorem dX5_pays_33 : decode cX5_pays 33 = .ok (.iadd, 1) := by decide +kernel
theorem dX5_pays_34 : decode cX5_pays 34 = .ok (.if_icmp .gt 4, 3) := by decide +kernel
theorem dX5_pays_37 : decode cX5_pays 37 = .ok (.return_, 1) := by decide +kernel
theorem dX5_pays_38 : decode cX5_pays 38 = .ok (.aload_n 0, 1) := by decide +kernel
theorem dX5_pays_39 : decode cX5_pays 39 = .ok (.getfield 39, 3) := by decide +kernel
theorem dX5_pays_42 : decode cX5_pays 42 = .ok (.iload_n 2, 1) := by decide +kernel
theorem dX5_pays_43 : decode cX5_pays 43 = .ok (.aload_n 0, 1) := by decide +kernel
theorem dX5_pays_44 : decode cX5_pays 44 = .ok (.getfield 39, 3) := by decide +kernel
theorem dX5_pays_47 : decode cX5_pays 47 = .ok (.iload_n 1, 1) := by decide +kernel
theorem dX5_pays_48 : decode cX5_pays 48 = .ok (.iaload, 1) := by decide +kernel
theorem dX5_pays_49 : decode cX5_pays 49 = .ok (.iload_n 3, 1) := by decide +kernel
theorem dX5_pays_50 : decode cX5_pays 50 = .ok (.iadd, 1) := by decide +kernel
theorem dX5_pays_51 : decode cX5_pays 51 = .ok (.iastore, 1) := by decide +kernel
theorem dX5_pays_52 : decode cX5_pays 52 = .ok (.return_, 1) := by decide +kernel
theorem dX5_named_0 : decode cX5_named 0 = .ok (.aload_n 0, 1) := by decide +kernel
theorem dX5_named_1 : decode cX5_named 1 = .ok (.iconst 0, 1) := by decide +kernel
theorem dX5_named_2 : decode cX5_named 2 = .ok (.putfield 58, 3) := by decide +kernel
theorem dX5_named_5 : decode cX5_named 5 = .ok (.iconst 0, 1) := by decide +kernel
theorem dX5_named_6 : decode cX5_named 6 = .ok (.istore_n 2, 1) := by decide +kernel
theorem dX5_named_7 : decode cX5_named 7 = .ok (.iload_n 2, 1) := by decide +kernel
theorem dX5_named_8 : decode cX5_named 8 = .ok (.aload_n 0, 1) := by decide +kernel
theorem dX5_named_9 : decode cX5_named 9 = .ok (.getfield 7, 3) := by decide +kernel
theorem dX5_named_12 : decode cX5_named 12 = .ok (.iconst 0, 1) := by decide +kernel
theorem dX5_named_13 : decode cX5_named 13 = .ok (.iaload, 1) := by decide +kernel
theorem dX5_named_14 : decode cX5_named 14 = .ok (.if_icmp .ge 23, 3) := by decide +kernel
theorem dX5_named_17 : decode cX5_named 17 = .ok (.aload_n 0, 1) := by decide +kernel
theorem dX5_named_18 : decode cX5_named 18 = .ok (.getfield 7, 3) := by decide +kernel
theorem dX5_named_21 : decode cX5_named 21 = .ok (.iconst 4, 1) := by decide +kernel
theorem dX5_named_22 : decode cX5_named 22 = .ok (.iload_n 2, 1) := by decide +kernel
theorem dX5_named_23 : decode cX5_named 23 = .ok (.iadd, 1) := by decide +kernel
theorem dX5_named_24 : decode cX5_named 24 = .ok (.iaload, 1) := by decide +kernel
theorem dX5_named_25 : decode cX5_named 25 = .ok (.iload_n 1, 1) := by decide +kernel
theorem dX5_named_26 : decode cX5_named 26 = .ok (.if_icmp .ne 5, 3) := by decide +kernel
theorem dX5_named_29 : decode cX5_named 29 = .ok (.iload_n 2, 1) := by decide +kernel
theorem dX5_named_30 : decode cX5_named 30 = .ok (.ireturn, 1) := by decide +kernel
theorem dX5_named_31 : decode cX5_named 31 = .ok (.iinc 2 1, 3) := by decide +kernel
theorem dX5_named_34 : decode cX5_named 34 = .ok (.goto (-27), 3) := by decide +kernel
theorem dX5_named_37 : decode cX5_named 37 = .ok (.iconst (-1), 1) := by decide +kernel
theorem dX5_named_38 : decode cX5_named 38 = .ok (.ireturn, 1) := by decide +kernel
theorem dX5_bracketOf_0 : decode cX5_bracketOf 0 = .ok (.aload_n 0, 1) := by decide +kernel
theorem dX5_bracketOf_1 : decode cX5_bracketOf 1 = .ok (.iload_n 1, 1) := by decide +kernel
theorem dX5_bracketOf_2 : decode cX5_bracketOf 2 = .ok (.iload_n 2, 1) := by decide +kernel
theorem dX5_bracketOf_3 : decode cX5_bracketOf 3 = .ok (.invokevirtual 80, 3) := by decide +kernel
theorem dX5_bracketOf_6 : decode cX5_bracketOf 6 = .ok (.istore_n 3, 1) := by decide +kernel
theorem dX5_bracketOf_7 : decode cX5_bracketOf 7 = .ok (.iconst 0, 1) := by decide +kernel
theorem dX5_bracketOf_8 : decode cX5_bracketOf 8 = .ok (.istore 4, 2) := by decide +kernel
theorem dX5_bracketOf_10 : decode cX5_bracketOf 10 = .ok (.iconst 0, 1) := by decide +kernel
theorem dX5_bracketOf_11 : decode cX5_bracketOf 11 = .ok (.istore 5, 2) := by decide +kernel
theorem dX5_bracketOf_13 : decode cX5_bracketOf 13 = .ok (.aload_n 0, 1) := by decide +kernel
theorem dX5_bracketOf_14 : decode cX5_bracketOf 14 = .ok (.getfield 7, 3) := by decide +kernel
theorem dX5_bracketOf_17 : decode cX5_bracketOf 17 = .ok (.iload_n 1, 1) := by decide +kernel
theorem dX5_bracketOf_18 : decode cX5_bracketOf 18 = .ok (.iload_n 3, 1) := by decide +kernel
theorem dX5_bracketOf_19 : decode cX5_bracketOf 19 = .ok (.iload 4, 2) := by decide +kernel
theorem dX5_bracketOf_21 : decode cX5_bracketOf 21 = .ok (.invokestatic 76, 3) := by decide +kernel
theorem dX5_bracketOf_24 : decode cX5_bracketOf 24 = .ok (.iaload, 1) := by decide +kernel
theorem dX5_bracketOf_25 : decode cX5_bracketOf 25 = .ok (.iload_n 2, 1) := by decide +kernel
theorem dX5_bracketOf_26 : decode cX5_bracketOf 26 = .ok (.if_icmp .eq 69, 3) := by decide +kernel
theorem dX5_bracketOf_29 : decode cX5_bracketOf 29 = .ok (.aload_n 0, 1) := by decide +kernel
theorem dX5_bracketOf_30 : decode cX5_bracketOf 30 = .ok (.getfield 7, 3) := by decide +kernel
theorem dX5_bracketOf_33 : decode cX5_bracketOf 33 = .ok (.iload_n 1, 1) := by decide +kernel
theorem dX5_bracketOf_34 : decode cX5_bracketOf 34 = .ok (.iload_n 3, 1) := by decide +kernel
theorem dX5_bracketOf_35 : decode cX5_bracketOf 35 = .ok (.iload 4, 2) := by decide +kernel
theorem dX5_bracketOf_37 : decode cX5_bracketOf 37 = .ok (.invokestatic 76, 3) := by decide +kernel
theorem dX5_bracketOf_40 : decode cX5_bracketOf 40 = .ok (.iaload, 1) := by decide +kernel
theorem dX5_bracketOf_41 : decode cX5_bracketOf 41 = .ok (.istore 6, 2) := by decide +kernel
theorem dX5_bracketOf_43 : decode cX5_bracketOf 43 = .ok (.iload 6, 2) := by decide +kernel
theorem dX5_bracketOf_45 : decode cX5_bracketOf 45 = .ok (.bipush 100, 2) := by decide +kernel
theorem dX5_bracketOf_47 : decode cX5_bracketOf 47 = .ok (.if_icmp .lt 32, 3) := by decide +kernel
theorem dX5_bracketOf_50 : decode cX5_bracketOf 50 = .ok (.aload_n 0, 1) := by decide +kernel
theorem dX5_bracketOf_51 : decode cX5_bracketOf 51 = .ok (.iload_n 1, 1) := by decide +kernel
theorem dX5_bracketOf_52 : decode cX5_bracketOf 52 = .ok (.iload_n 3, 1) := by decide +kernel
theorem dX5_bracketOf_53 : decode cX5_bracketOf 53 = .ok (.iload 4, 2) := by decide +kernel
theorem dX5_bracketOf_55 : decode cX5_bracketOf 55 = .ok (.invokevirtual 305, 3) := by decide +kernel
theorem dX5_bracketOf_58 : decode cX5_bracketOf 58 = .ok (.ifCond .eq 21, 3) := by decide +kernel
theorem dX5_bracketOf_61 : decode cX5_bracketOf 61 = .ok (.aload_n 0, 1) := by decide +kernel
theorem dX5_bracketOf_62 : decode cX5_bracketOf 62 = .ok (.getfield 33, 3) := by decide +kernel
theorem dX5_bracketOf_65 : decode cX5_bracketOf 65 = .ok (.iload 5, 2) := by decide +kernel
theorem dX5_bracketOf_67 : decode cX5_bracketOf 67 = .ok (.iload 6, 2) := by decide +kernel
theorem dX5_bracketOf_69 : decode cX5_bracketOf 69 = .ok (.bipush 100, 2) := by decide +kernel
theorem dX5_bracketOf_71 : decode cX5_bracketOf 71 = .ok (.isub, 1) := by decide +kernel
theorem dX5_bracketOf_72 : decode cX5_bracketOf 72 = .ok (.iastore, 1) := by decide +kernel
theorem dX5_bracketOf_73 : decode cX5_bracketOf 73 = .ok (.iinc 5 1, 3) := by decide +kernel
theorem dX5_bracketOf_76 : decode cX5_bracketOf 76 = .ok (.goto 13, 3) := by decide +kernel
theorem dX5_bracketOf_79 : decode cX5_bracketOf 79 = .ok (.iload 6, 2) := by decide +kernel
theorem dX5_bracketOf_81 : decode cX5_bracketOf 81 = .ok (.bipush 100, 2) := by decide +kernel
theorem dX5_bracketOf_83 : decode cX5_bracketOf 83 = .ok (.if_icmp .lt 6, 3) := by decide +kernel
theorem dX5_bracketOf_86 : decode cX5_bracketOf 86 = .ok (.iinc 5 (-1), 3) := by decide +kernel
theorem dX5_bracketOf_89 : decode cX5_bracketOf 89 = .ok (.iinc 4 1, 3) := by decide +kernel
theorem dX5_bracketOf_92 : decode cX5_bracketOf 92 = .ok (.goto (-79), 3) := by decide +kernel
theorem dX5_bracketOf_95 : decode cX5_bracketOf 95 = .ok (.iload 5, 2) := by decide +kernel
theorem dX5_bracketOf_97 : decode cX5_bracketOf 97 = .ok (.ifCond .ne 7, 3) := by decide +kernel
theorem dX5_bracketOf_100 : decode cX5_bracketOf 100 = .ok (.iconst (-1), 1) := by decide +kernel
theorem dX5_bracketOf_101 : decode cX5_bracketOf 101 = .ok (.goto 12, 3) := by decide +kernel
theorem dX5_bracketOf_104 : decode cX5_bracketOf 104 = .ok (.aload_n 0, 1) := by decide +kernel
theorem dX5_bracketOf_105 : decode cX5_bracketOf 105 = .ok (.getfield 33, 3) := by decide +kernel
theorem dX5_bracketOf_108 : decode cX5_bracketOf 108 = .ok (.iload 5, 2) := by decide +kernel
theorem dX5_bracketOf_110 : decode cX5_bracketOf 110 = .ok (.iconst 1, 1) := by decide +kernel
theorem dX5_bracketOf_111 : decode cX5_bracketOf 111 = .ok (.isub, 1) := by decide +kernel
theorem dX5_bracketOf_112 : decode cX5_bracketOf 112 = .ok (.iaload, 1) := by decide +kernel
theorem dX5_bracketOf_113 : decode cX5_bracketOf 113 = .ok (.ireturn, 1) := by decide +kernel
theorem dX5_aboveOf_0 : decode cX5_aboveOf 0 = .ok (.aload_n 0, 1) := by decide +kernel
theorem dX5_aboveOf_1 : decode cX5_aboveOf 1 = .ok (.iload_n 1, 1) := by decide +kernel
theorem dX5_aboveOf_2 : decode cX5_aboveOf 2 = .ok (.iload_n 2, 1) := by decide +kernel
theorem dX5_aboveOf_3 : decode cX5_aboveOf 3 = .ok (.invokevirtual 342, 3) := by decide +kernel
theorem dX5_aboveOf_6 : decode cX5_aboveOf 6 = .ok (.istore_n 3, 1) := by decide +kernel
theorem dX5_aboveOf_7 : decode cX5_aboveOf 7 = .ok (.iload_n 3, 1) := by decide +kernel
theorem dX5_aboveOf_8 : decode cX5_aboveOf 8 = .ok (.iconst (-1), 1) := by decide +kernel
theorem dX5_aboveOf_9 : decode cX5_aboveOf 9 = .ok (.if_icmp .ne 5, 3) := by decide +kernel
theorem dX5_aboveOf_12 : decode cX5_aboveOf 12 = .ok (.iconst (-1), 1) := by decide +kernel
theorem dX5_aboveOf_13 : decode cX5_aboveOf 13 = .ok (.ireturn, 1) := by decide +kernel
theorem dX5_aboveOf_14 : decode cX5_aboveOf 14 = .ok (.aload_n 0, 1) := by decide +kernel
theorem dX5_aboveOf_15 : decode cX5_aboveOf 15 = .ok (.iload_n 3, 1) := by decide +kernel
theorem dX5_aboveOf_16 : decode cX5_aboveOf 16 = .ok (.iconst 0, 1) := by decide +kernel
theorem dX5_aboveOf_17 : decode cX5_aboveOf 17 = .ok (.invokevirtual 69, 3) := by decide +kernel
theorem dX5_aboveOf_20 : decode cX5_aboveOf 20 = .ok (.iload_n 2, 1) := by decide +kernel
theorem dX5_aboveOf_21 : decode cX5_aboveOf 21 = .ok (.if_icmp .ne 12, 3) := by decide +kernel
theorem dX5_aboveOf_24 : decode cX5_aboveOf 24 = .ok (.aload_n 0, 1) := by decide +kernel
theorem dX5_aboveOf_25 : decode cX5_aboveOf 25 = .ok (.iload_n 3, 1) := by decide +kernel
theorem dX5_aboveOf_26 : decode cX5_aboveOf 26 = .ok (.iconst 1, 1) := by decide +kernel
theorem dX5_aboveOf_27 : decode cX5_aboveOf 27 = .ok (.invokevirtual 69, 3) := by decide +kernel
theorem dX5_aboveOf_30 : decode cX5_aboveOf 30 = .ok (.goto 9, 3) := by decide +kernel
theorem dX5_aboveOf_33 : decode cX5_aboveOf 33 = .ok (.aload_n 0, 1) := by decide +kernel
theorem dX5_aboveOf_34 : decode cX5_aboveOf 34 = .ok (.iload_n 3, 1) := by decide +kernel
theorem dX5_aboveOf_35 : decode cX5_aboveOf 35 = .ok (.iconst 0, 1) := by decide +kernel
theorem dX5_aboveOf_36 : decode cX5_aboveOf 36 = .ok (.invokevirtual 69, 3) := by decide +kernel
theorem dX5_aboveOf_39 : decode cX5_aboveOf 39 = .ok (.ireturn, 1) := by decide +kernel
theorem dX5_isBelow_0 : decode cX5_isBelow 0 = .ok (.iload_n 2, 1) := by decide +kernel
theorem dX5_isBelow_1 : decode cX5_isBelow 1 = .ok (.istore 4, 2) := by decide +kernel
theorem dX5_isBelow_3 : decode cX5_isBelow 3 = .ok (.iload 4, 2) := by decide +kernel
theorem dX5_isBelow_5 : decode cX5_isBelow 5 = .ok (.iconst (-1), 1) := by decide +kernel
theorem dX5_isBelow_6 : decode cX5_isBelow 6 = .ok (.if_icmp .eq 21, 3) := by decide +kernel
theorem dX5_isBelow_9 : decode cX5_isBelow 9 = .ok (.iload 4, 2) := by decide +kernel
theorem dX5_isBelow_11 : decode cX5_isBelow 11 = .ok (.iload_n 3, 1) := by decide +kernel
theorem dX5_isBelow_12 : decode cX5_isBelow 12 = .ok (.if_icmp .eq 15, 3) := by decide +kernel
theorem dX5_isBelow_15 : decode cX5_isBelow 15 = .ok (.aload_n 0, 1) := by decide +kernel
theorem dX5_isBelow_16 : decode cX5_isBelow 16 = .ok (.iload_n 1, 1) := by decide +kernel
theorem dX5_isBelow_17 : decode cX5_isBelow 17 = .ok (.iload 4, 2) := by decide +kernel
theorem dX5_isBelow_19 : decode cX5_isBelow 19 = .ok (.invokevirtual 345, 3) := by decide +kernel
theorem dX5_isBelow_22 : decode cX5_isBelow 22 = .ok (.istore 4, 2) := by decide +kernel
theorem dX5_isBelow_24 : decode cX5_isBelow 24 = .ok (.goto (-21), 3) := by decide +kernel
theorem dX5_isBelow_27 : decode cX5_isBelow 27 = .ok (.iload 4, 2) := by decide +kernel
theorem dX5_isBelow_29 : decode cX5_isBelow 29 = .ok (.iload_n 3, 1) := by decide +kernel
theorem dX5_isBelow_30 : decode cX5_isBelow 30 = .ok (.if_icmp .ne 7, 3) := by decide +kernel
theorem dX5_isBelow_33 : decode cX5_isBelow 33 = .ok (.iconst 1, 1) := by decide +kernel
theorem dX5_isBelow_34 : decode cX5_isBelow 34 = .ok (.goto 4, 3) := by decide +kernel
theorem dX5_isBelow_37 : decode cX5_isBelow 37 = .ok (.iconst 0, 1) := by decide +kernel
theorem dX5_isBelow_38 : decode cX5_isBelow 38 = .ok (.ireturn, 1) := by decide +kernel
theorem dX5_belowOf_0 : decode cX5_belowOf 0 = .ok (.iconst 0, 1) := by decide +kernel
theorem dX5_belowOf_1 : decode cX5_belowOf 1 = .ok (.istore_n 3, 1) := by decide +kernel
theorem dX5_belowOf_2 : decode cX5_belowOf 2 = .ok (.iconst 0, 1) := by decide +kernel
theorem dX5_belowOf_3 : decode cX5_belowOf 3 = .ok (.istore 4, 2) := by decide +kernel
theorem dX5_belowOf_5 : decode cX5_belowOf 5 = .ok (.iload 4, 2) := by decide +kernel
theorem dX5_belowOf_7 : decode cX5_belowOf 7 = .ok (.aload_n 0, 1) := by decide +kernel
theorem dX5_belowOf_8 : decode cX5_belowOf 8 = .ok (.getfield 7, 3) := by decide +kernel
theorem dX5_belowOf_11 : decode cX5_belowOf 11 = .ok (.iconst 0, 1) := by decide +kernel
theorem dX5_belowOf_12 : decode cX5_belowOf 12 = .ok (.iaload, 1) := by decide +kernel
theorem dX5_belowOf_13 : decode cX5_belowOf 13 = .ok (.if_icmp .ge 42, 3) := by decide +kernel
theorem dX5_belowOf_16 : decode cX5_belowOf 16 = .ok (.iload_n 3, 1) := by decide +kernel
theorem dX5_belowOf_17 : decode cX5_belowOf 17 = .ok (.aload_n 0, 1) := by decide +kernel
theorem dX5_belowOf_18 : decode cX5_belowOf 18 = .ok (.iload_n 1, 1) := by decide +kernel
theorem dX5_belowOf_19 : decode cX5_belowOf 19 = .ok (.iload 4, 2) := by decide +kernel
theorem dX5_belowOf_21 : decode cX5_belowOf 21 = .ok (.iload_n 2, 1) := by decide +kernel
theorem dX5_belowOf_22 : decode cX5_belowOf 22 = .ok (.invokevirtual 98, 3) := by decide +kernel
theorem dX5_belowOf_25 : decode cX5_belowOf 25 = .ok (.ifCond .eq 21, 3) := by decide +kernel
theorem dX5_belowOf_28 : decode cX5_belowOf 28 = .ok (.aload_n 0, 1) := by decide +kernel
theorem dX5_belowOf_29 : decode cX5_belowOf 29 = .ok (.iload_n 1, 1) := by decide +kernel
theorem dX5_belowOf_30 : decode cX5_belowOf 30 = .ok (.iload 4, 2) := by decide +kernel
theorem dX5_belowOf_32 : decode cX5_belowOf 32 = .ok (.iload_n 2, 1) := by decide +kernel
theorem dX5_belowOf_33 : decode cX5_belowOf 33 = .ok (.invokevirtual 348, 3) := by decide +kernel
theorem dX5_belowOf_36 : decode cX5_belowOf 36 = .ok (.ifCond .eq 10, 3) := by decide +kernel
theorem dX5_belowOf_39 : decode cX5_belowOf 39 = .ok (.iconst 1, 1) := by decide +kernel
theorem dX5_belowOf_40 : decode cX5_belowOf 40 = .ok (.iload 4, 2) := by decide +kernel
theorem dX5_belowOf_42 : decode cX5_belowOf 42 = .ok (.ishl, 1) := by decide +kernel
theorem dX5_belowOf_43 : decode cX5_belowOf 43 = .ok (.goto 4, 3) := by decide +kernel
theorem dX5_belowOf_46 : decode cX5_belowOf 46 = .ok (.iconst 0, 1) := by decide +kernel
theorem dX5_belowOf_47 : decode cX5_belowOf 47 = .ok (.ior, 1) := by decide +kernel
theorem dX5_belowOf_48 : decode cX5_belowOf 48 = .ok (.istore_n 3, 1) := by decide +kernel
theorem dX5_belowOf_49 : decode cX5_belowOf 49 = .ok (.iinc 4 1, 3) := by decide +kernel
theorem dX5_belowOf_52 : decode cX5_belowOf 52 = .ok (.goto (-47), 3) := by decide +kernel
theorem dX5_belowOf_55 : decode cX5_belowOf 55 = .ok (.iload_n 3, 1) := by decide +kernel
theorem dX5_belowOf_56 : decode cX5_belowOf 56 = .ok (.ireturn, 1) := by decide +kernel
theorem dX5_kin_0 : decode cX5_kin 0 = .ok (.aload_n 0, 1) := by decide +kernel
theorem dX5_kin_1 : decode cX5_kin 1 = .ok (.aload_n 0, 1) := by decide +kernel
theorem dX5_kin_2 : decode cX5_kin 2 = .ok (.iload_n 1, 1) := by decide +kernel
theorem dX5_kin_3 : decode cX5_kin 3 = .ok (.invokevirtual 296, 3) := by decide +kernel
theorem dX5_kin_6 : decode cX5_kin 6 = .ok (.ifCond .eq 11, 3) := by decide +kernel
theorem dX5_kin_9 : decode cX5_kin 9 = .ok (.aload_n 0, 1) := by decide +kernel
theorem dX5_kin_10 : decode cX5_kin 10 = .ok (.iload_n 2, 1) := by decide +kernel
theorem dX5_kin_11 : decode cX5_kin 11 = .ok (.invokevirtual 105, 3) := by decide +kernel
theorem dX5_kin_14 : decode cX5_kin 14 = .ok (.ifCond .ne 7, 3) := by decide +kernel
theorem dX5_kin_17 : decode cX5_kin 17 = .ok (.iconst 1, 1) := by decide +kernel
theorem dX5_kin_18 : decode cX5_kin 18 = .ok (.goto 17, 3) := by decide +kernel
theorem dX5_kin_21 : decode cX5_kin 21 = .ok (.iload_n 3, 1) := by decide +kernel
theorem dX5_kin_22 : decode cX5_kin 22 = .ok (.iconst 0, 1) := by decide +kernel
theorem dX5_kin_23 : decode cX5_kin 23 = .ok (.iconst 1, 1) := by decide +kernel
theorem dX5_kin_24 : decode cX5_kin 24 = .ok (.invokestatic 61, 3) := by decide +kernel
theorem dX5_kin_27 : decode cX5_kin 27 = .ok (.ifCond .ne 7, 3) := by decide +kernel
theorem dX5_kin_30 : decode cX5_kin 30 = .ok (.iconst 2, 1) := by decide +kernel
theorem dX5_kin_31 : decode cX5_kin 31 = .ok (.goto 4, 3) := by decide +kernel
theorem dX5_kin_34 : decode cX5_kin 34 = .ok (.iconst 0, 1) := by decide +kernel
theorem dX5_kin_35 : decode cX5_kin 35 = .ok (.putfield 58, 3) := by decide +kernel
theorem dX5_kin_38 : decode cX5_kin 38 = .ok (.aload_n 0, 1) := by decide +kernel
theorem dX5_kin_39 : decode cX5_kin 39 = .ok (.getfield 58, 3) := by decide +kernel
theorem dX5_kin_42 : decode cX5_kin 42 = .ok (.ifCond .le 5, 3) := by decide +kernel
theorem dX5_kin_45 : decode cX5_kin 45 = .ok (.iconst 0, 1) := by decide +kernel
theorem dX5_kin_46 : decode cX5_kin 46 = .ok (.ireturn, 1) := by decide +kernel
theorem dX5_kin_47 : decode cX5_kin 47 = .ok (.iload_n 3, 1) := by decide +kernel
theorem dX5_kin_48 : decode cX5_kin 48 = .ok (.ifCond .ne 12, 3) := by decide +kernel
theorem dX5_kin_51 : decode cX5_kin 51 = .ok (.aload_n 0, 1) := by decide +kernel
theorem dX5_kin_52 : decode cX5_kin 52 = .ok (.iload_n 1, 1) := by decide +kernel
theorem dX5_kin_53 : decode cX5_kin 53 = .ok (.iload_n 2, 1) := by decide +kernel
theorem dX5_kin_54 : decode cX5_kin 54 = .ok (.invokevirtual 345, 3) := by decide +kernel
theorem dX5_kin_57 : decode cX5_kin 57 = .ok (.goto 9, 3) := by decide +kernel
theorem dX5_kin_60 : decode cX5_kin 60 = .ok (.aload_n 0, 1) := by decide +kernel
theorem dX5_kin_61 : decode cX5_kin 61 = .ok (.iload_n 1, 1) := by decide +kernel
theorem dX5_kin_62 : decode cX5_kin 62 = .ok (.iload_n 2, 1) := by decide +kernel
theorem dX5_kin_63 : decode cX5_kin 63 = .ok (.invokevirtual 351, 3) := by decide +kernel
theorem dX5_kin_66 : decode cX5_kin 66 = .ok (.ireturn, 1) := by decide +kernel
theorem dX5_meet_0 : decode cX5_meet 0 = .ok (.aload_n 0, 1) := by decide +kernel
theorem dX5_meet_1 : decode cX5_meet 1 = .ok (.aload_n 0, 1) := by decide +kernel
theorem dX5_meet_2 : decode cX5_meet 2 = .ok (.iload_n 1, 1) := by decide +kernel
theorem dX5_meet_3 : decode cX5_meet 3 = .ok (.invokevirtual 296, 3) := by decide +kernel
theorem dX5_meet_6 : decode cX5_meet 6 = .ok (.ifCond .eq 23, 3) := by decide +kernel
theorem dX5_meet_9 : decode cX5_meet 9 = .ok (.aload_n 0, 1) := by decide +kernel
theorem dX5_meet_10 : decode cX5_meet 10 = .ok (.iload_n 2, 1) := by decide +kernel
theorem dX5_meet_11 : decode cX5_meet 11 = .ok (.invokevirtual 105, 3) := by decide +kernel
theorem dX5_meet_14 : decode cX5_meet 14 = .ok (.ifCond .eq 15, 3) := by decide +kernel
theorem dX5_meet_17 : decode cX5_meet 17 = .ok (.aload_n 0, 1) := by decide +kernel
theorem dX5_meet_18 : decode cX5_meet 18 = .ok (.iload_n 3, 1) := by decide +kernel
theorem dX5_meet_19 : decode cX5_meet 19 = .ok (.invokevirtual 105, 3) := by decide +kernel
theorem dX5_meet_22 : decode cX5_meet 22 = .ok (.ifCond .eq 7, 3) := by decide +kernel
theorem dX5_meet_25 : decode cX5_meet 25 = .ok (.iconst 0, 1) := by decide +kernel
theorem dX5_meet_26 : decode cX5_meet 26 = .ok (.goto 4, 3) := by decide +kernel
theorem dX5_meet_29 : decode cX5_meet 29 = .ok (.iconst 1, 1) := by decide +kernel
theorem dX5_meet_30 : decode cX5_meet 30 = .ok (.putfield 58, 3) := by decide +kernel
theorem dX5_meet_33 : decode cX5_meet 33 = .ok (.aload_n 0, 1) := by decide +kernel
theorem dX5_meet_34 : decode cX5_meet 34 = .ok (.getfield 58, 3) := by decide +kernel
theorem dX5_meet_37 : decode cX5_meet 37 = .ok (.ifCond .le 5, 3) := by decide +kernel
theorem dX5_meet_40 : decode cX5_meet 40 = .ok (.iconst 0, 1) := by decide +kernel
theorem dX5_meet_41 : decode cX5_meet 41 = .ok (.ireturn, 1) := by decide +kernel
theorem dX5_meet_42 : decode cX5_meet 42 = .ok (.iload_n 2, 1) := by decide +kernel
theorem dX5_meet_43 : decode cX5_meet 43 = .ok (.istore 4, 2) := by decide +kernel
theorem dX5_meet_45 : decode cX5_meet 45 = .ok (.iload 4, 2) := by decide +kernel
theorem dX5_meet_47 : decode cX5_meet 47 = .ok (.iconst (-1), 1) := by decide +kernel
theorem dX5_meet_48 : decode cX5_meet 48 = .ok (.if_icmp .eq 26, 3) := by decide +kernel
theorem dX5_meet_51 : decode cX5_meet 51 = .ok (.aload_n 0, 1) := by decide +kernel
theorem dX5_meet_52 : decode cX5_meet 52 = .ok (.iload_n 1, 1) := by decide +kernel
theorem dX5_meet_53 : decode cX5_meet 53 = .ok (.iload_n 3, 1) := by decide +kernel
theorem dX5_meet_54 : decode cX5_meet 54 = .ok (.iload 4, 2) := by decide +kernel
theorem dX5_meet_56 : decode cX5_meet 56 = .ok (.invokevirtual 348, 3) := by decide +kernel
theorem dX5_meet_59 : decode cX5_meet 59 = .ok (.ifCond .ne 15, 3) := by decide +kernel
theorem dX5_meet_62 : decode cX5_meet 62 = .ok (.aload_n 0, 1) := by decide +kernel
theorem dX5_meet_63 : decode cX5_meet 63 = .ok (.iload_n 1, 1) := by decide +kernel
theorem dX5_meet_64 : decode cX5_meet 64 = .ok (.iload 4, 2) := by decide +kernel
theorem dX5_meet_66 : decode cX5_meet 66 = .ok (.invokevirtual 345, 3) := by decide +kernel
theorem dX5_meet_69 : decode cX5_meet 69 = .ok (.istore 4, 2) := by decide +kernel
theorem dX5_meet_71 : decode cX5_meet 71 = .ok (.goto (-26), 3) := by decide +kernel
theorem dX5_meet_74 : decode cX5_meet 74 = .ok (.iload 4, 2) := by decide +kernel
theorem dX5_meet_76 : decode cX5_meet 76 = .ok (.ireturn, 1) := by decide +kernel
theorem dX5_log_0 : decode cX5_log 0 = .ok (.aload_n 0, 1) := by decide +kernel
theorem dX5_log_1 : decode cX5_log 1 = .ok (.iload_n 2, 1) := by decide +kernel
theorem dX5_log_2 : decode cX5_log 2 = .ok (.iconst 0, 1) := by decide +kernel
theorem dX5_log_3 : decode cX5_log 3 = .ok (.iconst 2, 1) := by decide +kernel
theorem dX5_log_4 : decode cX5_log 4 = .ok (.invokestatic 61, 3) := by decide +kernel
theorem dX5_log_7 : decode cX5_log 7 = .ok (.ifCond .eq 7, 3) := by decide +kernel
theorem dX5_log_10 : decode cX5_log 10 = .ok (.iconst 0, 1) := by decide +kernel
theorem dX5_log_11 : decode cX5_log 11 = .ok (.goto 4, 3) := by decide +kernel
theorem dX5_log_14 : decode cX5_log 14 = .ok (.iconst 1, 1) := by decide +kernel
theorem dX5_log_15 : decode cX5_log 15 = .ok (.putfield 58, 3) := by decide +kernel
theorem dX5_log_18 : decode cX5_log 18 = .ok (.aload_n 0, 1) := by decide +kernel
theorem dX5_log_19 : decode cX5_log 19 = .ok (.getfield 58, 3) := by decide +kernel
theorem dX5_log_22 : decode cX5_log 22 = .ok (.ifCond .le 5, 3) := by decide +kernel
theorem dX5_log_25 : decode cX5_log 25 = .ok (.iconst 0, 1) := by decide +kernel
theorem dX5_log_26 : decode cX5_log 26 = .ok (.ireturn, 1) := by decide +kernel
theorem dX5_log_27 : decode cX5_log 27 = .ok (.iload_n 1, 1) := by decide +kernel
theorem dX5_log_28 : decode cX5_log 28 = .ok (.iconst 0, 1) := by decide +kernel
theorem dX5_log_29 : decode cX5_log 29 = .ok (.aload_n 0, 1) := by decide +kernel
theorem dX5_log_30 : decode cX5_log 30 = .ok (.getfield 7, 3) := by decide +kernel
theorem dX5_log_33 : decode cX5_log 33 = .ok (.sipush 4340, 3) := by decide +kernel
theorem dX5_log_36 : decode cX5_log 36 = .ok (.iaload, 1) := by decide +kernel
theorem dX5_log_37 : decode cX5_log 37 = .ok (.iconst 1, 1) := by decide +kernel
theorem dX5_log_38 : decode cX5_log 38 = .ok (.isub, 1) := by decide +kernel
theorem dX5_log_39 : decode cX5_log 39 = .ok (.invokestatic 61, 3) := by decide +kernel
theorem dX5_log_42 : decode cX5_log 42 = .ok (.ifCond .eq 20, 3) := by decide +kernel
theorem dX5_log_45 : decode cX5_log 45 = .ok (.aload_n 0, 1) := by decide +kernel
theorem dX5_log_46 : decode cX5_log 46 = .ok (.getfield 7, 3) := by decide +kernel
theorem dX5_log_49 : decode cX5_log 49 = .ok (.sipush 4220, 3) := by decide +kernel
theorem dX5_log_52 : decode cX5_log 52 = .ok (.iconst 3, 1) := by decide +kernel
theorem dX5_log_53 : decode cX5_log 53 = .ok (.iload_n 1, 1) := by decide +kernel
theorem dX5_log_54 : decode cX5_log 54 = .ok (.imul, 1) := by decide +kernel
theorem dX5_log_55 : decode cX5_log 55 = .ok (.iadd, 1) := by decide +kernel
theorem dX5_log_56 : decode cX5_log 56 = .ok (.iload_n 2, 1) := by decide +kernel
theorem dX5_log_57 : decode cX5_log 57 = .ok (.iadd, 1) := by decide +kernel
theorem dX5_log_58 : decode cX5_log 58 = .ok (.iaload, 1) := by decide +kernel
theorem dX5_log_59 : decode cX5_log 59 = .ok (.goto 4, 3) := by decide +kernel
theorem dX5_log_62 : decode cX5_log 62 = .ok (.iconst (-1), 1) := by decide +kernel
theorem dX5_log_63 : decode cX5_log 63 = .ok (.ireturn, 1) := by decide +kernel
theorem dX5_image_0 : decode cX5_image 0 = .ok (.aload_n 0, 1) := by decide +kernel
theorem dX5_image_1 : decode cX5_image 1 = .ok (.iconst 0, 1) := by decide +kernel
theorem dX5_image_2 : decode cX5_image 2 = .ok (.putfield 58, 3) := by decide +kernel
theorem dX5_image_5 : decode cX5_image 5 = .ok (.iconst 0, 1) := by decide +kernel
theorem dX5_image_6 : decode cX5_image 6 = .ok (.istore_n 1, 1) := by decide +kernel
theorem dX5_image_7 : decode cX5_image 7 = .ok (.iload_n 1, 1) := by decide +kernel
theorem dX5_image_8 : decode cX5_image 8 = .ok (.sipush 4341, 3) := by decide +kernel
theorem dX5_image_11 : decode cX5_image 11 = .ok (.if_icmp .ge 21, 3) := by decide +kernel
theorem dX5_image_14 : decode cX5_image 14 = .ok (.aload_n 0, 1) := by decide +kernel
theorem dX5_image_15 : decode cX5_image 15 = .ok (.getfield 19, 3) := by decide +kernel
theorem dX5_image_18 : decode cX5_image 18 = .ok (.iload_n 1, 1) := by decide +kernel
theorem dX5_image_19 : decode cX5_image 19 = .ok (.aload_n 0, 1) := by decide +kernel
theorem dX5_image_20 : decode cX5_image 20 = .ok (.getfield 7, 3) := by decide +kernel
theorem dX5_image_23 : decode cX5_image 23 = .ok (.iload_n 1, 1) := by decide +kernel
theorem dX5_image_24 : decode cX5_image 24 = .ok (.iaload, 1) := by decide +kernel
theorem dX5_image_25 : decode cX5_image 25 = .ok (.iastore, 1) := by decide +kernel
theorem dX5_image_26 : decode cX5_image 26 = .ok (.iinc 1 1, 3) := by decide +kernel
theorem dX5_image_29 : decode cX5_image 29 = .ok (.goto (-22), 3) := by decide +kernel
theorem dX5_image_32 : decode cX5_image 32 = .ok (.aload_n 0, 1) := by decide +kernel
theorem dX5_image_33 : decode cX5_image 33 = .ok (.iconst 1, 1) := by decide +kernel
theorem dX5_image_34 : decode cX5_image 34 = .ok (.putfield 354, 3) := by decide +kernel
theorem dX5_image_37 : decode cX5_image 37 = .ok (.return_, 1) := by decide +kernel
theorem dX5_back_0 : decode cX5_back 0 = .ok (.aload_n 0, 1) := by decide +kernel
theorem dX5_back_1 : decode cX5_back 1 = .ok (.iconst 0, 1) := by decide +kernel
theorem dX5_back_2 : decode cX5_back 2 = .ok (.putfield 58, 3) := by decide +kernel
theorem dX5_back_5 : decode cX5_back 5 = .ok (.aload_n 0, 1) := by decide +kernel
theorem dX5_back_6 : decode cX5_back 6 = .ok (.getfield 354, 3) := by decide +kernel
theorem dX5_back_9 : decode cX5_back 9 = .ok (.ifCond .ne 5, 3) := by decide +kernel
theorem dX5_back_12 : decode cX5_back 12 = .ok (.iconst 0, 1) := by decide +kernel
theorem dX5_back_13 : decode cX5_back 13 = .ok (.ireturn, 1) := by decide +kernel
theorem dX5_back_14 : decode cX5_back 14 = .ok (.iconst 0, 1) := by decide +kernel
theorem dX5_back_15 : decode cX5_back 15 = .ok (.istore_n 1, 1) := by decide +kernel
theorem dX5_back_16 : decode cX5_back 16 = .ok (.iload_n 1, 1) := by decide +kernel
theorem dX5_back_17 : decode cX5_back 17 = .ok (.sipush 4341, 3) := by decide +kernel
theorem dX5_back_20 : decode cX5_back 20 = .ok (.if_icmp .ge 21, 3) := by decide +kernel
theorem dX5_back_23 : decode cX5_back 23 = .ok (.aload_n 0, 1) := by decide +kernel
theorem dX5_back_24 : decode cX5_back 24 = .ok (.getfield 7, 3) := by decide +kernel
theorem dX5_back_27 : decode cX5_back 27 = .ok (.iload_n 1, 1) := by decide +kernel
theorem dX5_back_28 : decode cX5_back 28 = .ok (.aload_n 0, 1) := by decide +kernel
theorem dX5_back_29 : decode cX5_back 29 = .ok (.getfield 19, 3) := by decide +kernel
theorem dX5_back_32 : decode cX5_back 32 = .ok (.iload_n 1, 1) := by decide +kernel
theorem dX5_back_33 : decode cX5_back 33 = .ok (.iaload, 1) := by decide +kernel
theorem dX5_back_34 : decode cX5_back 34 = .ok (.iastore, 1) := by decide +kernel
theorem dX5_back_35 : decode cX5_back 35 = .ok (.iinc 1 1, 3) := by decide +kernel
theorem dX5_back_38 : decode cX5_back 38 = .ok (.goto (-22), 3) := by decide +kernel
theorem dX5_back_41 : decode cX5_back 41 = .ok (.aload_n 0, 1) := by decide +kernel
theorem dX5_back_42 : decode cX5_back 42 = .ok (.iconst 0, 1) := by decide +kernel
theorem dX5_back_43 : decode cX5_back 43 = .ok (.putfield 166, 3) := by decide +kernel
theorem dX5_back_46 : decode cX5_back 46 = .ok (.iconst 1, 1) := by decide +kernel
theorem dX5_back_47 : decode cX5_back 47 = .ok (.ireturn, 1) := by decide +kernel
theorem dX5_cablesThere_0 : decode cX5_cablesThere 0 = .ok (.iconst 0, 1) := by decide +kernel
theorem dX5_cablesThere_1 : decode cX5_cablesThere 1 = .ok (.istore_n 1, 1) := by decide +kernel
theorem dX5_cablesThere_2 : decode cX5_cablesThere 2 = .ok (.iconst 0, 1) := by decide +kernel
theorem dX5_cablesThere_3 : decode cX5_cablesThere 3 = .ok (.istore_n 2, 1) := by decide +kernel
theorem dX5_cablesThere_4 : decode cX5_cablesThere 4 = .ok (.iload_n 2, 1) := by decide +kernel
theorem dX5_cablesThere_5 : decode cX5_cablesThere 5 = .ok (.aload_n 0, 1) := by decide +kernel
theorem dX5_cablesThere_6 : decode cX5_cablesThere 6 = .ok (.getfield 7, 3) := by decide +kernel
theorem dX5_cablesThere_9 : decode cX5_cablesThere 9 = .ok (.iconst 1, 1) := by decide +kernel
theorem dX5_cablesThere_10 : decode cX5_cablesThere 10 = .ok (.iaload, 1) := by decide +kernel
theorem dX5_cablesThere_11 : decode cX5_cablesThere 11 = .ok (.if_icmp .ge 25, 3) := by decide +kernel
theorem dX5_cablesThere_14 : decode cX5_cablesThere 14 = .ok (.iload_n 1, 1) := by decide +kernel
theorem dX5_cablesThere_15 : decode cX5_cablesThere 15 = .ok (.aload_n 0, 1) := by decide +kernel
theorem dX5_cablesThere_16 : decode cX5_cablesThere 16 = .ok (.iload_n 2, 1) := by decide +kernel
theorem dX5_cablesThere_17 : decode cX5_cablesThere 17 = .ok (.invokevirtual 142, 3) := by decide +kernel
theorem dX5_cablesThere_20 : decode cX5_cablesThere 20 = .ok (.ifCond .eq 7, 3) := by decide +kernel
theorem dX5_cablesThere_23 : decode cX5_cablesThere 23 = .ok (.iconst 1, 1) := by decide +kernel
theorem dX5_cablesThere_24 : decode cX5_cablesThere 24 = .ok (.goto 4, 3) := by decide +kernel
theorem dX5_cablesThere_27 : decode cX5_cablesThere 27 = .ok (.iconst 0, 1) := by decide +kernel
theorem dX5_cablesThere_28 : decode cX5_cablesThere 28 = .ok (.iadd, 1) := by decide +kernel
theorem dX5_cablesThere_29 : decode cX5_cablesThere 29 = .ok (.istore_n 1, 1) := by decide +kernel
theorem dX5_cablesThere_30 : decode cX5_cablesThere 30 = .ok (.iinc 2 1, 3) := by decide +kernel
theorem dX5_cablesThere_33 : decode cX5_cablesThere 33 = .ok (.goto (-29), 3) := by decide +kernel
theorem dX5_cablesThere_36 : decode cX5_cablesThere 36 = .ok (.iload_n 1, 1) := by decide +kernel
theorem dX5_cablesThere_37 : decode cX5_cablesThere 37 = .ok (.ireturn, 1) := by decide +kernel
theorem dX5_bridges_0 : decode cX5_bridges 0 = .ok (.iconst 0, 1) := by decide +kernel
theorem dX5_bridges_1 : decode cX5_bridges 1 = .ok (.istore_n 1, 1) := by decide +kernel
theorem dX5_bridges_2 : decode cX5_bridges 2 = .ok (.iconst 0, 1) := by decide +kernel
theorem dX5_bridges_3 : decode cX5_bridges 3 = .ok (.istore_n 2, 1) := by decide +kernel
theorem dX5_bridges_4 : decode cX5_bridges 4 = .ok (.iload_n 2, 1) := by decide +kernel
theorem dX5_bridges_5 : decode cX5_bridges 5 = .ok (.aload_n 0, 1) := by decide +kernel
theorem dX5_bridges_6 : decode cX5_bridges 6 = .ok (.getfield 7, 3) := by decide +kernel
theorem dX5_bridges_9 : decode cX5_bridges 9 = .ok (.iconst 1, 1) := by decide +kernel
theorem dX5_bridges_10 : decode cX5_bridges 10 = .ok (.iaload, 1) := by decide +kernel
theorem dX5_bridges_11 : decode cX5_bridges 11 = .ok (.if_icmp .ge 25, 3) := by decide +kernel
theorem dX5_bridges_14 : decode cX5_bridges 14 = .ok (.iload_n 1, 1) := by decide +kernel
theorem dX5_bridges_15 : decode cX5_bridges 15 = .ok (.aload_n 0, 1) := by decide +kernel
theorem dX5_bridges_16 : decode cX5_bridges 16 = .ok (.iload_n 2, 1) := by decide +kernel
theorem dX5_bridges_17 : decode cX5_bridges 17 = .ok (.invokevirtual 317, 3) := by decide +kernel
theorem dX5_bridges_20 : decode cX5_bridges 20 = .ok (.ifCond .eq 7, 3) := by decide +kernel
theorem dX5_bridges_23 : decode cX5_bridges 23 = .ok (.iconst 1, 1) := by decide +kernel
theorem dX5_bridges_24 : decode cX5_bridges 24 = .ok (.goto 4, 3) := by decide +kernel
theorem dX5_bridges_27 : decode cX5_bridges 27 = .ok (.iconst 0, 1) := by decide +kernel
theorem dX5_bridges_28 : decode cX5_bridges 28 = .ok (.iadd, 1) := by decide +kernel
theorem dX5_bridges_29 : decode cX5_bridges 29 = .ok (.istore_n 1, 1) := by decide +kernel
theorem dX5_bridges_30 : decode cX5_bridges 30 = .ok (.iinc 2 1, 3) := by decide +kernel
theorem dX5_bridges_33 : decode cX5_bridges 33 = .ok (.goto (-29), 3) := by decide +kernel
theorem dX5_bridges_36 : decode cX5_bridges 36 = .ok (.iload_n 1, 1) := by decide +kernel
theorem dX5_bridges_37 : decode cX5_bridges 37 = .ok (.ireturn, 1) := by decide +kernel
theorem dX5_width_0 : decode cX5_width 0 = .ok (.iconst 0, 1) := by decide +kernel
theorem dX5_width_1 : decode cX5_width 1 = .ok (.istore_n 1, 1) := by decide +kernel
theorem dX5_width_2 : decode cX5_width 2 = .ok (.iconst 0, 1) := by decide +kernel
theorem dX5_width_3 : decode cX5_width 3 = .ok (.istore_n 2, 1) := by decide +kernel
theorem dX5_width_4 : decode cX5_width 4 = .ok (.iload_n 2, 1) := by decide +kernel
theorem dX5_width_5 : decode cX5_width 5 = .ok (.aload_n 0, 1) := by decide +kernel
theorem dX5_width_6 : decode cX5_width 6 = .ok (.getfield 7, 3) := by decide +kernel
theorem dX5_width_9 : decode cX5_width 9 = .ok (.iconst 0, 1) := by decide +kernel
theorem dX5_width_10 : decode cX5_width 10 = .ok (.iaload, 1) := by decide +kernel
theorem dX5_width_11 : decode cX5_width 11 = .ok (.if_icmp .ge 22, 3) := by decide +kernel
theorem dX5_width_14 : decode cX5_width 14 = .ok (.aload_n 0, 1) := by decide +kernel
theorem dX5_width_15 : decode cX5_width 15 = .ok (.iload_n 2, 1) := by decide +kernel
theorem dX5_width_16 : decode cX5_width 16 = .ok (.invokevirtual 287, 3) := by decide +kernel
theorem dX5_width_19 : decode cX5_width 19 = .ok (.istore_n 3, 1) := by decide +kernel
theorem dX5_width_20 : decode cX5_width 20 = .ok (.iload_n 3, 1) := by decide +kernel
theorem dX5_width_21 : decode cX5_width 21 = .ok (.iload_n 1, 1) := by decide +kernel
theorem dX5_width_22 : decode cX5_width 22 = .ok (.if_icmp .le 5, 3) := by decide +kernel
theorem dX5_width_25 : decode cX5_width 25 = .ok (.iload_n 3, 1) := by decide +kernel
theorem dX5_width_26 : decode cX5_width 26 = .ok (.istore_n 1, 1) := by decide +kernel
theorem dX5_width_27 : decode cX5_width 27 = .ok (.iinc 2 1, 3) := by decide +kernel
theorem dX5_width_30 : decode cX5_width 30 = .ok (.goto (-26), 3) := by decide +kernel
theorem dX5_width_33 : decode cX5_width 33 = .ok (.iload_n 1, 1) := by decide +kernel
theorem dX5_width_34 : decode cX5_width 34 = .ok (.ireturn, 1) := by decide +kernel
theorem dX5_areAlike_0 : decode cX5_areAlike 0 = .ok (.aload_n 0, 1) := by decide +kernel
theorem dX5_areAlike_1 : decode cX5_areAlike 1 = .ok (.iload_n 1, 1) := by decide +kernel
theorem dX5_areAlike_2 : decode cX5_areAlike 2 = .ok (.iconst 0, 1) := by decide +kernel
theorem dX5_areAlike_3 : decode cX5_areAlike 3 = .ok (.invokevirtual 69, 3) := by decide +kernel
theorem dX5_areAlike_6 : decode cX5_areAlike 6 = .ok (.aload_n 0, 1) := by decide +kernel
theorem dX5_areAlike_7 : decode cX5_areAlike 7 = .ok (.iload_n 2, 1) := by decide +kernel
theorem dX5_areAlike_8 : decode cX5_areAlike 8 = .ok (.iconst 0, 1) := by decide +kernel
theorem dX5_areAlike_9 : decode cX5_areAlike 9 = .ok (.invokevirtual 69, 3) := by decide +kernel
theorem dX5_areAlike_12 : decode cX5_areAlike 12 = .ok (.if_icmp .ne 18, 3) := by decide +kernel
theorem dX5_areAlike_15 : decode cX5_areAlike 15 = .ok (.aload_n 0, 1) := by decide +kernel
theorem dX5_areAlike_16 : decode cX5_areAlike 16 = .ok (.iload_n 1, 1) := by decide +kernel
theorem dX5_areAlike_17 : decode cX5_areAlike 17 = .ok (.iconst 1, 1) := by decide +kernel
theorem dX5_areAlike_18 : decode cX5_areAlike 18 = .ok (.invokevirtual 69, 3) := by decide +kernel
theorem dX5_areAlike_21 : decode cX5_areAlike 21 = .ok (.aload_n 0, 1) := by decide +kernel
theorem dX5_areAlike_22 : decode cX5_areAlike 22 = .ok (.iload_n 2, 1) := by decide +kernel
theorem dX5_areAlike_23 : decode cX5_areAlike 23 = .ok (.iconst 1, 1) := by decide +kernel
theorem dX5_areAlike_24 : decode cX5_areAlike 24 = .ok (.invokevirtual 69, 3) := by decide +kernel
theorem dX5_areAlike_27 : decode cX5_areAlike 27 = .ok (.if_icmp .eq 33, 3) := by decide +kernel
theorem dX5_areAlike_30 : decode cX5_areAlike 30 = .ok (.aload_n 0, 1) := by decide +kernel
theorem dX5_areAlike_31 : decode cX5_areAlike 31 = .ok (.iload_n 1, 1) := by decide +kernel
theorem dX5_areAlike_32 : decode cX5_areAlike 32 = .ok (.iconst 0, 1) := by decide +kernel
theorem dX5_areAlike_33 : decode cX5_areAlike 33 = .ok (.invokevirtual 69, 3) := by decide +kernel
theorem dX5_areAlike_36 : decode cX5_areAlike 36 = .ok (.aload_n 0, 1) := by decide +kernel
theorem dX5_areAlike_37 : decode cX5_areAlike 37 = .ok (.iload_n 2, 1) := by decide +kernel
theorem dX5_areAlike_38 : decode cX5_areAlike 38 = .ok (.iconst 1, 1) := by decide +kernel
theorem dX5_areAlike_39 : decode cX5_areAlike 39 = .ok (.invokevirtual 69, 3) := by decide +kernel
theorem dX5_areAlike_42 : decode cX5_areAlike 42 = .ok (.if_icmp .ne 22, 3) := by decide +kernel
theorem dX5_areAlike_45 : decode cX5_areAlike 45 = .ok (.aload_n 0, 1) := by decide +kernel
theorem dX5_areAlike_46 : decode cX5_areAlike 46 = .ok (.iload_n 1, 1) := by decide +kernel
theorem dX5_areAlike_47 : decode cX5_areAlike 47 = .ok (.iconst 1, 1) := by decide +kernel
theorem dX5_areAlike_48 : decode cX5_areAlike 48 = .ok (.invokevirtual 69, 3) := by decide +kernel
theorem dX5_areAlike_51 : decode cX5_areAlike 51 = .ok (.aload_n 0, 1) := by decide +kernel
theorem dX5_areAlike_52 : decode cX5_areAlike 52 = .ok (.iload_n 2, 1) := by decide +kernel
theorem dX5_areAlike_53 : decode cX5_areAlike 53 = .ok (.iconst 0, 1) := by decide +kernel
theorem dX5_areAlike_54 : decode cX5_areAlike 54 = .ok (.invokevirtual 69, 3) := by decide +kernel
theorem dX5_areAlike_57 : decode cX5_areAlike 57 = .ok (.if_icmp .ne 7, 3) := by decide +kernel
theorem dX5_areAlike_60 : decode cX5_areAlike 60 = .ok (.iconst 1, 1) := by decide +kernel
theorem dX5_areAlike_61 : decode cX5_areAlike 61 = .ok (.goto 4, 3) := by decide +kernel
theorem dX5_areAlike_64 : decode cX5_areAlike 64 = .ok (.iconst 0, 1) := by decide +kernel
theorem dX5_areAlike_65 : decode cX5_areAlike 65 = .ok (.ireturn, 1) := by decide +kernel
theorem dX5_doubles_0 : decode cX5_doubles 0 = .ok (.iconst 0, 1) := by decide +kernel
theorem dX5_doubles_1 : decode cX5_doubles 1 = .ok (.istore_n 1, 1) := by decide +kernel
theorem dX5_doubles_2 : decode cX5_doubles 2 = .ok (.iconst 0, 1) := by decide +kernel
theorem dX5_doubles_3 : decode cX5_doubles 3 = .ok (.istore_n 2, 1) := by decide +kernel
theorem dX5_doubles_4 : decode cX5_doubles 4 = .ok (.iload_n 2, 1) := by decide +kernel
theorem dX5_doubles_5 : decode cX5_doubles 5 = .ok (.aload_n 0, 1) := by decide +kernel
theorem dX5_doubles_6 : decode cX5_doubles 6 = .ok (.getfield 7, 3) := by decide +kernel
theorem dX5_doubles_9 : decode cX5_doubles 9 = .ok (.iconst 1, 1) := by decide +kernel
theorem dX5_doubles_10 : decode cX5_doubles 10 = .ok (.iaload, 1) := by decide +kernel
theorem dX5_doubles_11 : decode cX5_doubles 11 = .ok (.if_icmp .ge 55, 3) := by decide +kernel
theorem dX5_doubles_14 : decode cX5_doubles 14 = .ok (.iconst 0, 1) := by decide +kernel
theorem dX5_doubles_15 : decode cX5_doubles 15 = .ok (.istore_n 3, 1) := by decide +kernel
theorem dX5_doubles_16 : decode cX5_doubles 16 = .ok (.iload_n 3, 1) := by decide +kernel
theorem dX5_doubles_17 : decode cX5_doubles 17 = .ok (.iload_n 2, 1) := by decide +kernel
theorem dX5_doubles_18 : decode cX5_doubles 18 = .ok (.if_icmp .ge 42, 3) := by decide +kernel
theorem dX5_doubles_21 : decode cX5_doubles 21 = .ok (.iload_n 1, 1) := by decide +kernel
theorem dX5_doubles_22 : decode cX5_doubles 22 = .ok (.aload_n 0, 1) := by decide +kernel
theorem dX5_doubles_23 : decode cX5_doubles 23 = .ok (.iload_n 2, 1) := by decide +kernel
theorem dX5_doubles_24 : decode cX5_doubles 24 = .ok (.invokevirtual 142, 3) := by decide +kernel
theorem dX5_doubles_27 : decode cX5_doubles 27 = .ok (.ifCond .eq 24, 3) := by decide +kernel
theorem dX5_doubles_30 : decode cX5_doubles 30 = .ok (.aload_n 0, 1) := by decide +kernel
theorem dX5_doubles_31 : decode cX5_doubles 31 = .ok (.iload_n 3, 1) := by decide +kernel
theorem dX5_doubles_32 : decode cX5_doubles 32 = .ok (.invokevirtual 142, 3) := by decide +kernel
theorem dX5_doubles_35 : decode cX5_doubles 35 = .ok (.ifCond .eq 16, 3) := by decide +kernel
theorem dX5_doubles_38 : decode cX5_doubles 38 = .ok (.aload_n 0, 1) := by decide +kernel
theorem dX5_doubles_39 : decode cX5_doubles 39 = .ok (.iload_n 2, 1) := by decide +kernel
theorem dX5_doubles_40 : decode cX5_doubles 40 = .ok (.iload_n 3, 1) := by decide +kernel
theorem dX5_doubles_41 : decode cX5_doubles 41 = .ok (.invokevirtual 358, 3) := by decide +kernel
theorem dX5_doubles_44 : decode cX5_doubles 44 = .ok (.ifCond .eq 7, 3) := by decide +kernel
theorem dX5_doubles_47 : decode cX5_doubles 47 = .ok (.iconst 1, 1) := by decide +kernel
theorem dX5_doubles_48 : decode cX5_doubles 48 = .ok (.goto 4, 3) := by decide +kernel
theorem dX5_doubles_51 : decode cX5_doubles 51 = .ok (.iconst 0, 1) := by decide +kernel
theorem dX5_doubles_52 : decode cX5_doubles 52 = .ok (.iadd, 1) := by decide +kernel
theorem dX5_doubles_53 : decode cX5_doubles 53 = .ok (.istore_n 1, 1) := by decide +kernel
theorem dX5_doubles_54 : decode cX5_doubles 54 = .ok (.iinc 3 1, 3) := by decide +kernel
theorem dX5_doubles_57 : decode cX5_doubles 57 = .ok (.goto (-41), 3) := by decide +kernel
theorem dX5_doubles_60 : decode cX5_doubles 60 = .ok (.iinc 2 1, 3) := by decide +kernel
theorem dX5_doubles_63 : decode cX5_doubles 63 = .ok (.goto (-59), 3) := by decide +kernel
theorem dX5_doubles_66 : decode cX5_doubles 66 = .ok (.iload_n 1, 1) := by decide +kernel
theorem dX5_doubles_67 : decode cX5_doubles 67 = .ok (.ireturn, 1) := by decide +kernel
theorem dX5_highest_0 : decode cX5_highest 0 = .ok (.iconst (-1), 1) := by decide +kernel
theorem dX5_highest_1 : decode cX5_highest 1 = .ok (.istore_n 1, 1) := by decide +kernel
theorem dX5_highest_2 : decode cX5_highest 2 = .ok (.iconst 0, 1) := by decide +kernel
theorem dX5_highest_3 : decode cX5_highest 3 = .ok (.istore_n 2, 1) := by decide +kernel
theorem dX5_highest_4 : decode cX5_highest 4 = .ok (.iload_n 2, 1) := by decide +kernel
theorem dX5_highest_5 : decode cX5_highest 5 = .ok (.aload_n 0, 1) := by decide +kernel
theorem dX5_highest_6 : decode cX5_highest 6 = .ok (.getfield 7, 3) := by decide +kernel
theorem dX5_highest_9 : decode cX5_highest 9 = .ok (.iconst 1, 1) := by decide +kernel
theorem dX5_highest_10 : decode cX5_highest 10 = .ok (.iaload, 1) := by decide +kernel
theorem dX5_highest_11 : decode cX5_highest 11 = .ok (.if_icmp .ge 34, 3) := by decide +kernel
theorem dX5_highest_14 : decode cX5_highest 14 = .ok (.aload_n 0, 1) := by decide +kernel
theorem dX5_highest_15 : decode cX5_highest 15 = .ok (.iload_n 2, 1) := by decide +kernel
theorem dX5_highest_16 : decode cX5_highest 16 = .ok (.invokevirtual 142, 3) := by decide +kernel
theorem dX5_highest_19 : decode cX5_highest 19 = .ok (.ifCond .eq 20, 3) := by decide +kernel
theorem dX5_highest_22 : decode cX5_highest 22 = .ok (.aload_n 0, 1) := by decide +kernel
theorem dX5_highest_23 : decode cX5_highest 23 = .ok (.iload_n 2, 1) := by decide +kernel
theorem dX5_highest_24 : decode cX5_highest 24 = .ok (.iconst 3, 1) := by decide +kernel
theorem dX5_highest_25 : decode cX5_highest 25 = .ok (.invokevirtual 69, 3) := by decide +kernel
theorem dX5_highest_28 : decode cX5_highest 28 = .ok (.iload_n 1, 1) := by decide +kernel
theorem dX5_highest_29 : decode cX5_highest 29 = .ok (.if_icmp .le 10, 3) := by decide +kernel
theorem dX5_highest_32 : decode cX5_highest 32 = .ok (.aload_n 0, 1) := by decide +kernel
theorem dX5_highest_33 : decode cX5_highest 33 = .ok (.iload_n 2, 1) := by decide +kernel
theorem dX5_highest_34 : decode cX5_highest 34 = .ok (.iconst 3, 1) := by decide +kernel
theorem dX5_highest_35 : decode cX5_highest 35 = .ok (.invokevirtual 69, 3) := by decide +kernel
theorem dX5_highest_38 : decode cX5_highest 38 = .ok (.istore_n 1, 1) := by decide +kernel
theorem dX5_highest_39 : decode cX5_highest 39 = .ok (.iinc 2 1, 3) := by decide +kernel
theorem dX5_highest_42 : decode cX5_highest 42 = .ok (.goto (-38), 3) := by decide +kernel
theorem dX5_highest_45 : decode cX5_highest 45 = .ok (.iload_n 1, 1) := by decide +kernel
theorem dX5_highest_46 : decode cX5_highest 46 = .ok (.ireturn, 1) := by decide +kernel
theorem dX5_count_0 : decode cX5_count 0 = .ok (.aload_n 0, 1) := by decide +kernel
theorem dX5_count_1 : decode cX5_count 1 = .ok (.iconst 0, 1) := by decide +kernel
theorem dX5_count_2 : decode cX5_count 2 = .ok (.putfield 58, 3) := by decide +kernel
theorem dX5_count_5 : decode cX5_count 5 = .ok (.iload_n 1, 1) := by decide +kernel
theorem dX5_count_6 : decode cX5_count 6 = .ok (.tableswitch 199 0 17 #[86, 93, 98, 105, 110, 115, 125, 131, 138, 145, 150, 155, 165, 170, 175, 180, 185, 190], 86) := by decide +kernel
theorem dX5_count_92 : decode cX5_count 92 = .ok (.aload_n 0, 1) := by decide +kernel
theorem dX5_count_93 : decode cX5_count 93 = .ok (.getfield 7, 3) := by decide +kernel
theorem dX5_count_96 : decode cX5_count 96 = .ok (.iconst 0, 1) := by decide +kernel
theorem dX5_count_97 : decode cX5_count 97 = .ok (.iaload, 1) := by decide +kernel
theorem dX5_count_98 : decode cX5_count 98 = .ok (.ireturn, 1) := by decide +kernel
theorem dX5_count_99 : decode cX5_count 99 = .ok (.aload_n 0, 1) := by decide +kernel
theorem dX5_count_100 : decode cX5_count 100 = .ok (.invokevirtual 129, 3) := by decide +kernel
theorem dX5_count_103 : decode cX5_count 103 = .ok (.ireturn, 1) := by decide +kernel
theorem dX5_count_104 : decode cX5_count 104 = .ok (.aload_n 0, 1) := by decide +kernel
theorem dX5_count_105 : decode cX5_count 105 = .ok (.getfield 7, 3) := by decide +kernel
theorem dX5_count_108 : decode cX5_count 108 = .ok (.iconst 1, 1) := by decide +kernel
theorem dX5_count_109 : decode cX5_count 109 = .ok (.iaload, 1) := by decide +kernel
theorem dX5_count_110 : decode cX5_count 110 = .ok (.ireturn, 1) := by decide +kernel
theorem dX5_count_111 : decode cX5_count 111 = .ok (.aload_n 0, 1) := by decide +kernel
theorem dX5_count_112 : decode cX5_count 112 = .ok (.invokevirtual 332, 3) := by decide +kernel
theorem dX5_count_115 : decode cX5_count 115 = .ok (.ireturn, 1) := by decide +kernel
theorem dX5_count_116 : decode cX5_count 116 = .ok (.aload_n 0, 1) := by decide +kernel
theorem dX5_count_117 : decode cX5_count 117 = .ok (.invokevirtual 270, 3) := by decide +kernel

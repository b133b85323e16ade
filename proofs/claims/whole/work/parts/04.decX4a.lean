theorem dX4_init_0 : decode cX4_init 0 = .ok (.aload_n 0, 1) := by decide +kernel
theorem dX4_init_1 : decode cX4_init 1 = .ok (.invokespecial 1, 3) := by decide +kernel
theorem dX4_init_4 : decode cX4_init 4 = .ok (.aload_n 0, 1) := by decide +kernel
theorem dX4_init_5 : decode cX4_init 5 = .ok (.bipush 8, 2) := by decide +kernel
theorem dX4_init_7 : decode cX4_init 7 = .ok (.anewarray 9, 3) := by decide +kernel
theorem dX4_init_10 : decode cX4_init 10 = .ok (.putfield 11, 3) := by decide +kernel
theorem dX4_init_13 : decode cX4_init 13 = .ok (.aload_n 0, 1) := by decide +kernel
theorem dX4_init_14 : decode cX4_init 14 = .ok (.new 9, 3) := by decide +kernel
theorem dX4_init_17 : decode cX4_init 17 = .ok (.dup, 1) := by decide +kernel
theorem dX4_init_18 : decode cX4_init 18 = .ok (.invokespecial 15, 3) := by decide +kernel
theorem dX4_init_21 : decode cX4_init 21 = .ok (.putfield 16, 3) := by decide +kernel
theorem dX4_init_24 : decode cX4_init 24 = .ok (.aload_n 0, 1) := by decide +kernel
theorem dX4_init_25 : decode cX4_init 25 = .ok (.new 9, 3) := by decide +kernel
theorem dX4_init_28 : decode cX4_init 28 = .ok (.dup, 1) := by decide +kernel
theorem dX4_init_29 : decode cX4_init 29 = .ok (.invokespecial 15, 3) := by decide +kernel
theorem dX4_init_32 : decode cX4_init 32 = .ok (.putfield 20, 3) := by decide +kernel
theorem dX4_init_35 : decode cX4_init 35 = .ok (.aload_n 0, 1) := by decide +kernel
theorem dX4_init_36 : decode cX4_init 36 = .ok (.new 9, 3) := by decide +kernel
theorem dX4_init_39 : decode cX4_init 39 = .ok (.dup, 1) := by decide +kernel
theorem dX4_init_40 : decode cX4_init 40 = .ok (.invokespecial 15, 3) := by decide +kernel
theorem dX4_init_43 : decode cX4_init 43 = .ok (.putfield 23, 3) := by decide +kernel
theorem dX4_init_46 : decode cX4_init 46 = .ok (.aload_n 0, 1) := by decide +kernel
theorem dX4_init_47 : decode cX4_init 47 = .ok (.new 26, 3) := by decide +kernel
theorem dX4_init_50 : decode cX4_init 50 = .ok (.dup, 1) := by decide +kernel
theorem dX4_init_51 : decode cX4_init 51 = .ok (.invokespecial 28, 3) := by decide +kernel
theorem dX4_init_54 : decode cX4_init 54 = .ok (.putfield 29, 3) := by decide +kernel
theorem dX4_init_57 : decode cX4_init 57 = .ok (.aload_n 0, 1) := by decide +kernel
theorem dX4_init_58 : decode cX4_init 58 = .ok (.new 33, 3) := by decide +kernel
theorem dX4_init_61 : decode cX4_init 61 = .ok (.dup, 1) := by decide +kernel
theorem dX4_init_62 : decode cX4_init 62 = .ok (.invokespecial 35, 3) := by decide +kernel
theorem dX4_init_65 : decode cX4_init 65 = .ok (.putfield 36, 3) := by decide +kernel
theorem dX4_init_68 : decode cX4_init 68 = .ok (.aload_n 0, 1) := by decide +kernel
theorem dX4_init_69 : decode cX4_init 69 = .ok (.iconst 0, 1) := by decide +kernel
theorem dX4_init_70 : decode cX4_init 70 = .ok (.putfield 40, 3) := by decide +kernel
theorem dX4_init_73 : decode cX4_init 73 = .ok (.aload_n 0, 1) := by decide +kernel
theorem dX4_init_74 : decode cX4_init 74 = .ok (.iconst 0, 1) := by decide +kernel
theorem dX4_init_75 : decode cX4_init 75 = .ok (.putfield 44, 3) := by decide +kernel
theorem dX4_init_78 : decode cX4_init 78 = .ok (.aload_n 0, 1) := by decide +kernel
theorem dX4_init_79 : decode cX4_init 79 = .ok (.iconst 0, 1) := by decide +kernel
theorem dX4_init_80 : decode cX4_init 80 = .ok (.putfield 48, 3) := by decide +kernel
theorem dX4_init_83 : decode cX4_init 83 = .ok (.aload_n 0, 1) := by decide +kernel
theorem dX4_init_84 : decode cX4_init 84 = .ok (.iconst 0, 1) := by decide +kernel
theorem dX4_init_85 : decode cX4_init 85 = .ok (.putfield 51, 3) := by decide +kernel
theorem dX4_init_88 : decode cX4_init 88 = .ok (.iconst 0, 1) := by decide +kernel
theorem dX4_init_89 : decode cX4_init 89 = .ok (.istore_n 1, 1) := by decide +kernel
theorem dX4_init_90 : decode cX4_init 90 = .ok (.iload_n 1, 1) := by decide +kernel
theorem dX4_init_91 : decode cX4_init 91 = .ok (.bipush 8, 2) := by decide +kernel
theorem dX4_init_93 : decode cX4_init 93 = .ok (.if_icmp .ge 22, 3) := by decide +kernel
theorem dX4_init_96 : decode cX4_init 96 = .ok (.aload_n 0, 1) := by decide +kernel
theorem dX4_init_97 : decode cX4_init 97 = .ok (.getfield 11, 3) := by decide +kernel
theorem dX4_init_100 : decode cX4_init 100 = .ok (.iload_n 1, 1) := by decide +kernel
theorem dX4_init_101 : decode cX4_init 101 = .ok (.new 9, 3) := by decide +kernel
theorem dX4_init_104 : decode cX4_init 104 = .ok (.dup, 1) := by decide +kernel
theorem dX4_init_105 : decode cX4_init 105 = .ok (.invokespecial 15, 3) := by decide +kernel
theorem dX4_init_108 : decode cX4_init 108 = .ok (.aastore, 1) := by decide +kernel
theorem dX4_init_109 : decode cX4_init 109 = .ok (.iinc 1 1, 3) := by decide +kernel
theorem dX4_init_112 : decode cX4_init 112 = .ok (.goto (-22), 3) := by decide +kernel
theorem dX4_init_115 : decode cX4_init 115 = .ok (.aload_n 0, 1) := by decide +kernel
theorem dX4_init_116 : decode cX4_init 116 = .ok (.getfield 16, 3) := by decide +kernel
theorem dX4_init_119 : decode cX4_init 119 = .ok (.iconst 4, 1) := by decide +kernel
theorem dX4_init_120 : decode cX4_init 120 = .ok (.invokevirtual 54, 3) := by decide +kernel
theorem dX4_init_123 : decode cX4_init 123 = .ok (.pop, 1) := by decide +kernel
theorem dX4_init_124 : decode cX4_init 124 = .ok (.return_, 1) := by decide +kernel
theorem dX4_feed_0 : decode cX4_feed 0 = .ok (.aload_n 0, 1) := by decide +kernel
theorem dX4_feed_1 : decode cX4_feed 1 = .ok (.getfield 36, 3) := by decide +kernel
theorem dX4_feed_4 : decode cX4_feed 4 = .ok (.getfield 58, 3) := by decide +kernel
theorem dX4_feed_7 : decode cX4_feed 7 = .ok (.bipush 20, 2) := by decide +kernel
theorem dX4_feed_9 : decode cX4_feed 9 = .ok (.iadd, 1) := by decide +kernel
theorem dX4_feed_10 : decode cX4_feed 10 = .ok (.sipush 400, 3) := by decide +kernel
theorem dX4_feed_13 : decode cX4_feed 13 = .ok (.if_icmp .le 5, 3) := by decide +kernel
theorem dX4_feed_16 : decode cX4_feed 16 = .ok (.iconst (-1), 1) := by decide +kernel
theorem dX4_feed_17 : decode cX4_feed 17 = .ok (.ireturn, 1) := by decide +kernel
theorem dX4_feed_18 : decode cX4_feed 18 = .ok (.aload_n 0, 1) := by decide +kernel
theorem dX4_feed_19 : decode cX4_feed 19 = .ok (.getfield 36, 3) := by decide +kernel
theorem dX4_feed_22 : decode cX4_feed 22 = .ok (.iload_n 1, 1) := by decide +kernel
theorem dX4_feed_23 : decode cX4_feed 23 = .ok (.invokevirtual 61, 3) := by decide +kernel
theorem dX4_feed_26 : decode cX4_feed 26 = .ok (.aload_n 0, 1) := by decide +kernel
theorem dX4_feed_27 : decode cX4_feed 27 = .ok (.getfield 36, 3) := by decide +kernel
theorem dX4_feed_30 : decode cX4_feed 30 = .ok (.iload_n 2, 1) := by decide +kernel
theorem dX4_feed_31 : decode cX4_feed 31 = .ok (.invokevirtual 61, 3) := by decide +kernel
theorem dX4_feed_34 : decode cX4_feed 34 = .ok (.aload_n 0, 1) := by decide +kernel
theorem dX4_feed_35 : decode cX4_feed 35 = .ok (.getfield 36, 3) := by decide +kernel
theorem dX4_feed_38 : decode cX4_feed 38 = .ok (.iload_n 3, 1) := by decide +kernel
theorem dX4_feed_39 : decode cX4_feed 39 = .ok (.invokevirtual 61, 3) := by decide +kernel
theorem dX4_feed_42 : decode cX4_feed 42 = .ok (.aload_n 0, 1) := by decide +kernel
theorem dX4_feed_43 : decode cX4_feed 43 = .ok (.getfield 36, 3) := by decide +kernel
theorem dX4_feed_46 : decode cX4_feed 46 = .ok (.iload 4, 2) := by decide +kernel
theorem dX4_feed_48 : decode cX4_feed 48 = .ok (.invokevirtual 61, 3) := by decide +kernel
theorem dX4_feed_51 : decode cX4_feed 51 = .ok (.aload_n 0, 1) := by decide +kernel
theorem dX4_feed_52 : decode cX4_feed 52 = .ok (.getfield 36, 3) := by decide +kernel
theorem dX4_feed_55 : decode cX4_feed 55 = .ok (.iload 5, 2) := by decide +kernel
theorem dX4_feed_57 : decode cX4_feed 57 = .ok (.invokevirtual 61, 3) := by decide +kernel
theorem dX4_feed_60 : decode cX4_feed 60 = .ok (.aload_n 0, 1) := by decide +kernel
theorem dX4_feed_61 : decode cX4_feed 61 = .ok (.getfield 36, 3) := by decide +kernel
theorem dX4_feed_64 : decode cX4_feed 64 = .ok (.getfield 58, 3) := by decide +kernel
theorem dX4_feed_67 : decode cX4_feed 67 = .ok (.ireturn, 1) := by decide +kernel
theorem dX4_end_0 : decode cX4_end 0 = .ok (.iload_n 1, 1) := by decide +kernel
theorem dX4_end_1 : decode cX4_end 1 = .ok (.ifCond .lt 14, 3) := by decide +kernel
theorem dX4_end_4 : decode cX4_end 4 = .ok (.iload_n 1, 1) := by decide +kernel
theorem dX4_end_5 : decode cX4_end 5 = .ok (.aload_n 0, 1) := by decide +kernel
theorem dX4_end_6 : decode cX4_end 6 = .ok (.getfield 36, 3) := by decide +kernel
theorem dX4_end_9 : decode cX4_end 9 = .ok (.getfield 58, 3) := by decide +kernel
theorem dX4_end_12 : decode cX4_end 12 = .ok (.if_icmp .le 5, 3) := by decide +kernel
theorem dX4_end_15 : decode cX4_end 15 = .ok (.iconst 0, 1) := by decide +kernel
theorem dX4_end_16 : decode cX4_end 16 = .ok (.ireturn, 1) := by decide +kernel
theorem dX4_end_17 : decode cX4_end 17 = .ok (.aload_n 0, 1) := by decide +kernel
theorem dX4_end_18 : decode cX4_end 18 = .ok (.getfield 36, 3) := by decide +kernel
theorem dX4_end_21 : decode cX4_end 21 = .ok (.iload_n 1, 1) := by decide +kernel
theorem dX4_end_22 : decode cX4_end 22 = .ok (.putfield 58, 3) := by decide +kernel
theorem dX4_end_25 : decode cX4_end 25 = .ok (.iconst 1, 1) := by decide +kernel
theorem dX4_end_26 : decode cX4_end 26 = .ok (.ireturn, 1) := by decide +kernel
theorem dX4_acts_0 : decode cX4_acts 0 = .ok (.aload_n 0, 1) := by decide +kernel
theorem dX4_acts_1 : decode cX4_acts 1 = .ok (.invokevirtual 65, 3) := by decide +kernel
theorem dX4_acts_4 : decode cX4_acts 4 = .ok (.istore_n 1, 1) := by decide +kernel
theorem dX4_acts_5 : decode cX4_acts 5 = .ok (.iload_n 1, 1) := by decide +kernel
theorem dX4_acts_6 : decode cX4_acts 6 = .ok (.iconst (-1), 1) := by decide +kernel
theorem dX4_acts_7 : decode cX4_acts 7 = .ok (.if_icmp .ne 28, 3) := by decide +kernel
theorem dX4_acts_10 : decode cX4_acts 10 = .ok (.aload_n 0, 1) := by decide +kernel
theorem dX4_acts_11 : decode cX4_acts 11 = .ok (.getfield 51, 3) := by decide +kernel
theorem dX4_acts_14 : decode cX4_acts 14 = .ok (.ifCond .eq 11, 3) := by decide +kernel
theorem dX4_acts_17 : decode cX4_acts 17 = .ok (.aload_n 0, 1) := by decide +kernel
theorem dX4_acts_18 : decode cX4_acts 18 = .ok (.aload_n 0, 1) := by decide +kernel
theorem dX4_acts_19 : decode cX4_acts 19 = .ok (.getfield 51, 3) := by decide +kernel
theorem dX4_acts_22 : decode cX4_acts 22 = .ok (.putfield 48, 3) := by decide +kernel
theorem dX4_acts_25 : decode cX4_acts 25 = .ok (.new 69, 3) := by decide +kernel
theorem dX4_acts_28 : decode cX4_acts 28 = .ok (.dup, 1) := by decide +kernel
theorem dX4_acts_29 : decode cX4_acts 29 = .ok (.ldc 71, 2) := by decide +kernel
theorem dX4_acts_31 : decode cX4_acts 31 = .ok (.invokespecial 73, 3) := by decide +kernel
theorem dX4_acts_34 : decode cX4_acts 34 = .ok (.athrow, 1) := by decide +kernel
theorem dX4_acts_35 : decode cX4_acts 35 = .ok (.iload_n 1, 1) := by decide +kernel
theorem dX4_acts_36 : decode cX4_acts 36 = .ok (.ifCond .le 8, 3) := by decide +kernel
theorem dX4_acts_39 : decode cX4_acts 39 = .ok (.aload_n 0, 1) := by decide +kernel
theorem dX4_acts_40 : decode cX4_acts 40 = .ok (.iconst 0, 1) := by decide +kernel
theorem dX4_acts_41 : decode cX4_acts 41 = .ok (.putfield 48, 3) := by decide +kernel
theorem dX4_acts_44 : decode cX4_acts 44 = .ok (.aload_n 0, 1) := by decide +kernel
theorem dX4_acts_45 : decode cX4_acts 45 = .ok (.getfield 16, 3) := by decide +kernel
theorem dX4_acts_48 : decode cX4_acts 48 = .ok (.aload_n 0, 1) := by decide +kernel
theorem dX4_acts_49 : decode cX4_acts 49 = .ok (.getfield 20, 3) := by decide +kernel
theorem dX4_acts_52 : decode cX4_acts 52 = .ok (.invokevirtual 76, 3) := by decide +kernel
theorem dX4_acts_55 : decode cX4_acts 55 = .ok (.aload_n 0, 1) := by decide +kernel
theorem dX4_acts_56 : decode cX4_acts 56 = .ok (.iconst 0, 1) := by decide +kernel
theorem dX4_acts_57 : decode cX4_acts 57 = .ok (.putfield 44, 3) := by decide +kernel
theorem dX4_acts_60 : decode cX4_acts 60 = .ok (.iload_n 1, 1) := by decide +kernel
theorem dX4_acts_61 : decode cX4_acts 61 = .ok (.ireturn, 1) := by decide +kernel
theorem dX4_fault_0 : decode cX4_fault 0 = .ok (.aload_n 0, 1) := by decide +kernel
theorem dX4_fault_1 : decode cX4_fault 1 = .ok (.getfield 36, 3) := by decide +kernel
theorem dX4_fault_4 : decode cX4_fault 4 = .ok (.getfield 80, 3) := by decide +kernel
theorem dX4_fault_7 : decode cX4_fault 7 = .ok (.ireturn, 1) := by decide +kernel
theorem dX4_why_0 : decode cX4_why 0 = .ok (.aload_n 0, 1) := by decide +kernel
theorem dX4_why_1 : decode cX4_why 1 = .ok (.getfield 48, 3) := by decide +kernel
theorem dX4_why_4 : decode cX4_why 4 = .ok (.ireturn, 1) := by decide +kernel
theorem dX4_net_0 : decode cX4_net 0 = .ok (.iload_n 1, 1) := by decide +kernel
theorem dX4_net_1 : decode cX4_net 1 = .ok (.iconst 2, 1) := by decide +kernel
theorem dX4_net_2 : decode cX4_net 2 = .ok (.if_icmp .lt 9, 3) := by decide +kernel
theorem dX4_net_5 : decode cX4_net 5 = .ok (.iload_n 1, 1) := by decide +kernel
theorem dX4_net_6 : decode cX4_net 6 = .ok (.bipush 16, 2) := by decide +kernel
theorem dX4_net_8 : decode cX4_net 8 = .ok (.if_icmp .le 13, 3) := by decide +kernel
theorem dX4_net_11 : decode cX4_net 11 = .ok (.new 69, 3) := by decide +kernel
theorem dX4_net_14 : decode cX4_net 14 = .ok (.dup, 1) := by decide +kernel
theorem dX4_net_15 : decode cX4_net 15 = .ok (.ldc 83, 2) := by decide +kernel
theorem dX4_net_17 : decode cX4_net 17 = .ok (.invokespecial 73, 3) := by decide +kernel
theorem dX4_net_20 : decode cX4_net 20 = .ok (.athrow, 1) := by decide +kernel
theorem dX4_net_21 : decode cX4_net 21 = .ok (.aload_n 0, 1) := by decide +kernel
theorem dX4_net_22 : decode cX4_net 22 = .ok (.getfield 16, 3) := by decide +kernel
theorem dX4_net_25 : decode cX4_net 25 = .ok (.iload_n 1, 1) := by decide +kernel
theorem dX4_net_26 : decode cX4_net 26 = .ok (.invokevirtual 54, 3) := by decide +kernel
theorem dX4_net_29 : decode cX4_net 29 = .ok (.pop, 1) := by decide +kernel
theorem dX4_net_30 : decode cX4_net 30 = .ok (.aload_n 0, 1) := by decide +kernel
theorem dX4_net_31 : decode cX4_net 31 = .ok (.iconst 0, 1) := by decide +kernel
theorem dX4_net_32 : decode cX4_net 32 = .ok (.putfield 44, 3) := by decide +kernel
theorem dX4_net_35 : decode cX4_net 35 = .ok (.aload_n 0, 1) := by decide +kernel
theorem dX4_net_36 : decode cX4_net 36 = .ok (.iconst 0, 1) := by decide +kernel
theorem dX4_net_37 : decode cX4_net 37 = .ok (.putfield 48, 3) := by decide +kernel
theorem dX4_net_40 : decode cX4_net 40 = .ok (.aload_n 0, 1) := by decide +kernel
theorem dX4_net_41 : decode cX4_net 41 = .ok (.getfield 16, 3) := by decide +kernel
theorem dX4_net_44 : decode cX4_net 44 = .ok (.getfield 85, 3) := by decide +kernel
theorem dX4_net_47 : decode cX4_net 47 = .ok (.ireturn, 1) := by decide +kernel
theorem dX4_lay_0 : decode cX4_lay 0 = .ok (.aload_n 0, 1) := by decide +kernel
theorem dX4_lay_1 : decode cX4_lay 1 = .ok (.iconst 1, 1) := by decide +kernel
theorem dX4_lay_2 : decode cX4_lay 2 = .ok (.iload_n 1, 1) := by decide +kernel
theorem dX4_lay_3 : decode cX4_lay 3 = .ok (.iload_n 2, 1) := by decide +kernel
theorem dX4_lay_4 : decode cX4_lay 4 = .ok (.invokevirtual 88, 3) := by decide +kernel
theorem dX4_lay_7 : decode cX4_lay 7 = .ok (.ireturn, 1) := by decide +kernel
theorem dX4_lift_0 : decode cX4_lift 0 = .ok (.aload_n 0, 1) := by decide +kernel
theorem dX4_lift_1 : decode cX4_lift 1 = .ok (.iconst 2, 1) := by decide +kernel
theorem dX4_lift_2 : decode cX4_lift 2 = .ok (.iload_n 1, 1) := by decide +kernel
theorem dX4_lift_3 : decode cX4_lift 3 = .ok (.iconst 0, 1) := by decide +kernel
theorem dX4_lift_4 : decode cX4_lift 4 = .ok (.invokevirtual 88, 3) := by decide +kernel
theorem dX4_lift_7 : decode cX4_lift 7 = .ok (.ireturn, 1) := by decide +kernel
theorem dX4_cost_0 : decode cX4_cost 0 = .ok (.iload_n 2, 1) := by decide +kernel
theorem dX4_cost_1 : decode cX4_cost 1 = .ok (.ifCond .lt 9, 3) := by decide +kernel
theorem dX4_cost_4 : decode cX4_cost 4 = .ok (.iload_n 2, 1) := by decide +kernel
theorem dX4_cost_5 : decode cX4_cost 5 = .ok (.bipush 99, 2) := by decide +kernel
theorem dX4_cost_7 : decode cX4_cost 7 = .ok (.if_icmp .le 13, 3) := by decide +kernel
theorem dX4_cost_10 : decode cX4_cost 10 = .ok (.new 69, 3) := by decide +kernel
theorem dX4_cost_13 : decode cX4_cost 13 = .ok (.dup, 1) := by decide +kernel
theorem dX4_cost_14 : decode cX4_cost 14 = .ok (.ldc 92, 2) := by decide +kernel
theorem dX4_cost_16 : decode cX4_cost 16 = .ok (.invokespecial 73, 3) := by decide +kernel
theorem dX4_cost_19 : decode cX4_cost 19 = .ok (.athrow, 1) := by decide +kernel
theorem dX4_cost_20 : decode cX4_cost 20 = .ok (.aload_n 0, 1) := by decide +kernel
theorem dX4_cost_21 : decode cX4_cost 21 = .ok (.bipush 6, 2) := by decide +kernel
theorem dX4_cost_23 : decode cX4_cost 23 = .ok (.iload_n 1, 1) := by decide +kernel
theorem dX4_cost_24 : decode cX4_cost 24 = .ok (.iload_n 2, 1) := by decide +kernel
theorem dX4_cost_25 : decode cX4_cost 25 = .ok (.invokevirtual 88, 3) := by decide +kernel
theorem dX4_cost_28 : decode cX4_cost 28 = .ok (.ireturn, 1) := by decide +kernel
theorem dX4_tries_0 : decode cX4_tries 0 = .ok (.aload_n 0, 1) := by decide +kernel
theorem dX4_tries_1 : decode cX4_tries 1 = .ok (.invokevirtual 65, 3) := by decide +kernel
theorem dX4_tries_4 : decode cX4_tries 4 = .ok (.iconst (-1), 1) := by decide +kernel
theorem dX4_tries_5 : decode cX4_tries 5 = .ok (.if_icmp .ne 13, 3) := by decide +kernel
theorem dX4_tries_8 : decode cX4_tries 8 = .ok (.new 69, 3) := by decide +kernel
theorem dX4_tries_11 : decode cX4_tries 11 = .ok (.dup, 1) := by decide +kernel
theorem dX4_tries_12 : decode cX4_tries 12 = .ok (.ldc 71, 2) := by decide +kernel
theorem dX4_tries_14 : decode cX4_tries 14 = .ok (.invokespecial 73, 3) := by decide +kernel
theorem dX4_tries_17 : decode cX4_tries 17 = .ok (.athrow, 1) := by decide +kernel
theorem dX4_tries_18 : decode cX4_tries 18 = .ok (.aload_n 0, 1) := by decide +kernel
theorem dX4_tries_19 : decode cX4_tries 19 = .ok (.getfield 20, 3) := by decide +kernel
theorem dX4_tries_22 : decode cX4_tries 22 = .ok (.getfield 94, 3) := by decide +kernel
theorem dX4_tries_25 : decode cX4_tries 25 = .ok (.iconst 0, 1) := by decide +kernel
theorem dX4_tries_26 : decode cX4_tries 26 = .ok (.aaload, 1) := by decide +kernel
theorem dX4_tries_27 : decode cX4_tries 27 = .ok (.invokevirtual 98, 3) := by decide +kernel
theorem dX4_tries_30 : decode cX4_tries 30 = .ok (.ireturn, 1) := by decide +kernel
theorem dX4_swap_0 : decode cX4_swap 0 = .ok (.aload_n 0, 1) := by decide +kernel
theorem dX4_swap_1 : decode cX4_swap 1 = .ok (.iconst 3, 1) := by decide +kernel
theorem dX4_swap_2 : decode cX4_swap 2 = .ok (.iload_n 1, 1) := by decide +kernel
theorem dX4_swap_3 : decode cX4_swap 3 = .ok (.iload_n 2, 1) := by decide +kernel
theorem dX4_swap_4 : decode cX4_swap 4 = .ok (.invokevirtual 88, 3) := by decide +kernel
theorem dX4_swap_7 : decode cX4_swap 7 = .ok (.ireturn, 1) := by decide +kernel
theorem dX4_fail_0 : decode cX4_fail 0 = .ok (.aload_n 0, 1) := by decide +kernel
theorem dX4_fail_1 : decode cX4_fail 1 = .ok (.iconst 4, 1) := by decide +kernel
theorem dX4_fail_2 : decode cX4_fail 2 = .ok (.iload_n 1, 1) := by decide +kernel
theorem dX4_fail_3 : decode cX4_fail 3 = .ok (.iconst 0, 1) := by decide +kernel
theorem dX4_fail_4 : decode cX4_fail 4 = .ok (.invokevirtual 88, 3) := by decide +kernel
theorem dX4_fail_7 : decode cX4_fail 7 = .ok (.ireturn, 1) := by decide +kernel
theorem dX4_tidy_0 : decode cX4_tidy 0 = .ok (.aload_n 0, 1) := by decide +kernel
theorem dX4_tidy_1 : decode cX4_tidy 1 = .ok (.iconst 5, 1) := by decide +kernel
theorem dX4_tidy_2 : decode cX4_tidy 2 = .ok (.iconst 0, 1) := by decide +kernel
theorem dX4_tidy_3 : decode cX4_tidy 3 = .ok (.iconst 0, 1) := by decide +kernel
theorem dX4_tidy_4 : decode cX4_tidy 4 = .ok (.invokevirtual 88, 3) := by decide +kernel
theorem dX4_tidy_7 : decode cX4_tidy 7 = .ok (.ireturn, 1) := by decide +kernel
theorem dX4_undo_0 : decode cX4_undo 0 = .ok (.aload_n 0, 1) := by decide +kernel
theorem dX4_undo_1 : decode cX4_undo 1 = .ok (.getfield 44, 3) := by decide +kernel
theorem dX4_undo_4 : decode cX4_undo 4 = .ok (.ifCond .gt 13, 3) := by decide +kernel
theorem dX4_undo_7 : decode cX4_undo 7 = .ok (.new 103, 3) := by decide +kernel
theorem dX4_undo_10 : decode cX4_undo 10 = .ok (.dup, 1) := by decide +kernel
theorem dX4_undo_11 : decode cX4_undo 11 = .ok (.ldc 105, 2) := by decide +kernel
theorem dX4_undo_13 : decode cX4_undo 13 = .ok (.invokespecial 107, 3) := by decide +kernel
theorem dX4_undo_16 : decode cX4_undo 16 = .ok (.athrow, 1) := by decide +kernel
theorem dX4_undo_17 : decode cX4_undo 17 = .ok (.aload_n 0, 1) := by decide +kernel
theorem dX4_undo_18 : decode cX4_undo 18 = .ok (.dup, 1) := by decide +kernel
theorem dX4_undo_19 : decode cX4_undo 19 = .ok (.getfield 44, 3) := by decide +kernel
theorem dX4_undo_22 : decode cX4_undo 22 = .ok (.iconst 1, 1) := by decide +kernel
theorem dX4_undo_23 : decode cX4_undo 23 = .ok (.isub, 1) := by decide +kernel
theorem dX4_undo_24 : decode cX4_undo 24 = .ok (.putfield 44, 3) := by decide +kernel
theorem dX4_undo_27 : decode cX4_undo 27 = .ok (.aload_n 0, 1) := by decide +kernel
theorem dX4_undo_28 : decode cX4_undo 28 = .ok (.getfield 16, 3) := by decide +kernel
theorem dX4_undo_31 : decode cX4_undo 31 = .ok (.aload_n 0, 1) := by decide +kernel
theorem dX4_undo_32 : decode cX4_undo 32 = .ok (.getfield 11, 3) := by decide +kernel
theorem dX4_undo_35 : decode cX4_undo 35 = .ok (.aload_n 0, 1) := by decide +kernel
theorem dX4_undo_36 : decode cX4_undo 36 = .ok (.getfield 44, 3) := by decide +kernel
theorem dX4_undo_39 : decode cX4_undo 39 = .ok (.aaload, 1) := by decide +kernel
theorem dX4_undo_40 : decode cX4_undo 40 = .ok (.invokevirtual 76, 3) := by decide +kernel
theorem dX4_undo_43 : decode cX4_undo 43 = .ok (.aload_n 0, 1) := by decide +kernel
theorem dX4_undo_44 : decode cX4_undo 44 = .ok (.getfield 44, 3) := by decide +kernel
theorem dX4_undo_47 : decode cX4_undo 47 = .ok (.ireturn, 1) := by decide +kernel
theorem dX4_connected_0 : decode cX4_connected 0 = .ok (.aload_n 0, 1) := by decide +kernel
theorem dX4_connected_1 : decode cX4_connected 1 = .ok (.iload_n 1, 1) := by decide +kernel
theorem dX4_connected_2 : decode cX4_connected 2 = .ok (.invokevirtual 108, 3) := by decide +kernel
theorem dX4_connected_5 : decode cX4_connected 5 = .ok (.aload_n 0, 1) := by decide +kernel
theorem dX4_connected_6 : decode cX4_connected 6 = .ok (.iload_n 2, 1) := by decide +kernel
theorem dX4_connected_7 : decode cX4_connected 7 = .ok (.invokevirtual 108, 3) := by decide +kernel
theorem dX4_connected_10 : decode cX4_connected 10 = .ok (.aload_n 0, 1) := by decide +kernel
theorem dX4_connected_11 : decode cX4_connected 11 = .ok (.getfield 16, 3) := by decide +kernel
theorem dX4_connected_14 : decode cX4_connected 14 = .ok (.getfield 94, 3) := by decide +kernel
theorem dX4_connected_17 : decode cX4_connected 17 = .ok (.iconst 0, 1) := by decide +kernel
theorem dX4_connected_18 : decode cX4_connected 18 = .ok (.aaload, 1) := by decide +kernel
theorem dX4_connected_19 : decode cX4_connected 19 = .ok (.iload_n 1, 1) := by decide +kernel
theorem dX4_connected_20 : decode cX4_connected 20 = .ok (.invokevirtual 111, 3) := by decide +kernel
theorem dX4_connected_23 : decode cX4_connected 23 = .ok (.iload_n 2, 1) := by decide +kernel
theorem dX4_connected_24 : decode cX4_connected 24 = .ok (.invokestatic 114, 3) := by decide +kernel
theorem dX4_connected_27 : decode cX4_connected 27 = .ok (.ireturn, 1) := by decide +kernel
theorem dX4_node_0 : decode cX4_node 0 = .ok (.aload_n 0, 1) := by decide +kernel
theorem dX4_node_1 : decode cX4_node 1 = .ok (.iload_n 1, 1) := by decide +kernel
theorem dX4_node_2 : decode cX4_node 2 = .ok (.invokevirtual 108, 3) := by decide +kernel
theorem dX4_node_5 : decode cX4_node 5 = .ok (.iload_n 2, 1) := by decide +kernel
theorem dX4_node_6 : decode cX4_node 6 = .ok (.tableswitch 118 0 5 #[38, 48, 62, 82, 92, 105], 38) := by decide +kernel
theorem dX4_node_44 : decode cX4_node 44 = .ok (.aload_n 0, 1) := by decide +kernel
theorem dX4_node_45 : decode cX4_node 45 = .ok (.getfield 16, 3) := by decide +kernel
theorem dX4_node_48 : decode cX4_node 48 = .ok (.getfield 118, 3) := by decide +kernel
theorem dX4_node_51 : decode cX4_node 51 = .ok (.iload_n 1, 1) := by decide +kernel
theorem dX4_node_52 : decode cX4_node 52 = .ok (.iaload, 1) := by decide +kernel
theorem dX4_node_53 : decode cX4_node 53 = .ok (.ireturn, 1) := by decide +kernel
theorem dX4_node_54 : decode cX4_node 54 = .ok (.aload_n 0, 1) := by decide +kernel
theorem dX4_node_55 : decode cX4_node 55 = .ok (.getfield 16, 3) := by decide +kernel
theorem dX4_node_58 : decode cX4_node 58 = .ok (.getfield 94, 3) := by decide +kernel
theorem dX4_node_61 : decode cX4_node 61 = .ok (.iconst 0, 1) := by decide +kernel
theorem dX4_node_62 : decode cX4_node 62 = .ok (.aaload, 1) := by decide +kernel
theorem dX4_node_63 : decode cX4_node 63 = .ok (.iload_n 1, 1) := by decide +kernel
theorem dX4_node_64 : decode cX4_node 64 = .ok (.invokevirtual 111, 3) := by decide +kernel
theorem dX4_node_67 : decode cX4_node 67 = .ok (.ireturn, 1) := by decide +kernel
theorem dX4_node_68 : decode cX4_node 68 = .ok (.aload_n 0, 1) := by decide +kernel
theorem dX4_node_69 : decode cX4_node 69 = .ok (.getfield 16, 3) := by decide +kernel
theorem dX4_node_72 : decode cX4_node 72 = .ok (.iload_n 1, 1) := by decide +kernel
theorem dX4_node_73 : decode cX4_node 73 = .ok (.iconst 0, 1) := by decide +kernel
theorem dX4_node_74 : decode cX4_node 74 = .ok (.invokevirtual 122, 3) := by decide +kernel
theorem dX4_node_77 : decode cX4_node 77 = .ok (.aload_n 0, 1) := by decide +kernel
theorem dX4_node_78 : decode cX4_node 78 = .ok (.getfield 16, 3) := by decide +kernel
theorem dX4_node_81 : decode cX4_node 81 = .ok (.iload_n 1, 1) := by decide +kernel
theorem dX4_node_82 : decode cX4_node 82 = .ok (.iconst 1, 1) := by decide +kernel
theorem dX4_node_83 : decode cX4_node 83 = .ok (.invokevirtual 122, 3) := by decide +kernel
theorem dX4_node_86 : decode cX4_node 86 = .ok (.iadd, 1) := by decide +kernel
theorem dX4_node_87 : decode cX4_node 87 = .ok (.ireturn, 1) := by decide +kernel
theorem dX4_node_88 : decode cX4_node 88 = .ok (.aload_n 0, 1) := by decide +kernel
theorem dX4_node_89 : decode cX4_node 89 = .ok (.getfield 16, 3) := by decide +kernel
theorem dX4_node_92 : decode cX4_node 92 = .ok (.iload_n 1, 1) := by decide +kernel
theorem dX4_node_93 : decode cX4_node 93 = .ok (.iconst 0, 1) := by decide +kernel
theorem dX4_node_94 : decode cX4_node 94 = .ok (.invokevirtual 122, 3) := by decide +kernel
theorem dX4_node_97 : decode cX4_node 97 = .ok (.ireturn, 1) := by decide +kernel
theorem dX4_node_98 : decode cX4_node 98 = .ok (.aload_n 0, 1) := by decide +kernel
theorem dX4_node_99 : decode cX4_node 99 = .ok (.getfield 29, 3) := by decide +kernel
theorem dX4_node_102 : decode cX4_node 102 = .ok (.aload_n 0, 1) := by decide +kernel
theorem dX4_node_103 : decode cX4_node 103 = .ok (.getfield 16, 3) := by decide +kernel
theorem dX4_node_106 : decode cX4_node 106 = .ok (.iload_n 1, 1) := by decide +kernel
theorem dX4_node_107 : decode cX4_node 107 = .ok (.invokevirtual 126, 3) := by decide +kernel
theorem dX4_node_110 : decode cX4_node 110 = .ok (.ireturn, 1) := by decide +kernel
theorem dX4_node_111 : decode cX4_node 111 = .ok (.aload_n 0, 1) := by decide +kernel
theorem dX4_node_112 : decode cX4_node 112 = .ok (.getfield 29, 3) := by decide +kernel
theorem dX4_node_115 : decode cX4_node 115 = .ok (.aload_n 0, 1) := by decide +kernel
theorem dX4_node_116 : decode cX4_node 116 = .ok (.getfield 16, 3) := by decide +kernel
theorem dX4_node_119 : decode cX4_node 119 = .ok (.iload_n 1, 1) := by decide +kernel
theorem dX4_node_120 : decode cX4_node 120 = .ok (.invokevirtual 130, 3) := by decide +kernel
theorem dX4_node_123 : decode cX4_node 123 = .ok (.ireturn, 1) := by decide +kernel
theorem dX4_node_124 : decode cX4_node 124 = .ok (.new 133, 3) := by decide +kernel
theorem dX4_node_127 : decode cX4_node 127 = .ok (.dup, 1) := by decide +kernel
theorem dX4_node_128 : decode cX4_node 128 = .ok (.ldc 135, 2) := by decide +kernel
theorem dX4_node_130 : decode cX4_node 130 = .ok (.invokespecial 137, 3) := by decide +kernel
theorem dX4_node_133 : decode cX4_node 133 = .ok (.athrow, 1) := by decide +kernel
theorem dX4_cable_0 : decode cX4_cable 0 = .ok (.aload_n 0, 1) := by decide +kernel
theorem dX4_cable_1 : decode cX4_cable 1 = .ok (.iload_n 1, 1) := by decide +kernel
theorem dX4_cable_2 : decode cX4_cable 2 = .ok (.invokevirtual 138, 3) := by decide +kernel
theorem dX4_cable_5 : decode cX4_cable 5 = .ok (.iload_n 2, 1) := by decide +kernel
theorem dX4_cable_6 : decode cX4_cable 6 = .ok (.tableswitch 115 0 6 #[42, 52, 62, 72, 82, 92, 102], 42) := by decide +kernel
theorem dX4_cable_48 : decode cX4_cable 48 = .ok (.aload_n 0, 1) := by decide +kernel
theorem dX4_cable_49 : decode cX4_cable 49 = .ok (.getfield 16, 3) := by decide +kernel
theorem dX4_cable_52 : decode cX4_cable 52 = .ok (.getfield 141, 3) := by decide +kernel
theorem dX4_cable_55 : decode cX4_cable 55 = .ok (.iload_n 1, 1) := by decide +kernel
theorem dX4_cable_56 : decode cX4_cable 56 = .ok (.iaload, 1) := by decide +kernel
theorem dX4_cable_57 : decode cX4_cable 57 = .ok (.ireturn, 1) := by decide +kernel
theorem dX4_cable_58 : decode cX4_cable 58 = .ok (.aload_n 0, 1) := by decide +kernel
theorem dX4_cable_59 : decode cX4_cable 59 = .ok (.getfield 16, 3) := by decide +kernel
theorem dX4_cable_62 : decode cX4_cable 62 = .ok (.getfield 144, 3) := by decide +kernel
theorem dX4_cable_65 : decode cX4_cable 65 = .ok (.iload_n 1, 1) := by decide +kernel
theorem dX4_cable_66 : decode cX4_cable 66 = .ok (.iaload, 1) := by decide +kernel
theorem dX4_cable_67 : decode cX4_cable 67 = .ok (.ireturn, 1) := by decide +kernel
theorem dX4_cable_68 : decode cX4_cable 68 = .ok (.aload_n 0, 1) := by decide +kernel
theorem dX4_cable_69 : decode cX4_cable 69 = .ok (.getfield 16, 3) := by decide +kernel
theorem dX4_cable_72 : decode cX4_cable 72 = .ok (.getfield 147, 3) := by decide +kernel
theorem dX4_cable_75 : decode cX4_cable 75 = .ok (.iload_n 1, 1) := by decide +kernel
theorem dX4_cable_76 : decode cX4_cable 76 = .ok (.iaload, 1) := by decide +kernel
theorem dX4_cable_77 : decode cX4_cable 77 = .ok (.ireturn, 1) := by decide +kernel
theorem dX4_cable_78 : decode cX4_cable 78 = .ok (.aload_n 0, 1) := by decide +kernel
theorem dX4_cable_79 : decode cX4_cable 79 = .ok (.getfield 16, 3) := by decide +kernel
theorem dX4_cable_82 : decode cX4_cable 82 = .ok (.getfield 150, 3) := by decide +kernel
theorem dX4_cable_85 : decode cX4_cable 85 = .ok (.iload_n 1, 1) := by decide +kernel
theorem dX4_cable_86 : decode cX4_cable 86 = .ok (.iaload, 1) := by decide +kernel
theorem dX4_cable_87 : decode cX4_cable 87 = .ok (.ireturn, 1) := by decide +kernel
theorem dX4_cable_88 : decode cX4_cable 88 = .ok (.aload_n 0, 1) := by decide +kernel
theorem dX4_cable_89 : decode cX4_cable 89 = .ok (.getfield 16, 3) := by decide +kernel
theorem dX4_cable_92 : decode cX4_cable 92 = .ok (.getfield 153, 3) := by decide +kernel
theorem dX4_cable_95 : decode cX4_cable 95 = .ok (.iload_n 1, 1) := by decide +kernel
theorem dX4_cable_96 : decode cX4_cable 96 = .ok (.iaload, 1) := by decide +kernel
theorem dX4_cable_97 : decode cX4_cable 97 = .ok (.ireturn, 1) := by decide +kernel
theorem dX4_cable_98 : decode cX4_cable 98 = .ok (.aload_n 0, 1) := by decide +kernel
theorem dX4_cable_99 : decode cX4_cable 99 = .ok (.getfield 16, 3) := by decide +kernel
theorem dX4_cable_102 : decode cX4_cable 102 = .ok (.getfield 156, 3) := by decide +kernel
theorem dX4_cable_105 : decode cX4_cable 105 = .ok (.iload_n 1, 1) := by decide +kernel
theorem dX4_cable_106 : decode cX4_cable 106 = .ok (.iaload, 1) := by decide +kernel
theorem dX4_cable_107 : decode cX4_cable 107 = .ok (.ireturn, 1) := by decide +kernel
theorem dX4_cable_108 : decode cX4_cable 108 = .ok (.aload_n 0, 1) := by decide +kernel
theorem dX4_cable_109 : decode cX4_cable 109 = .ok (.getfield 29, 3) := by decide +kernel
theorem dX4_cable_112 : decode cX4_cable 112 = .ok (.aload_n 0, 1) := by decide +kernel
theorem dX4_cable_113 : decode cX4_cable 113 = .ok (.getfield 16, 3) := by decide +kernel
theorem dX4_cable_116 : decode cX4_cable 116 = .ok (.iload_n 1, 1) := by decide +kernel
theorem dX4_cable_117 : decode cX4_cable 117 = .ok (.invokevirtual 159, 3) := by decide +kernel
theorem dX4_cable_120 : decode cX4_cable 120 = .ok (.ireturn, 1) := by decide +kernel
theorem dX4_cable_121 : decode cX4_cable 121 = .ok (.new 133, 3) := by decide +kernel
theorem dX4_cable_124 : decode cX4_cable 124 = .ok (.dup, 1) := by decide +kernel
theorem dX4_cable_125 : decode cX4_cable 125 = .ok (.ldc 162, 2) := by decide +kernel
theorem dX4_cable_127 : decode cX4_cable 127 = .ok (.invokespecial 137, 3) := by decide +kernel
theorem dX4_cable_130 : decode cX4_cable 130 = .ok (.athrow, 1) := by decide +kernel
theorem dX4_part_0 : decode cX4_part 0 = .ok (.aload_n 0, 1) := by decide +kernel
theorem dX4_part_1 : decode cX4_part 1 = .ok (.iload_n 1, 1) := by decide +kernel
theorem dX4_part_2 : decode cX4_part 2 = .ok (.invokevirtual 164, 3) := by decide +kernel
theorem dX4_part_5 : decode cX4_part 5 = .ok (.aload_n 0, 1) := by decide +kernel
theorem dX4_part_6 : decode cX4_part 6 = .ok (.iload_n 2, 1) := by decide +kernel
theorem dX4_part_7 : decode cX4_part 7 = .ok (.invokevirtual 108, 3) := by decide +kernel
theorem dX4_part_10 : decode cX4_part 10 = .ok (.aload_n 0, 1) := by decide +kernel
theorem dX4_part_11 : decode cX4_part 11 = .ok (.getfield 16, 3) := by decide +kernel
theorem dX4_part_14 : decode cX4_part 14 = .ok (.getfield 94, 3) := by decide +kernel
theorem dX4_part_17 : decode cX4_part 17 = .ok (.iload_n 1, 1) := by decide +kernel
theorem dX4_part_18 : decode cX4_part 18 = .ok (.aaload, 1) := by decide +kernel
theorem dX4_part_19 : decode cX4_part 19 = .ok (.iload_n 2, 1) := by decide +kernel
theorem dX4_part_20 : decode cX4_part 20 = .ok (.invokevirtual 111, 3) := by decide +kernel
theorem dX4_part_23 : decode cX4_part 23 = .ok (.ireturn, 1) := by decide +kernel
theorem dX4_level_0 : decode cX4_level 0 = .ok (.aload_n 0, 1) := by decide +kernel
theorem dX4_level_1 : decode cX4_level 1 = .ok (.iload_n 1, 1) := by decide +kernel
theorem dX4_level_2 : decode cX4_level 2 = .ok (.invokevirtual 164, 3) := by decide +kernel
theorem dX4_level_5 : decode cX4_level 5 = .ok (.iload_n 2, 1) := by decide +kernel
theorem dX4_level_6 : decode cX4_level 6 = .ok (.tableswitch 76 0 3 #[30, 43, 53, 63], 30) := by decide +kernel
theorem dX4_level_36 : decode cX4_level 36 = .ok (.aload_n 0, 1) := by decide +kernel
theorem dX4_level_37 : decode cX4_level 37 = .ok (.getfield 16, 3) := by decide +kernel
theorem dX4_level_40 : decode cX4_level 40 = .ok (.getfield 94, 3) := by decide +kernel
theorem dX4_level_43 : decode cX4_level 43 = .ok (.iload_n 1, 1) := by decide +kernel
theorem dX4_level_44 : decode cX4_level 44 = .ok (.aaload, 1) := by decide +kernel
theorem dX4_level_45 : decode cX4_level 45 = .ok (.invokevirtual 98, 3) := by decide +kernel
theorem dX4_level_48 : decode cX4_level 48 = .ok (.ireturn, 1) := by decide +kernel
theorem dX4_level_49 : decode cX4_level 49 = .ok (.aload_n 0, 1) := by decide +kernel
theorem dX4_level_50 : decode cX4_level 50 = .ok (.getfield 16, 3) := by decide +kernel
theorem dX4_level_53 : decode cX4_level 53 = .ok (.iload_n 1, 1) := by decide +kernel
theorem dX4_level_54 : decode cX4_level 54 = .ok (.iconst 0, 1) := by decide +kernel
theorem dX4_level_55 : decode cX4_level 55 = .ok (.invokevirtual 167, 3) := by decide +kernel
theorem dX4_level_58 : decode cX4_level 58 = .ok (.ireturn, 1) := by decide +kernel
theorem dX4_level_59 : decode cX4_level 59 = .ok (.aload_n 0, 1) := by decide +kernel
theorem dX4_level_60 : decode cX4_level 60 = .ok (.getfield 16, 3) := by decide +kernel
theorem dX4_level_63 : decode cX4_level 63 = .ok (.iload_n 1, 1) := by decide +kernel
theorem dX4_level_64 : decode cX4_level 64 = .ok (.iconst 1, 1) := by decide +kernel
theorem dX4_level_65 : decode cX4_level 65 = .ok (.invokevirtual 167, 3) := by decide +kernel
theorem dX4_level_68 : decode cX4_level 68 = .ok (.ireturn, 1) := by decide +kernel
theorem dX4_level_69 : decode cX4_level 69 = .ok (.aload_n 0, 1) := by decide +kernel
theorem dX4_level_70 : decode cX4_level 70 = .ok (.getfield 16, 3) := by decide +kernel
theorem dX4_level_73 : decode cX4_level 73 = .ok (.getfield 94, 3) := by decide +kernel
theorem dX4_level_76 : decode cX4_level 76 = .ok (.iload_n 1, 1) := by decide +kernel
theorem dX4_level_77 : decode cX4_level 77 = .ok (.aaload, 1) := by decide +kernel
theorem dX4_level_78 : decode cX4_level 78 = .ok (.invokevirtual 170, 3) := by decide +kernel
theorem dX4_level_81 : decode cX4_level 81 = .ok (.ireturn, 1) := by decide +kernel
theorem dX4_level_82 : decode cX4_level 82 = .ok (.new 133, 3) := by decide +kernel
theorem dX4_level_85 : decode cX4_level 85 = .ok (.dup, 1) := by decide +kernel
theorem dX4_level_86 : decode cX4_level 86 = .ok (.ldc 173, 2) := by decide +kernel
theorem dX4_level_88 : decode cX4_level 88 = .ok (.invokespecial 137, 3) := by decide +kernel
theorem dX4_level_91 : decode cX4_level 91 = .ok (.athrow, 1) := by decide +kernel
theorem dX4_tour_0 : decode cX4_tour 0 = .ok (.aload_n 0, 1) := by decide +kernel
theorem dX4_tour_1 : decode cX4_tour 1 = .ok (.iload_n 1, 1) := by decide +kernel
theorem dX4_tour_2 : decode cX4_tour 2 = .ok (.invokevirtual 164, 3) := by decide +kernel
theorem dX4_tour_5 : decode cX4_tour 5 = .ok (.aload_n 0, 1) := by decide +kernel
theorem dX4_tour_6 : decode cX4_tour 6 = .ok (.iload_n 2, 1) := by decide +kernel
theorem dX4_tour_7 : decode cX4_tour 7 = .ok (.invokevirtual 108, 3) := by decide +kernel
theorem dX4_tour_10 : decode cX4_tour 10 = .ok (.aload_n 0, 1) := by decide +kernel
theorem dX4_tour_11 : decode cX4_tour 11 = .ok (.getfield 16, 3) := by decide +kernel
theorem dX4_tour_14 : decode cX4_tour 14 = .ok (.getfield 94, 3) := by decide +kernel
theorem dX4_tour_17 : decode cX4_tour 17 = .ok (.iload_n 1, 1) := by decide +kernel
theorem dX4_tour_18 : decode cX4_tour 18 = .ok (.aaload, 1) := by decide +kernel
theorem dX4_tour_19 : decode cX4_tour 19 = .ok (.iload_n 2, 1) := by decide +kernel
theorem dX4_tour_20 : decode cX4_tour 20 = .ok (.iload_n 3, 1) := by decide +kernel
theorem dX4_tour_21 : decode cX4_tour 21 = .ok (.invokevirtual 175, 3) := by decide +kernel
theorem dX4_tour_24 : decode cX4_tour 24 = .ok (.ireturn, 1) := by decide +kernel
theorem dX4_deep_0 : decode cX4_deep 0 = .ok (.aload_n 0, 1) := by decide +kernel
theorem dX4_deep_1 : decode cX4_deep 1 = .ok (.iload_n 1, 1) := by decide +kernel
theorem dX4_deep_2 : decode cX4_deep 2 = .ok (.invokevirtual 164, 3) := by decide +kernel
theorem dX4_deep_5 : decode cX4_deep 5 = .ok (.aload_n 0, 1) := by decide +kernel
theorem dX4_deep_6 : decode cX4_deep 6 = .ok (.iload_n 2, 1) := by decide +kernel
theorem dX4_deep_7 : decode cX4_deep 7 = .ok (.invokevirtual 108, 3) := by decide +kernel
theorem dX4_deep_10 : decode cX4_deep 10 = .ok (.aload_n 0, 1) := by decide +kernel
theorem dX4_deep_11 : decode cX4_deep 11 = .ok (.getfield 16, 3) := by decide +kernel
theorem dX4_deep_14 : decode cX4_deep 14 = .ok (.getfield 94, 3) := by decide +kernel
theorem dX4_deep_17 : decode cX4_deep 17 = .ok (.iload_n 1, 1) := by decide +kernel
theorem dX4_deep_18 : decode cX4_deep 18 = .ok (.aaload, 1) := by decide +kernel
theorem dX4_deep_19 : decode cX4_deep 19 = .ok (.iload_n 2, 1) := by decide +kernel
theorem dX4_deep_20 : decode cX4_deep 20 = .ok (.invokevirtual 178, 3) := by decide +kernel
theorem dX4_deep_23 : decode cX4_deep 23 = .ok (.ireturn, 1) := by decide +kernel
theorem dX4_way_0 : decode cX4_way 0 = .ok (.aload_n 0, 1) := by decide +kernel
theorem dX4_way_1 : decode cX4_way 1 = .ok (.iload_n 1, 1) := by decide +kernel
theorem dX4_way_2 : decode cX4_way 2 = .ok (.invokevirtual 108, 3) := by decide +kernel
theorem dX4_way_5 : decode cX4_way 5 = .ok (.aload_n 0, 1) := by decide +kernel
theorem dX4_way_6 : decode cX4_way 6 = .ok (.iload_n 2, 1) := by decide +kernel
theorem dX4_way_7 : decode cX4_way 7 = .ok (.invokevirtual 108, 3) := by decide +kernel
theorem dX4_way_10 : decode cX4_way 10 = .ok (.iload_n 3, 1) := by decide +kernel
theorem dX4_way_11 : decode cX4_way 11 = .ok (.iconst (-1), 1) := by decide +kernel
theorem dX4_way_12 : decode cX4_way 12 = .ok (.if_icmp .ne 19, 3) := by decide +kernel
theorem dX4_way_15 : decode cX4_way 15 = .ok (.aload_n 0, 1) := by decide +kernel
theorem dX4_way_16 : decode cX4_way 16 = .ok (.getfield 29, 3) := by decide +kernel
theorem dX4_way_19 : decode cX4_way 19 = .ok (.aload_n 0, 1) := by decide +kernel
theorem dX4_way_20 : decode cX4_way 20 = .ok (.getfield 16, 3) := by decide +kernel
theorem dX4_way_23 : decode cX4_way 23 = .ok (.iload_n 1, 1) := by decide +kernel
theorem dX4_way_24 : decode cX4_way 24 = .ok (.iload_n 2, 1) := by decide +kernel
theorem dX4_way_25 : decode cX4_way 25 = .ok (.invokevirtual 181, 3) := by decide +kernel
theorem dX4_way_28 : decode cX4_way 28 = .ok (.goto 17, 3) := by decide +kernel
theorem dX4_way_31 : decode cX4_way 31 = .ok (.aload_n 0, 1) := by decide +kernel
theorem dX4_way_32 : decode cX4_way 32 = .ok (.getfield 29, 3) := by decide +kernel
theorem dX4_way_35 : decode cX4_way 35 = .ok (.aload_n 0, 1) := by decide +kernel
theorem dX4_way_36 : decode cX4_way 36 = .ok (.getfield 16, 3) := by decide +kernel
theorem dX4_way_39 : decode cX4_way 39 = .ok (.iload_n 1, 1) := by decide +kernel
theorem dX4_way_40 : decode cX4_way 40 = .ok (.iload_n 2, 1) := by decide +kernel
theorem dX4_way_41 : decode cX4_way 41 = .ok (.iload_n 3, 1) := by decide +kernel
theorem dX4_way_42 : decode cX4_way 42 = .ok (.invokevirtual 185, 3) := by decide +kernel
theorem dX4_way_45 : decode cX4_way 45 = .ok (.ireturn, 1) := by decide +kernel
theorem dX4_near_0 : decode cX4_near 0 = .ok (.aload_n 0, 1) := by decide +kernel
theorem dX4_near_1 : decode cX4_near 1 = .ok (.iload_n 1, 1) := by decide +kernel
theorem dX4_near_2 : decode cX4_near 2 = .ok (.invokevirtual 108, 3) := by decide +kernel
theorem dX4_near_5 : decode cX4_near 5 = .ok (.aload_n 0, 1) := by decide +kernel
theorem dX4_near_6 : decode cX4_near 6 = .ok (.iload_n 2, 1) := by decide +kernel
theorem dX4_near_7 : decode cX4_near 7 = .ok (.invokevirtual 108, 3) := by decide +kernel
theorem dX4_near_10 : decode cX4_near 10 = .ok (.aload_n 0, 1) := by decide +kernel
theorem dX4_near_11 : decode cX4_near 11 = .ok (.getfield 29, 3) := by decide +kernel
theorem dX4_near_14 : decode cX4_near 14 = .ok (.aload_n 0, 1) := by decide +kernel
theorem dX4_near_15 : decode cX4_near 15 = .ok (.getfield 16, 3) := by decide +kernel
theorem dX4_near_18 : decode cX4_near 18 = .ok (.iload_n 1, 1) := by decide +kernel
theorem dX4_near_19 : decode cX4_near 19 = .ok (.iload_n 2, 1) := by decide +kernel
theorem dX4_near_20 : decode cX4_near 20 = .ok (.invokevirtual 189, 3) := by decide +kernel
theorem dX4_near_23 : decode cX4_near 23 = .ok (.ireturn, 1) := by decide +kernel
theorem dX4_heir_0 : decode cX4_heir 0 = .ok (.aload_n 0, 1) := by decide +kernel
theorem dX4_heir_1 : decode cX4_heir 1 = .ok (.iload_n 1, 1) := by decide +kernel
theorem dX4_heir_2 : decode cX4_heir 2 = .ok (.invokevirtual 138, 3) := by decide +kernel
theorem dX4_heir_5 : decode cX4_heir 5 = .ok (.aload_n 0, 1) := by decide +kernel
theorem dX4_heir_6 : decode cX4_heir 6 = .ok (.getfield 16, 3) := by decide +kernel
theorem dX4_heir_9 : decode cX4_heir 9 = .ok (.getfield 147, 3) := by decide +kernel
theorem dX4_heir_12 : decode cX4_heir 12 = .ok (.iload_n 1, 1) := by decide +kernel
theorem dX4_heir_13 : decode cX4_heir 13 = .ok (.iaload, 1) := by decide +kernel
theorem dX4_heir_14 : decode cX4_heir 14 = .ok (.ifCond .eq 13, 3) := by decide +kernel
theorem dX4_heir_17 : decode cX4_heir 17 = .ok (.new 103, 3) := by decide +kernel
theorem dX4_heir_20 : decode cX4_heir 20 = .ok (.dup, 1) := by decide +kernel
theorem dX4_heir_21 : decode cX4_heir 21 = .ok (.ldc 192, 2) := by decide +kernel
theorem dX4_heir_23 : decode cX4_heir 23 = .ok (.invokespecial 107, 3) := by decide +kernel
theorem dX4_heir_26 : decode cX4_heir 26 = .ok (.athrow, 1) := by decide +kernel
theorem dX4_heir_27 : decode cX4_heir 27 = .ok (.aload_n 0, 1) := by decide +kernel
theorem dX4_heir_28 : decode cX4_heir 28 = .ok (.getfield 20, 3) := by decide +kernel
theorem dX4_heir_31 : decode cX4_heir 31 = .ok (.aload_n 0, 1) := by decide +kernel
theorem dX4_heir_32 : decode cX4_heir 32 = .ok (.getfield 16, 3) := by decide +kernel
theorem dX4_heir_35 : decode cX4_heir 35 = .ok (.invokevirtual 76, 3) := by decide +kernel
theorem dX4_heir_38 : decode cX4_heir 38 = .ok (.aload_n 0, 1) := by decide +kernel
theorem dX4_heir_39 : decode cX4_heir 39 = .ok (.getfield 20, 3) := by decide +kernel
theorem dX4_heir_42 : decode cX4_heir 42 = .ok (.iload_n 1, 1) := by decide +kernel
theorem dX4_heir_43 : decode cX4_heir 43 = .ok (.invokevirtual 194, 3) := by decide +kernel
theorem dX4_heir_46 : decode cX4_heir 46 = .ok (.ireturn, 1) := by decide +kernel
theorem dX4_would_0 : decode cX4_would 0 = .ok (.aload_n 0, 1) := by decide +kernel
theorem dX4_would_1 : decode cX4_would 1 = .ok (.iload_n 1, 1) := by decide +kernel
theorem dX4_would_2 : decode cX4_would 2 = .ok (.invokevirtual 138, 3) := by decide +kernel
theorem dX4_would_5 : decode cX4_would 5 = .ok (.iload_n 2, 1) := by decide +kernel
theorem dX4_would_6 : decode cX4_would 6 = .ok (.ifCond .eq 18, 3) := by decide +kernel
theorem dX4_would_9 : decode cX4_would 9 = .ok (.iload_n 2, 1) := by decide +kernel
theorem dX4_would_10 : decode cX4_would 10 = .ok (.iconst 1, 1) := by decide +kernel
theorem dX4_would_11 : decode cX4_would 11 = .ok (.if_icmp .eq 13, 3) := by decide +kernel
theorem dX4_would_14 : decode cX4_would 14 = .ok (.new 133, 3) := by decide +kernel
theorem dX4_would_17 : decode cX4_would 17 = .ok (.dup, 1) := by decide +kernel
theorem dX4_would_18 : decode cX4_would 18 = .ok (.ldc 197, 2) := by decide +kernel
theorem dX4_would_20 : decode cX4_would 20 = .ok (.invokespecial 137, 3) := by decide +kernel
theorem dX4_would_23 : decode cX4_would 23 = .ok (.athrow, 1) := by decide +kernel
theorem dX4_would_24 : decode cX4_would 24 = .ok (.aload_n 0, 1) := by decide +kernel
theorem dX4_would_25 : decode cX4_would 25 = .ok (.getfield 16, 3) := by decide +kernel
theorem dX4_would_28 : decode cX4_would 28 = .ok (.getfield 147, 3) := by decide +kernel
theorem dX4_would_31 : decode cX4_would 31 = .ok (.iload_n 1, 1) := by decide +kernel
theorem dX4_would_32 : decode cX4_would 32 = .ok (.iaload, 1) := by decide +kernel
theorem dX4_would_33 : decode cX4_would 33 = .ok (.iconst 2, 1) := by decide +kernel
theorem dX4_would_34 : decode cX4_would 34 = .ok (.if_icmp .ne 13, 3) := by decide +kernel
theorem dX4_would_37 : decode cX4_would 37 = .ok (.new 103, 3) := by decide +kernel
theorem dX4_would_40 : decode cX4_would 40 = .ok (.dup, 1) := by decide +kernel
theorem dX4_would_41 : decode cX4_would 41 = .ok (.ldc 199, 2) := by decide +kernel
theorem dX4_would_43 : decode cX4_would 43 = .ok (.invokespecial 107, 3) := by decide +kernel
theorem dX4_would_46 : decode cX4_would 46 = .ok (.athrow, 1) := by decide +kernel
theorem dX4_would_47 : decode cX4_would 47 = .ok (.aload_n 0, 1) := by decide +kernel
theorem dX4_would_48 : decode cX4_would 48 = .ok (.getfield 20, 3) := by decide +kernel
theorem dX4_would_51 : decode cX4_would 51 = .ok (.aload_n 0, 1) := by decide +kernel
theorem dX4_would_52 : decode cX4_would 52 = .ok (.getfield 16, 3) := by decide +kernel
theorem dX4_would_55 : decode cX4_would 55 = .ok (.invokevirtual 76, 3) := by decide +kernel
theorem dX4_would_58 : decode cX4_would 58 = .ok (.aload_n 0, 1) := by decide +kernel
theorem dX4_would_59 : decode cX4_would 59 = .ok (.getfield 20, 3) := by decide +kernel
theorem dX4_would_62 : decode cX4_would 62 = .ok (.iload_n 1, 1) := by decide +kernel
theorem dX4_would_63 : decode cX4_would 63 = .ok (.invokevirtual 194, 3) := by decide +kernel
theorem dX4_would_66 : decode cX4_would 66 = .ok (.pop, 1) := by decide +kernel
theorem dX4_would_67 : decode cX4_would 67 = .ok (.iload_n 2, 1) := by decide +kernel
theorem dX4_would_68 : decode cX4_would 68 = .ok (.ifCond .ne 21, 3) := by decide +kernel
theorem dX4_would_71 : decode cX4_would 71 = .ok (.aload_n 0, 1) := by decide +kernel
theorem dX4_would_72 : decode cX4_would 72 = .ok (.getfield 20, 3) := by decide +kernel
theorem dX4_would_75 : decode cX4_would 75 = .ok (.getfield 201, 3) := by decide +kernel
theorem dX4_would_78 : decode cX4_would 78 = .ok (.aload_n 0, 1) := by decide +kernel
theorem dX4_would_79 : decode cX4_would 79 = .ok (.getfield 16, 3) := by decide +kernel
theorem dX4_would_82 : decode cX4_would 82 = .ok (.getfield 201, 3) := by decide +kernel
theorem dX4_would_85 : decode cX4_would 85 = .ok (.isub, 1) := by decide +kernel
theorem dX4_would_86 : decode cX4_would 86 = .ok (.goto 18, 3) := by decide +kernel
theorem dX4_would_89 : decode cX4_would 89 = .ok (.aload_n 0, 1) := by decide +kernel
theorem dX4_would_90 : decode cX4_would 90 = .ok (.getfield 20, 3) := by decide +kernel
theorem dX4_would_93 : decode cX4_would 93 = .ok (.getfield 204, 3) := by decide +kernel
theorem dX4_would_96 : decode cX4_would 96 = .ok (.aload_n 0, 1) := by decide +kernel
theorem dX4_would_97 : decode cX4_would 97 = .ok (.getfield 16, 3) := by decide +kernel
theorem dX4_would_100 : decode cX4_would 100 = .ok (.getfield 204, 3) := by decide +kernel
theorem dX4_would_103 : decode cX4_would 103 = .ok (.isub, 1) := by decide +kernel
theorem dX4_would_104 : decode cX4_would 104 = .ok (.ireturn, 1) := by decide +kernel
theorem dX4_bridge_0 : decode cX4_bridge 0 = .ok (.aload_n 0, 1) := by decide +kernel
theorem dX4_bridge_1 : decode cX4_bridge 1 = .ok (.iload_n 1, 1) := by decide +kernel
theorem dX4_bridge_2 : decode cX4_bridge 2 = .ok (.invokevirtual 138, 3) := by decide +kernel
theorem dX4_bridge_5 : decode cX4_bridge 5 = .ok (.aload_n 0, 1) := by decide +kernel
theorem dX4_bridge_6 : decode cX4_bridge 6 = .ok (.getfield 29, 3) := by decide +kernel
theorem dX4_bridge_9 : decode cX4_bridge 9 = .ok (.aload_n 0, 1) := by decide +kernel
theorem dX4_bridge_10 : decode cX4_bridge 10 = .ok (.getfield 16, 3) := by decide +kernel
theorem dX4_bridge_13 : decode cX4_bridge 13 = .ok (.iload_n 1, 1) := by decide +kernel
theorem dX4_bridge_14 : decode cX4_bridge 14 = .ok (.invokevirtual 159, 3) := by decide +kernel
theorem dX4_bridge_17 : decode cX4_bridge 17 = .ok (.ifCond .le 7, 3) := by decide +kernel
theorem dX4_bridge_20 : decode cX4_bridge 20 = .ok (.iconst 1, 1) := by decide +kernel
theorem dX4_bridge_21 : decode cX4_bridge 21 = .ok (.goto 4, 3) := by decide +kernel
theorem dX4_bridge_24 : decode cX4_bridge 24 = .ok (.iconst 0, 1) := by decide +kernel
theorem dX4_bridge_25 : decode cX4_bridge 25 = .ok (.ireturn, 1) := by decide +kernel
theorem dX4_kin_0 : decode cX4_kin 0 = .ok (.aload_n 0, 1) := by decide +kernel
theorem dX4_kin_1 : decode cX4_kin 1 = .ok (.iload_n 1, 1) := by decide +kernel
theorem dX4_kin_2 : decode cX4_kin 2 = .ok (.invokevirtual 164, 3) := by decide +kernel
theorem dX4_kin_5 : decode cX4_kin 5 = .ok (.aload_n 0, 1) := by decide +kernel
theorem dX4_kin_6 : decode cX4_kin 6 = .ok (.iload_n 2, 1) := by decide +kernel
theorem dX4_kin_7 : decode cX4_kin 7 = .ok (.invokevirtual 108, 3) := by decide +kernel
theorem dX4_kin_10 : decode cX4_kin 10 = .ok (.iload_n 3, 1) := by decide +kernel
theorem dX4_kin_11 : decode cX4_kin 11 = .ok (.lookupswitch 49 #[(0, 25), (1, 35)], 25) := by decide +kernel
theorem dX4_kin_36 : decode cX4_kin 36 = .ok (.aload_n 0, 1) := by decide +kernel
theorem dX4_kin_37 : decode cX4_kin 37 = .ok (.getfield 16, 3) := by decide +kernel
theorem dX4_kin_40 : decode cX4_kin 40 = .ok (.iload_n 1, 1) := by decide +kernel
theorem dX4_kin_41 : decode cX4_kin 41 = .ok (.iload_n 2, 1) := by decide +kernel
theorem dX4_kin_42 : decode cX4_kin 42 = .ok (.invokevirtual 207, 3) := by decide +kernel
theorem dX4_kin_45 : decode cX4_kin 45 = .ok (.ireturn, 1) := by decide +kernel
theorem dX4_kin_46 : decode cX4_kin 46 = .ok (.aload_n 0, 1) := by decide +kernel
theorem dX4_kin_47 : decode cX4_kin 47 = .ok (.getfield 16, 3) := by decide +kernel
theorem dX4_kin_50 : decode cX4_kin 50 = .ok (.getfield 94, 3) := by decide +kernel
theorem dX4_kin_53 : decode cX4_kin 53 = .ok (.iload_n 1, 1) := by decide +kernel
theorem dX4_kin_54 : decode cX4_kin 54 = .ok (.aaload, 1) := by decide +kernel
theorem dX4_kin_55 : decode cX4_kin 55 = .ok (.iload_n 2, 1) := by decide +kernel
theorem dX4_kin_56 : decode cX4_kin 56 = .ok (.invokevirtual 210, 3) := by decide +kernel
theorem dX4_kin_59 : decode cX4_kin 59 = .ok (.ireturn, 1) := by decide +kernel
theorem dX4_kin_60 : decode cX4_kin 60 = .ok (.new 133, 3) := by decide +kernel
theorem dX4_kin_63 : decode cX4_kin 63 = .ok (.dup, 1) := by decide +kernel
theorem dX4_kin_64 : decode cX4_kin 64 = .ok (.ldc 197, 2) := by decide +kernel
theorem dX4_kin_66 : decode cX4_kin 66 = .ok (.invokespecial 137, 3) := by decide +kernel
theorem dX4_kin_69 : decode cX4_kin 69 = .ok (.athrow, 1) := by decide +kernel
theorem dX4_meet_0 : decode cX4_meet 0 = .ok (.aload_n 0, 1) := by decide +kernel
theorem dX4_meet_1 : decode cX4_meet 1 = .ok (.iload_n 1, 1) := by decide +kernel
theorem dX4_meet_2 : decode cX4_meet 2 = .ok (.invokevirtual 164, 3) := by decide +kernel
theorem dX4_meet_5 : decode cX4_meet 5 = .ok (.aload_n 0, 1) := by decide +kernel
theorem dX4_meet_6 : decode cX4_meet 6 = .ok (.iload_n 2, 1) := by decide +kernel
theorem dX4_meet_7 : decode cX4_meet 7 = .ok (.invokevirtual 108, 3) := by decide +kernel
theorem dX4_meet_10 : decode cX4_meet 10 = .ok (.aload_n 0, 1) := by decide +kernel
theorem dX4_meet_11 : decode cX4_meet 11 = .ok (.iload_n 3, 1) := by decide +kernel
theorem dX4_meet_12 : decode cX4_meet 12 = .ok (.invokevirtual 108, 3) := by decide +kernel
theorem dX4_meet_15 : decode cX4_meet 15 = .ok (.aload_n 0, 1) := by decide +kernel
theorem dX4_meet_16 : decode cX4_meet 16 = .ok (.getfield 16, 3) := by decide +kernel
theorem dX4_meet_19 : decode cX4_meet 19 = .ok (.iload_n 1, 1) := by decide +kernel
theorem dX4_meet_20 : decode cX4_meet 20 = .ok (.iload_n 2, 1) := by decide +kernel
theorem dX4_meet_21 : decode cX4_meet 21 = .ok (.iload_n 3, 1) := by decide +kernel
theorem dX4_meet_22 : decode cX4_meet 22 = .ok (.invokevirtual 213, 3) := by decide +kernel
theorem dX4_meet_25 : decode cX4_meet 25 = .ok (.ireturn, 1) := by decide +kernel
theorem dX4_within_0 : decode cX4_within 0 = .ok (.aload_n 0, 1) := by decide +kernel
theorem dX4_within_1 : decode cX4_within 1 = .ok (.iload_n 1, 1) := by decide +kernel
theorem dX4_within_2 : decode cX4_within 2 = .ok (.invokevirtual 108, 3) := by decide +kernel
theorem dX4_within_5 : decode cX4_within 5 = .ok (.iload_n 2, 1) := by decide +kernel
theorem dX4_within_6 : decode cX4_within 6 = .ok (.ifCond .lt 9, 3) := by decide +kernel
theorem dX4_within_9 : decode cX4_within 9 = .ok (.iload_n 2, 1) := by decide +kernel
theorem dX4_within_10 : decode cX4_within 10 = .ok (.bipush 16, 2) := by decide +kernel
theorem dX4_within_12 : decode cX4_within 12 = .ok (.if_icmp .le 13, 3) := by decide +kernel
theorem dX4_within_15 : decode cX4_within 15 = .ok (.new 69, 3) := by decide +kernel
theorem dX4_within_18 : decode cX4_within 18 = .ok (.dup, 1) := by decide +kernel
theorem dX4_within_19 : decode cX4_within 19 = .ok (.ldc 216, 2) := by decide +kernel
theorem dX4_within_21 : decode cX4_within 21 = .ok (.invokespecial 73, 3) := by decide +kernel
theorem dX4_within_24 : decode cX4_within 24 = .ok (.athrow, 1) := by decide +kernel
theorem dX4_within_25 : decode cX4_within 25 = .ok (.aload_n 0, 1) := by decide +kernel
theorem dX4_within_26 : decode cX4_within 26 = .ok (.getfield 29, 3) := by decide +kernel
theorem dX4_within_29 : decode cX4_within 29 = .ok (.aload_n 0, 1) := by decide +kernel
theorem dX4_within_30 : decode cX4_within 30 = .ok (.getfield 16, 3) := by decide +kernel
theorem dX4_within_33 : decode cX4_within 33 = .ok (.iload_n 1, 1) := by decide +kernel
theorem dX4_within_34 : decode cX4_within 34 = .ok (.iload_n 2, 1) := by decide +kernel
theorem dX4_within_35 : decode cX4_within 35 = .ok (.invokevirtual 218, 3) := by decide +kernel
theorem dX4_within_38 : decode cX4_within 38 = .ok (.ireturn, 1) := by decide +kernel
theorem dX4_odds_0 : decode cX4_odds 0 = .ok (.aload_n 0, 1) := by decide +kernel
theorem dX4_odds_1 : decode cX4_odds 1 = .ok (.iload_n 1, 1) := by decide +kernel
theorem dX4_odds_2 : decode cX4_odds 2 = .ok (.invokevirtual 108, 3) := by decide +kernel
theorem dX4_odds_5 : decode cX4_odds 5 = .ok (.aload_n 0, 1) := by decide +kernel
theorem dX4_odds_6 : decode cX4_odds 6 = .ok (.iload_n 2, 1) := by decide +kernel
theorem dX4_odds_7 : decode cX4_odds 7 = .ok (.invokevirtual 108, 3) := by decide +kernel
theorem dX4_odds_10 : decode cX4_odds 10 = .ok (.aload_n 0, 1) := by decide +kernel
theorem dX4_odds_11 : decode cX4_odds 11 = .ok (.getfield 29, 3) := by decide +kernel
theorem dX4_odds_14 : decode cX4_odds 14 = .ok (.aload_n 0, 1) := by decide +kernel
theorem dX4_odds_15 : decode cX4_odds 15 = .ok (.getfield 16, 3) := by decide +kernel
theorem dX4_odds_18 : decode cX4_odds 18 = .ok (.iload_n 1, 1) := by decide +kernel
theorem dX4_odds_19 : decode cX4_odds 19 = .ok (.iload_n 2, 1) := by decide +kernel
theorem dX4_odds_20 : decode cX4_odds 20 = .ok (.invokevirtual 221, 3) := by decide +kernel
theorem dX4_odds_23 : decode cX4_odds 23 = .ok (.ireturn, 1) := by decide +kernel
theorem dX4_fare_0 : decode cX4_fare 0 = .ok (.aload_n 0, 1) := by decide +kernel
theorem dX4_fare_1 : decode cX4_fare 1 = .ok (.iload_n 1, 1) := by decide +kernel
theorem dX4_fare_2 : decode cX4_fare 2 = .ok (.invokevirtual 108, 3) := by decide +kernel
theorem dX4_fare_5 : decode cX4_fare 5 = .ok (.aload_n 0, 1) := by decide +kernel
theorem dX4_fare_6 : decode cX4_fare 6 = .ok (.iload_n 2, 1) := by decide +kernel
theorem dX4_fare_7 : decode cX4_fare 7 = .ok (.invokevirtual 108, 3) := by decide +kernel
theorem dX4_fare_10 : decode cX4_fare 10 = .ok (.aload_n 0, 1) := by decide +kernel
theorem dX4_fare_11 : decode cX4_fare 11 = .ok (.getfield 29, 3) := by decide +kernel
theorem dX4_fare_14 : decode cX4_fare 14 = .ok (.aload_n 0, 1) := by decide +kernel
theorem dX4_fare_15 : decode cX4_fare 15 = .ok (.getfield 16, 3) := by decide +kernel
theorem dX4_fare_18 : decode cX4_fare 18 = .ok (.iload_n 1, 1) := by decide +kernel
theorem dX4_fare_19 : decode cX4_fare 19 = .ok (.iload_n 2, 1) := by decide +kernel
theorem dX4_fare_20 : decode cX4_fare 20 = .ok (.invokevirtual 224, 3) := by decide +kernel
theorem dX4_fare_23 : decode cX4_fare 23 = .ok (.ireturn, 1) := by decide +kernel
theorem dX4_named_0 : decode cX4_named 0 = .ok (.iconst 0, 1) := by decide +kernel
theorem dX4_named_1 : decode cX4_named 1 = .ok (.istore_n 2, 1) := by decide +kernel
theorem dX4_named_2 : decode cX4_named 2 = .ok (.iload_n 2, 1) := by decide +kernel
theorem dX4_named_3 : decode cX4_named 3 = .ok (.aload_n 0, 1) := by decide +kernel
theorem dX4_named_4 : decode cX4_named 4 = .ok (.getfield 16, 3) := by decide +kernel
theorem dX4_named_7 : decode cX4_named 7 = .ok (.getfield 227, 3) := by decide +kernel
theorem dX4_named_10 : decode cX4_named 10 = .ok (.if_icmp .ge 24, 3) := by decide +kernel
theorem dX4_named_13 : decode cX4_named 13 = .ok (.aload_n 0, 1) := by decide +kernel
theorem dX4_named_14 : decode cX4_named 14 = .ok (.getfield 16, 3) := by decide +kernel
theorem dX4_named_17 : decode cX4_named 17 = .ok (.getfield 118, 3) := by decide +kernel
theorem dX4_named_20 : decode cX4_named 20 = .ok (.iload_n 2, 1) := by decide +kernel
theorem dX4_named_21 : decode cX4_named 21 = .ok (.iaload, 1) := by decide +kernel
theorem dX4_named_22 : decode cX4_named 22 = .ok (.iload_n 1, 1) := by decide +kernel
theorem dX4_named_23 : decode cX4_named 23 = .ok (.if_icmp .ne 5, 3) := by decide +kernel
theorem dX4_named_26 : decode cX4_named 26 = .ok (.iload_n 2, 1) := by decide +kernel
theorem dX4_named_27 : decode cX4_named 27 = .ok (.ireturn, 1) := by decide +kernel
theorem dX4_named_28 : decode cX4_named 28 = .ok (.iinc 2 1, 3) := by decide +kernel
theorem dX4_named_31 : decode cX4_named 31 = .ok (.goto (-29), 3) := by decide +kernel
theorem dX4_named_34 : decode cX4_named 34 = .ok (.iconst (-1), 1) := by decide +kernel
theorem dX4_named_35 : decode cX4_named 35 = .ok (.ireturn, 1) := by decide +kernel
theorem dX4_log_0 : decode cX4_log 0 = .ok (.iload_n 2, 1) := by decide +kernel
theorem dX4_log_1 : decode cX4_log 1 = .ok (.ifCond .lt 8, 3) := by decide +kernel
theorem dX4_log_4 : decode cX4_log 4 = .ok (.iload_n 2, 1) := by decide +kernel
theorem dX4_log_5 : decode cX4_log 5 = .ok (.iconst 3, 1) := by decide +kernel
theorem dX4_log_6 : decode cX4_log 6 = .ok (.if_icmp .lt 13, 3) := by decide +kernel
theorem dX4_log_9 : decode cX4_log 9 = .ok (.new 133, 3) := by decide +kernel
theorem dX4_log_12 : decode cX4_log 12 = .ok (.dup, 1) := by decide +kernel
theorem dX4_log_13 : decode cX4_log 13 = .ok (.ldc 230, 2) := by decide +kernel
theorem dX4_log_15 : decode cX4_log 15 = .ok (.invokespecial 137, 3) := by decide +kernel
theorem dX4_log_18 : decode cX4_log 18 = .ok (.athrow, 1) := by decide +kernel
theorem dX4_log_19 : decode cX4_log 19 = .ok (.iload_n 1, 1) := by decide +kernel
theorem dX4_log_20 : decode cX4_log 20 = .ok (.ifCond .lt 14, 3) := by decide +kernel
theorem dX4_log_23 : decode cX4_log 23 = .ok (.iload_n 1, 1) := by decide +kernel
theorem dX4_log_24 : decode cX4_log 24 = .ok (.aload_n 0, 1) := by decide +kernel
theorem dX4_log_25 : decode cX4_log 25 = .ok (.getfield 16, 3) := by decide +kernel
theorem dX4_log_28 : decode cX4_log 28 = .ok (.getfield 232, 3) := by decide +kernel
theorem dX4_log_31 : decode cX4_log 31 = .ok (.if_icmp .lt 5, 3) := by decide +kernel
theorem dX4_log_34 : decode cX4_log 34 = .ok (.iconst (-1), 1) := by decide +kernel
theorem dX4_log_35 : decode cX4_log 35 = .ok (.ireturn, 1) := by decide +kernel
theorem dX4_log_36 : decode cX4_log 36 = .ok (.aload_n 0, 1) := by decide +kernel
theorem dX4_log_37 : decode cX4_log 37 = .ok (.getfield 16, 3) := by decide +kernel
theorem dX4_log_40 : decode cX4_log 40 = .ok (.getfield 235, 3) := by decide +kernel
theorem dX4_log_43 : decode cX4_log 43 = .ok (.aload_n 0, 1) := by decide +kernel
theorem dX4_log_44 : decode cX4_log 44 = .ok (.getfield 16, 3) := by decide +kernel
theorem dX4_log_47 : decode cX4_log 47 = .ok (.getfield 238, 3) := by decide +kernel
theorem dX4_log_50 : decode cX4_log 50 = .ok (.iload_n 1, 1) := by decide +kernel
theorem dX4_log_51 : decode cX4_log 51 = .ok (.iadd, 1) := by decide +kernel
theorem dX4_log_52 : decode cX4_log 52 = .ok (.bipush 40, 2) := by decide +kernel
theorem dX4_log_54 : decode cX4_log 54 = .ok (.irem, 1) := by decide +kernel
theorem dX4_log_55 : decode cX4_log 55 = .ok (.iconst 3, 1) := by decide +kernel
theorem dX4_log_56 : decode cX4_log 56 = .ok (.imul, 1) := by decide +kernel
theorem dX4_log_57 : decode cX4_log 57 = .ok (.iload_n 2, 1) := by decide +kernel
theorem dX4_log_58 : decode cX4_log 58 = .ok (.iadd, 1) := by decide +kernel
theorem dX4_log_59 : decode cX4_log 59 = .ok (.iaload, 1) := by decide +kernel
theorem dX4_log_60 : decode cX4_log 60 = .ok (.ireturn, 1) := by decide +kernel
theorem dX4_hinges_0 : decode cX4_hinges 0 = .ok (.aload_n 0, 1) := by decide +kernel
theorem dX4_hinges_1 : decode cX4_hinges 1 = .ok (.getfield 29, 3) := by decide +kernel
theorem dX4_hinges_4 : decode cX4_hinges 4 = .ok (.aload_n 0, 1) := by decide +kernel
theorem dX4_hinges_5 : decode cX4_hinges 5 = .ok (.getfield 16, 3) := by decide +kernel
theorem dX4_hinges_8 : decode cX4_hinges 8 = .ok (.invokevirtual 241, 3) := by decide +kernel
theorem dX4_hinges_11 : decode cX4_hinges 11 = .ok (.ireturn, 1) := by decide +kernel
theorem dX4_cut_0 : decode cX4_cut 0 = .ok (.aload_n 0, 1) := by decide +kernel
theorem dX4_cut_1 : decode cX4_cut 1 = .ok (.iload_n 1, 1) := by decide +kernel
theorem dX4_cut_2 : decode cX4_cut 2 = .ok (.invokevirtual 108, 3) := by decide +kernel
theorem dX4_cut_5 : decode cX4_cut 5 = .ok (.aload_n 0, 1) := by decide +kernel
theorem dX4_cut_6 : decode cX4_cut 6 = .ok (.iload_n 2, 1) := by decide +kernel
theorem dX4_cut_7 : decode cX4_cut 7 = .ok (.invokevirtual 108, 3) := by decide +kernel
theorem dX4_cut_10 : decode cX4_cut 10 = .ok (.iload_n 1, 1) := by decide +kernel
theorem dX4_cut_11 : decode cX4_cut 11 = .ok (.iload_n 2, 1) := by decide +kernel
theorem dX4_cut_12 : decode cX4_cut 12 = .ok (.if_icmp .ne 8, 3) := by decide +kernel
theorem dX4_cut_15 : decode cX4_cut 15 = .ok (.bipush 99, 2) := by decide +kernel
theorem dX4_cut_17 : decode cX4_cut 17 = .ok (.goto 16, 3) := by decide +kernel
theorem dX4_cut_20 : decode cX4_cut 20 = .ok (.aload_n 0, 1) := by decide +kernel
theorem dX4_cut_21 : decode cX4_cut 21 = .ok (.getfield 29, 3) := by decide +kernel
theorem dX4_cut_24 : decode cX4_cut 24 = .ok (.aload_n 0, 1) := by decide +kernel
theorem dX4_cut_25 : decode cX4_cut 25 = .ok (.getfield 16, 3) := by decide +kernel
theorem dX4_cut_28 : decode cX4_cut 28 = .ok (.iload_n 1, 1) := by decide +kernel
theorem dX4_cut_29 : decode cX4_cut 29 = .ok (.iload_n 2, 1) := by decide +kernel
theorem dX4_cut_30 : decode cX4_cut 30 = .ok (.invokevirtual 245, 3) := by decide +kernel
theorem dX4_cut_33 : decode cX4_cut 33 = .ok (.ireturn, 1) := by decide +kernel
theorem dX4_image_0 : decode cX4_image 0 = .ok (.aload_n 0, 1) := by decide +kernel
theorem dX4_image_1 : decode cX4_image 1 = .ok (.getfield 23, 3) := by decide +kernel
theorem dX4_image_4 : decode cX4_image 4 = .ok (.aload_n 0, 1) := by decide +kernel
theorem dX4_image_5 : decode cX4_image 5 = .ok (.getfield 16, 3) := by decide +kernel
theorem dX4_image_8 : decode cX4_image 8 = .ok (.invokevirtual 76, 3) := by decide +kernel
theorem dX4_image_11 : decode cX4_image 11 = .ok (.aload_n 0, 1) := by decide +kernel
theorem dX4_image_12 : decode cX4_image 12 = .ok (.iconst 1, 1) := by decide +kernel
theorem dX4_image_13 : decode cX4_image 13 = .ok (.putfield 40, 3) := by decide +kernel
theorem dX4_image_16 : decode cX4_image 16 = .ok (.return_, 1) := by decide +kernel
theorem dX4_back_0 : decode cX4_back 0 = .ok (.aload_n 0, 1) := by decide +kernel
theorem dX4_back_1 : decode cX4_back 1 = .ok (.getfield 40, 3) := by decide +kernel
theorem dX4_back_4 : decode cX4_back 4 = .ok (.ifCond .ne 5, 3) := by decide +kernel
theorem dX4_back_7 : decode cX4_back 7 = .ok (.iconst 0, 1) := by decide +kernel
theorem dX4_back_8 : decode cX4_back 8 = .ok (.ireturn, 1) := by decide +kernel
theorem dX4_back_9 : decode cX4_back 9 = .ok (.aload_n 0, 1) := by decide +kernel
theorem dX4_back_10 : decode cX4_back 10 = .ok (.getfield 16, 3) := by decide +kernel
theorem dX4_back_13 : decode cX4_back 13 = .ok (.aload_n 0, 1) := by decide +kernel
theorem dX4_back_14 : decode cX4_back 14 = .ok (.getfield 23, 3) := by decide +kernel
theorem dX4_back_17 : decode cX4_back 17 = .ok (.invokevirtual 76, 3) := by decide +kernel
theorem dX4_back_20 : decode cX4_back 20 = .ok (.aload_n 0, 1) := by decide +kernel
theorem dX4_back_21 : decode cX4_back 21 = .ok (.iconst 0, 1) := by decide +kernel
theorem dX4_back_22 : decode cX4_back 22 = .ok (.putfield 44, 3) := by decide +kernel
theorem dX4_back_25 : decode cX4_back 25 = .ok (.iconst 1, 1) := by decide +kernel
theorem dX4_back_26 : decode cX4_back 26 = .ok (.ireturn, 1) := by decide +kernel
theorem dX4_count_0 : decode cX4_count 0 = .ok (.iload_n 1, 1) := by decide +kernel
theorem dX4_count_1 : decode cX4_count 1 = .ok (.tableswitch 283 0 17 #[87, 95, 103, 111, 129, 138, 147, 160, 168, 176, 188, 200, 230, 238, 246, 251, 263, 275], 87) := by decide +kernel
theorem dX4_count_88 : decode cX4_count 88 = .ok (.aload_n 0, 1) := by decide +kernel
theorem dX4_count_89 : decode cX4_count 89 = .ok (.getfield 16, 3) := by decide +kernel
theorem dX4_count_92 : decode cX4_count 92 = .ok (.getfield 227, 3) := by decide +kernel
theorem dX4_count_95 : decode cX4_count 95 = .ok (.ireturn, 1) := by decide +kernel
theorem dX4_count_96 : decode cX4_count 96 = .ok (.aload_n 0, 1) := by decide +kernel
theorem dX4_count_97 : decode cX4_count 97 = .ok (.getfield 16, 3) := by decide +kernel
theorem dX4_count_100 : decode cX4_count 100 = .ok (.getfield 85, 3) := by decide +kernel
theorem dX4_count_103 : decode cX4_count 103 = .ok (.ireturn, 1) := by decide +kernel
theorem dX4_count_104 : decode cX4_count 104 = .ok (.aload_n 0, 1) := by decide +kernel
theorem dX4_count_105 : decode cX4_count 105 = .ok (.getfield 16, 3) := by decide +kernel
theorem dX4_count_108 : decode cX4_count 108 = .ok (.getfield 248, 3) := by decide +kernel
theorem dX4_count_111 : decode cX4_count 111 = .ok (.ireturn, 1) := by decide +kernel
theorem dX4_count_112 : decode cX4_count 112 = .ok (.aload_n 0, 1) := by decide +kernel
theorem dX4_count_113 : decode cX4_count 113 = .ok (.getfield 16, 3) := by decide +kernel
theorem dX4_count_116 : decode cX4_count 116 = .ok (.iconst 0, 1) := by decide +kernel
theorem dX4_count_117 : decode cX4_count 117 = .ok (.invokevirtual 251, 3) := by decide +kernel
theorem dX4_count_120 : decode cX4_count 120 = .ok (.aload_n 0, 1) := by decide +kernel
theorem dX4_count_121 : decode cX4_count 121 = .ok (.getfield 16, 3) := by decide +kernel
theorem dX4_count_124 : decode cX4_count 124 = .ok (.iconst 1, 1) := by decide +kernel
theorem dX4_count_125 : decode cX4_count 125 = .ok (.invokevirtual 251, 3) := by decide +kernel
theorem dX4_count_128 : decode cX4_count 128 = .ok (.iadd, 1) := by decide +kernel
theorem dX4_count_129 : decode cX4_count 129 = .ok (.ireturn, 1) := by decide +kernel
theorem dX4_count_130 : decode cX4_count 130 = .ok (.aload_n 0, 1) := by decide +kernel
theorem dX4_count_131 : decode cX4_count 131 = .ok (.getfield 16, 3) := by decide +kernel
theorem dX4_count_134 : decode cX4_count 134 = .ok (.iconst 0, 1) := by decide +kernel
theorem dX4_count_135 : decode cX4_count 135 = .ok (.invokevirtual 251, 3) := by decide +kernel
theorem dX4_count_138 : decode cX4_count 138 = .ok (.ireturn, 1) := by decide +kernel
theorem dX4_count_139 : decode cX4_count 139 = .ok (.aload_n 0, 1) := by decide +kernel
theorem dX4_count_140 : decode cX4_count 140 = .ok (.getfield 16, 3) := by decide +kernel
theorem dX4_count_143 : decode cX4_count 143 = .ok (.iconst 1, 1) := by decide +kernel
theorem dX4_count_144 : decode cX4_count 144 = .ok (.invokevirtual 251, 3) := by decide +kernel
theorem dX4_count_147 : decode cX4_count 147 = .ok (.ireturn, 1) := by decide +kernel
theorem dX4_count_148 : decode cX4_count 148 = .ok (.aload_n 0, 1) := by decide +kernel
theorem dX4_count_149 : decode cX4_count 149 = .ok (.getfield 16, 3) := by decide +kernel
theorem dX4_count_152 : decode cX4_count 152 = .ok (.getfield 94, 3) := by decide +kernel
theorem dX4_count_155 : decode cX4_count 155 = .ok (.iconst 0, 1) := by decide +kernel
theorem dX4_count_156 : decode cX4_count 156 = .ok (.aaload, 1) := by decide +kernel
theorem dX4_count_157 : decode cX4_count 157 = .ok (.invokevirtual 98, 3) := by decide +kernel
theorem dX4_count_160 : decode cX4_count 160 = .ok (.ireturn, 1) := by decide +kernel
theorem dX4_count_161 : decode cX4_count 161 = .ok (.aload_n 0, 1) := by decide +kernel
theorem dX4_count_162 : decode cX4_count 162 = .ok (.getfield 16, 3) := by decide +kernel
theorem dX4_count_165 : decode cX4_count 165 = .ok (.getfield 204, 3) := by decide +kernel
theorem dX4_count_168 : decode cX4_count 168 = .ok (.ireturn, 1) := by decide +kernel
theorem dX4_count_169 : decode cX4_count 169 = .ok (.aload_n 0, 1) := by decide +kernel
theorem dX4_count_170 : decode cX4_count 170 = .ok (.getfield 16, 3) := by decide +kernel
theorem dX4_count_173 : decode cX4_count 173 = .ok (.getfield 201, 3) := by decide +kernel
theorem dX4_count_176 : decode cX4_count 176 = .ok (.ireturn, 1) := by decide +kernel
theorem dX4_count_177 : decode cX4_count 177 = .ok (.aload_n 0, 1) := by decide +kernel
theorem dX4_count_178 : decode cX4_count 178 = .ok (.getfield 29, 3) := by decide +kernel
theorem dX4_count_181 : decode cX4_count 181 = .ok (.aload_n 0, 1) := by decide +kernel
theorem dX4_count_182 : decode cX4_count 182 = .ok (.getfield 16, 3) := by decide +kernel
theorem dX4_count_185 : decode cX4_count 185 = .ok (.invokevirtual 254, 3) := by decide +kernel
theorem dX4_count_188 : decode cX4_count 188 = .ok (.ireturn, 1) := by decide +kernel
theorem dX4_count_189 : decode cX4_count 189 = .ok (.aload_n 0, 1) := by decide +kernel
theorem dX4_count_190 : decode cX4_count 190 = .ok (.getfield 29, 3) := by decide +kernel
theorem dX4_count_193 : decode cX4_count 193 = .ok (.aload_n 0, 1) := by decide +kernel
theorem dX4_count_194 : decode cX4_count 194 = .ok (.getfield 16, 3) := by decide +kernel
theorem dX4_count_197 : decode cX4_count 197 = .ok (.invokevirtual 257, 3) := by decide +kernel
theorem dX4_count_200 : decode cX4_count 200 = .ok (.ireturn, 1) := by decide +kernel
theorem dX4_count_201 : decode cX4_count 201 = .ok (.aload_n 0, 1) := by decide +kernel
theorem dX4_count_202 : decode cX4_count 202 = .ok (.getfield 16, 3) := by decide +kernel
theorem dX4_count_205 : decode cX4_count 205 = .ok (.iconst 0, 1) := by decide +kernel
theorem dX4_count_206 : decode cX4_count 206 = .ok (.invokevirtual 251, 3) := by decide +kernel
theorem dX4_count_209 : decode cX4_count 209 = .ok (.aload_n 0, 1) := by decide +kernel
theorem dX4_count_210 : decode cX4_count 210 = .ok (.getfield 16, 3) := by decide +kernel
theorem dX4_count_213 : decode cX4_count 213 = .ok (.iconst 1, 1) := by decide +kernel
theorem dX4_count_214 : decode cX4_count 214 = .ok (.invokevirtual 251, 3) := by decide +kernel
theorem dX4_count_217 : decode cX4_count 217 = .ok (.iadd, 1) := by decide +kernel
theorem dX4_count_218 : decode cX4_count 218 = .ok (.aload_n 0, 1) := by decide +kernel
theorem dX4_count_219 : decode cX4_count 219 = .ok (.getfield 29, 3) := by decide +kernel
theorem dX4_count_222 : decode cX4_count 222 = .ok (.aload_n 0, 1) := by decide +kernel
theorem dX4_count_223 : decode cX4_count 223 = .ok (.getfield 16, 3) := by decide +kernel
theorem dX4_count_226 : decode cX4_count 226 = .ok (.invokevirtual 254, 3) := by decide +kernel
theorem dX4_count_229 : decode cX4_count 229 = .ok (.isub, 1) := by decide +kernel
theorem dX4_count_230 : decode cX4_count 230 = .ok (.ireturn, 1) := by decide +kernel
theorem dX4_count_231 : decode cX4_count 231 = .ok (.aload_n 0, 1) := by decide +kernel
theorem dX4_count_232 : decode cX4_count 232 = .ok (.getfield 16, 3) := by decide +kernel
theorem dX4_count_235 : decode cX4_count 235 = .ok (.invokevirtual 260, 3) := by decide +kernel
theorem dX4_count_238 : decode cX4_count 238 = .ok (.ireturn, 1) := by decide +kernel
theorem dX4_count_239 : decode cX4_count 239 = .ok (.aload_n 0, 1) := by decide +kernel
theorem dX4_count_240 : decode cX4_count 240 = .ok (.getfield 16, 3) := by decide +kernel
theorem dX4_count_243 : decode cX4_count 243 = .ok (.invokevirtual 263, 3) := by decide +kernel
theorem dX4_count_246 : decode cX4_count 246 = .ok (.ireturn, 1) := by decide +kernel
theorem dX4_count_247 : decode cX4_count 247 = .ok (.aload_n 0, 1) := by decide +kernel
theorem dX4_count_248 : decode cX4_count 248 = .ok (.getfield 44, 3) := by decide +kernel
theorem dX4_count_251 : decode cX4_count 251 = .ok (.ireturn, 1) := by decide +kernel
theorem dX4_count_252 : decode cX4_count 252 = .ok (.aload_n 0, 1) := by decide +kernel
theorem dX4_count_253 : decode cX4_count 253 = .ok (.getfield 29, 3) := by decide +kernel
theorem dX4_count_256 : decode cX4_count 256 = .ok (.aload_n 0, 1) := by decide +kernel
theorem dX4_count_257 : decode cX4_count 257 = .ok (.getfield 16, 3) := by decide +kernel
theorem dX4_count_260 : decode cX4_count 260 = .ok (.invokevirtual 266, 3) := by decide +kernel
theorem dX4_count_263 : decode cX4_count 263 = .ok (.ireturn, 1) := by decide +kernel
theorem dX4_count_264 : decode cX4_count 264 = .ok (.aload_n 0, 1) := by decide +kernel
theorem dX4_count_265 : decode cX4_count 265 = .ok (.getfield 29, 3) := by decide +kernel
theorem dX4_count_268 : decode cX4_count 268 = .ok (.aload_n 0, 1) := by decide +kernel
theorem dX4_count_269 : decode cX4_count 269 = .ok (.getfield 16, 3) := by decide +kernel
theorem dX4_count_272 : decode cX4_count 272 = .ok (.invokevirtual 269, 3) := by decide +kernel
theorem dX4_count_275 : decode cX4_count 275 = .ok (.ireturn, 1) := by decide +kernel
theorem dX4_count_276 : decode cX4_count 276 = .ok (.aload_n 0, 1) := by decide +kernel
theorem dX4_count_277 : decode cX4_count 277 = .ok (.getfield 16, 3) := by decide +kernel
theorem dX4_count_280 : decode cX4_count 280 = .ok (.getfield 232, 3) := by decide +kernel
theorem dX4_count_283 : decode cX4_count 283 = .ok (.ireturn, 1) := by decide +kernel
theorem dX4_count_284 : decode cX4_count 284 = .ok (.iconst (-1), 1) := by decide +kernel
theorem dX4_count_285 : decode cX4_count 285 = .ok (.ireturn, 1) := by decide +kernel
theorem dX4_needNode_0 : decode cX4_needNode 0 = .ok (.aload_n 0, 1) := by decide +kernel
theorem dX4_needNode_1 : decode cX4_needNode 1 = .ok (.getfield 16, 3) := by decide +kernel
theorem dX4_needNode_4 : decode cX4_needNode 4 = .ok (.iload_n 1, 1) := by decide +kernel
theorem dX4_needNode_5 : decode cX4_needNode 5 = .ok (.invokevirtual 272, 3) := by decide +kernel
theorem dX4_needNode_8 : decode cX4_needNode 8 = .ok (.ifCond .ne 14, 3) := by decide +kernel
theorem dX4_needNode_11 : decode cX4_needNode 11 = .ok (.new 276, 3) := by decide +kernel
theorem dX4_needNode_14 : decode cX4_needNode 14 = .ok (.dup, 1) := by decide +kernel
theorem dX4_needNode_15 : decode cX4_needNode 15 = .ok (.ldc_w 278, 3) := by decide +kernel
theorem dX4_needNode_18 : decode cX4_needNode 18 = .ok (.invokespecial 280, 3) := by decide +kernel
theorem dX4_needNode_21 : decode cX4_needNode 21 = .ok (.athrow, 1) := by decide +kernel
theorem dX4_needNode_22 : decode cX4_needNode 22 = .ok (.return_, 1) := by decide +kernel
theorem dX4_needCable_0 : decode cX4_needCable 0 = .ok (.iload_n 1, 1) := by decide +kernel
theorem dX4_needCable_1 : decode cX4_needCable 1 = .ok (.ifCond .lt 14, 3) := by decide +kernel
theorem dX4_needCable_4 : decode cX4_needCable 4 = .ok (.iload_n 1, 1) := by decide +kernel
theorem dX4_needCable_5 : decode cX4_needCable 5 = .ok (.aload_n 0, 1) := by decide +kernel
theorem dX4_needCable_6 : decode cX4_needCable 6 = .ok (.getfield 16, 3) := by decide +kernel
theorem dX4_needCable_9 : decode cX4_needCable 9 = .ok (.getfield 248, 3) := by decide +kernel
theorem dX4_needCable_12 : decode cX4_needCable 12 = .ok (.if_icmp .lt 14, 3) := by decide +kernel
theorem dX4_needCable_15 : decode cX4_needCable 15 = .ok (.new 276, 3) := by decide +kernel
theorem dX4_needCable_18 : decode cX4_needCable 18 = .ok (.dup, 1) := by decide +kernel
theorem dX4_needCable_19 : decode cX4_needCable 19 = .ok (.ldc_w 281, 3) := by decide +kernel
theorem dX4_needCable_22 : decode cX4_needCable 22 = .ok (.invokespecial 280, 3) := by decide +kernel
theorem dX4_needCable_25 : decode cX4_needCable 25 = .ok (.athrow, 1) := by decide +kernel
theorem dX4_needCable_26 : decode cX4_needCable 26 = .ok (.return_, 1) := by decide +kernel
theorem dX4_needLevel_0 : decode cX4_needLevel 0 = .ok (.iload_n 1, 1) := by decide +kernel
theorem dX4_needLevel_1 : decode cX4_needLevel 1 = .ok (.ifCond .lt 14, 3) := by decide +kernel
theorem dX4_needLevel_4 : decode cX4_needLevel 4 = .ok (.iload_n 1, 1) := by decide +kernel
theorem dX4_needLevel_5 : decode cX4_needLevel 5 = .ok (.aload_n 0, 1) := by decide +kernel
theorem dX4_needLevel_6 : decode cX4_needLevel 6 = .ok (.getfield 16, 3) := by decide +kernel
theorem dX4_needLevel_9 : decode cX4_needLevel 9 = .ok (.getfield 85, 3) := by decide +kernel
theorem dX4_needLevel_12 : decode cX4_needLevel 12 = .ok (.if_icmp .le 14, 3) := by decide +kernel
theorem dX4_needLevel_15 : decode cX4_needLevel 15 = .ok (.new 276, 3) := by decide +kernel
theorem dX4_needLevel_18 : decode cX4_needLevel 18 = .ok (.dup, 1) := by decide +kernel
theorem dX4_needLevel_19 : decode cX4_needLevel 19 = .ok (.ldc_w 283, 3) := by decide +kernel
theorem dX4_needLevel_22 : decode cX4_needLevel 22 = .ok (.invokespecial 280, 3) := by decide +kernel
theorem dX4_needLevel_25 : decode cX4_needLevel 25 = .ok (.athrow, 1) := by decide +kernel
theorem dX4_needLevel_26 : decode cX4_needLevel 26 = .ok (.return_, 1) := by decide +kernel
theorem dX4_actByCall_0 : decode cX4_actByCall 0 = .ok (.aload_n 0, 1) := by decide +kernel
theorem dX4_actByCall_1 : decode cX4_actByCall 1 = .ok (.aload_n 0, 1) := by decide +kernel
theorem dX4_actByCall_2 : decode cX4_actByCall 2 = .ok (.getfield 16, 3) := by decide +kernel
theorem dX4_actByCall_5 : decode cX4_actByCall 5 = .ok (.iload_n 1, 1) := by decide +kernel
theorem dX4_actByCall_6 : decode cX4_actByCall 6 = .ok (.iload_n 2, 1) := by decide +kernel
theorem dX4_actByCall_7 : decode cX4_actByCall 7 = .ok (.iload_n 3, 1) := by decide +kernel
theorem dX4_actByCall_8 : decode cX4_actByCall 8 = .ok (.invokevirtual 285, 3) := by decide +kernel
theorem dX4_actByCall_11 : decode cX4_actByCall 11 = .ok (.putfield 48, 3) := by decide +kernel
theorem dX4_actByCall_14 : decode cX4_actByCall 14 = .ok (.aload_n 0, 1) := by decide +kernel
theorem dX4_actByCall_15 : decode cX4_actByCall 15 = .ok (.getfield 48, 3) := by decide +kernel
theorem dX4_actByCall_18 : decode cX4_actByCall 18 = .ok (.ifCond .eq 14, 3) := by decide +kernel
theorem dX4_actByCall_21 : decode cX4_actByCall 21 = .ok (.new 103, 3) := by decide +kernel
theorem dX4_actByCall_24 : decode cX4_actByCall 24 = .ok (.dup, 1) := by decide +kernel
theorem dX4_actByCall_25 : decode cX4_actByCall 25 = .ok (.ldc_w 288, 3) := by decide +kernel
theorem dX4_actByCall_28 : decode cX4_actByCall 28 = .ok (.invokespecial 107, 3) := by decide +kernel
theorem dX4_actByCall_31 : decode cX4_actByCall 31 = .ok (.athrow, 1) := by decide +kernel
theorem dX4_actByCall_32 : decode cX4_actByCall 32 = .ok (.aload_n 0, 1) := by decide +kernel
theorem dX4_actByCall_33 : decode cX4_actByCall 33 = .ok (.invokevirtual 289, 3) := by decide +kernel
theorem dX4_actByCall_36 : decode cX4_actByCall 36 = .ok (.aload_n 0, 1) := by decide +kernel
theorem dX4_actByCall_37 : decode cX4_actByCall 37 = .ok (.getfield 16, 3) := by decide +kernel
theorem dX4_actByCall_40 : decode cX4_actByCall 40 = .ok (.iload_n 1, 1) := by decide +kernel
theorem dX4_actByCall_41 : decode cX4_actByCall 41 = .ok (.iload_n 2, 1) := by decide +kernel
theorem dX4_actByCall_42 : decode cX4_actByCall 42 = .ok (.iload_n 3, 1) := by decide +kernel
theorem dX4_actByCall_43 : decode cX4_actByCall 43 = .ok (.invokevirtual 292, 3) := by decide +kernel
theorem dX4_actByCall_46 : decode cX4_actByCall 46 = .ok (.ireturn, 1) := by decide +kernel
theorem dX4_remember_0 : decode cX4_remember 0 = .ok (.aload_n 0, 1) := by decide +kernel
theorem dX4_remember_1 : decode cX4_remember 1 = .ok (.getfield 44, 3) := by decide +kernel
theorem dX4_remember_4 : decode cX4_remember 4 = .ok (.bipush 8, 2) := by decide +kernel
theorem dX4_remember_6 : decode cX4_remember 6 = .ok (.if_icmp .lt 52, 3) := by decide +kernel
theorem dX4_remember_9 : decode cX4_remember 9 = .ok (.aload_n 0, 1) := by decide +kernel
theorem dX4_remember_10 : decode cX4_remember 10 = .ok (.getfield 11, 3) := by decide +kernel
theorem dX4_remember_13 : decode cX4_remember 13 = .ok (.iconst 0, 1) := by decide +kernel
theorem dX4_remember_14 : decode cX4_remember 14 = .ok (.aaload, 1) := by decide +kernel
theorem dX4_remember_15 : decode cX4_remember 15 = .ok (.astore_n 1, 1) := by decide +kernel
theorem dX4_remember_16 : decode cX4_remember 16 = .ok (.iconst 1, 1) := by decide +kernel
theorem dX4_remember_17 : decode cX4_remember 17 = .ok (.istore_n 2, 1) := by decide +kernel
theorem dX4_remember_18 : decode cX4_remember 18 = .ok (.iload_n 2, 1) := by decide +kernel
theorem dX4_remember_19 : decode cX4_remember 19 = .ok (.bipush 8, 2) := by decide +kernel
theorem dX4_remember_21 : decode cX4_remember 21 = .ok (.if_icmp .ge 23, 3) := by decide +kernel
theorem dX4_remember_24 : decode cX4_remember 24 = .ok (.aload_n 0, 1) := by decide +kernel
theorem dX4_remember_25 : decode cX4_remember 25 = .ok (.getfield 11, 3) := by decide +kernel
theorem dX4_remember_28 : decode cX4_remember 28 = .ok (.iload_n 2, 1) := by decide +kernel
theorem dX4_remember_29 : decode cX4_remember 29 = .ok (.iconst 1, 1) := by decide +kernel
theorem dX4_remember_30 : decode cX4_remember 30 = .ok (.isub, 1) := by decide +kernel
theorem dX4_remember_31 : decode cX4_remember 31 = .ok (.aload_n 0, 1) := by decide +kernel
theorem dX4_remember_32 : decode cX4_remember 32 = .ok (.getfield 11, 3) := by decide +kernel
theorem dX4_remember_35 : decode cX4_remember 35 = .ok (.iload_n 2, 1) := by decide +kernel
theorem dX4_remember_36 : decode cX4_remember 36 = .ok (.aaload, 1) := by decide +kernel
theorem dX4_remember_37 : decode cX4_remember 37 = .ok (.aastore, 1) := by decide +kernel
theorem dX4_remember_38 : decode cX4_remember 38 = .ok (.iinc 2 1, 3) := by decide +kernel
theorem dX4_remember_41 : decode cX4_remember 41 = .ok (.goto (-23), 3) := by decide +kernel
theorem dX4_remember_44 : decode cX4_remember 44 = .ok (.aload_n 0, 1) := by decide +kernel
theorem dX4_remember_45 : decode cX4_remember 45 = .ok (.getfield 11, 3) := by decide +kernel
theorem dX4_remember_48 : decode cX4_remember 48 = .ok (.bipush 7, 2) := by decide +kernel
theorem dX4_remember_50 : decode cX4_remember 50 = .ok (.aload_n 1, 1) := by decide +kernel
theorem dX4_remember_51 : decode cX4_remember 51 = .ok (.aastore, 1) := by decide +kernel
theorem dX4_remember_52 : decode cX4_remember 52 = .ok (.aload_n 0, 1) := by decide +kernel
theorem dX4_remember_53 : decode cX4_remember 53 = .ok (.bipush 7, 2) := by decide +kernel
theorem dX4_remember_55 : decode cX4_remember 55 = .ok (.putfield 44, 3) := by decide +kernel
theorem dX4_remember_58 : decode cX4_remember 58 = .ok (.aload_n 0, 1) := by decide +kernel
theorem dX4_remember_59 : decode cX4_remember 59 = .ok (.getfield 11, 3) := by decide +kernel
theorem dX4_remember_62 : decode cX4_remember 62 = .ok (.aload_n 0, 1) := by decide +kernel
theorem dX4_remember_63 : decode cX4_remember 63 = .ok (.getfield 44, 3) := by decide +kernel
theorem dX4_remember_66 : decode cX4_remember 66 = .ok (.aaload, 1) := by decide +kernel
theorem dX4_remember_67 : decode cX4_remember 67 = .ok (.aload_n 0, 1) := by decide +kernel
theorem dX4_remember_68 : decode cX4_remember 68 = .ok (.getfield 16, 3) := by decide +kernel
theorem dX4_remember_71 : decode cX4_remember 71 = .ok (.invokevirtual 76, 3) := by decide +kernel
theorem dX4_remember_74 : decode cX4_remember 74 = .ok (.aload_n 0, 1) := by decide +kernel
theorem dX4_remember_75 : decode cX4_remember 75 = .ok (.dup, 1) := by decide +kernel
theorem dX4_remember_76 : decode cX4_remember 76 = .ok (.getfield 44, 3) := by decide +kernel
theorem dX4_remember_79 : decode cX4_remember 79 = .ok (.iconst 1, 1) := by decide +kernel
theorem dX4_remember_80 : decode cX4_remember 80 = .ok (.iadd, 1) := by decide +kernel
theorem dX4_remember_81 : decode cX4_remember 81 = .ok (.putfield 44, 3) := by decide +kernel
theorem dX4_remember_84 : decode cX4_remember 84 = .ok (.return_, 1) := by decide +kernel
theorem dX4_tellAside_0 : decode cX4_tellAside 0 = .ok (.aload_n 0, 1) := by decide +kernel
theorem dX4_tellAside_1 : decode cX4_tellAside 1 = .ok (.getfield 20, 3) := by decide +kernel
theorem dX4_tellAside_4 : decode cX4_tellAside 4 = .ok (.aload_n 0, 1) := by decide +kernel
theorem dX4_tellAside_5 : decode cX4_tellAside 5 = .ok (.getfield 16, 3) := by decide +kernel
theorem dX4_tellAside_8 : decode cX4_tellAside 8 = .ok (.invokevirtual 76, 3) := by decide +kernel
theorem dX4_tellAside_11 : decode cX4_tellAside 11 = .ok (.aload_n 0, 1) := by decide +kernel
theorem dX4_tellAside_12 : decode cX4_tellAside 12 = .ok (.getfield 36, 3) := by decide +kernel
theorem dX4_tellAside_15 : decode cX4_tellAside 15 = .ok (.invokevirtual 295, 3) := by decide +kernel
theorem dX4_tellAside_18 : decode cX4_tellAside 18 = .ok (.aload_n 0, 1) := by decide +kernel
theorem dX4_tellAside_19 : decode cX4_tellAside 19 = .ok (.iconst 0, 1) := by decide +kernel
theorem dX4_tellAside_20 : decode cX4_tellAside 20 = .ok (.putfield 51, 3) := by decide +kernel
theorem dX4_tellAside_23 : decode cX4_tellAside 23 = .ok (.iconst 0, 1) := by decide +kernel
theorem dX4_tellAside_24 : decode cX4_tellAside 24 = .ok (.istore_n 1, 1) := by decide +kernel
theorem dX4_tellAside_25 : decode cX4_tellAside 25 = .ok (.aload_n 0, 1) := by decide +kernel
theorem dX4_tellAside_26 : decode cX4_tellAside 26 = .ok (.getfield 36, 3) := by decide +kernel
theorem dX4_tellAside_29 : decode cX4_tellAside 29 = .ok (.invokevirtual 298, 3) := by decide +kernel
theorem dX4_tellAside_32 : decode cX4_tellAside 32 = .ok (.ifCond .ne 7, 3) := by decide +kernel
theorem dX4_tellAside_35 : decode cX4_tellAside 35 = .ok (.iconst 1, 1) := by decide +kernel
theorem dX4_tellAside_36 : decode cX4_tellAside 36 = .ok (.goto 4, 3) := by decide +kernel
theorem dX4_tellAside_39 : decode cX4_tellAside 39 = .ok (.iconst 0, 1) := by decide +kernel
theorem dX4_tellAside_40 : decode cX4_tellAside 40 = .ok (.istore_n 2, 1) := by decide +kernel
theorem dX4_tellAside_41 : decode cX4_tellAside 41 = .ok (.iconst 0, 1) := by decide +kernel
theorem dX4_tellAside_42 : decode cX4_tellAside 42 = .ok (.istore_n 3, 1) := by decide +kernel
theorem dX4_tellAside_43 : decode cX4_tellAside 43 = .ok (.iload_n 3, 1) := by decide +kernel
theorem dX4_tellAside_44 : decode cX4_tellAside 44 = .ok (.bipush 14, 2) := by decide +kernel
theorem dX4_tellAside_46 : decode cX4_tellAside 46 = .ok (.if_icmp .gt 204, 3) := by decide +kernel
theorem dX4_tellAside_49 : decode cX4_tellAside 49 = .ok (.iload_n 2, 1) := by decide +kernel
theorem dX4_tellAside_50 : decode cX4_tellAside 50 = .ok (.ifCond .eq 200, 3) := by decide +kernel
theorem dX4_tellAside_53 : decode cX4_tellAside 53 = .ok (.aload_n 0, 1) := by decide +kernel
theorem dX4_tellAside_54 : decode cX4_tellAside 54 = .ok (.getfield 36, 3) := by decide +kernel
theorem dX4_tellAside_57 : decode cX4_tellAside 57 = .ok (.getfield 302, 3) := by decide +kernel
theorem dX4_tellAside_60 : decode cX4_tellAside 60 = .ok (.istore 4, 2) := by decide +kernel
theorem dX4_tellAside_62 : decode cX4_tellAside 62 = .ok (.iload_n 3, 1) := by decide +kernel
theorem dX4_tellAside_63 : decode cX4_tellAside 63 = .ok (.bipush 14, 2) := by decide +kernel
theorem dX4_tellAside_65 : decode cX4_tellAside 65 = .ok (.if_icmp .ne 15, 3) := by decide +kernel
theorem dX4_tellAside_68 : decode cX4_tellAside 68 = .ok (.aload_n 0, 1) := by decide +kernel
theorem dX4_tellAside_69 : decode cX4_tellAside 69 = .ok (.getfield 36, 3) := by decide +kernel
theorem dX4_tellAside_72 : decode cX4_tellAside 72 = .ok (.iload 4, 2) := by decide +kernel
theorem dX4_tellAside_74 : decode cX4_tellAside 74 = .ok (.putfield 80, 3) := by decide +kernel
theorem dX4_tellAside_77 : decode cX4_tellAside 77 = .ok (.goto 140, 3) := by decide +kernel
theorem dX4_tellAside_80 : decode cX4_tellAside 80 = .ok (.aload_n 0, 1) := by decide +kernel
theorem dX4_tellAside_81 : decode cX4_tellAside 81 = .ok (.getfield 36, 3) := by decide +kernel
theorem dX4_tellAside_84 : decode cX4_tellAside 84 = .ok (.invokevirtual 305, 3) := by decide +kernel
theorem dX4_tellAside_87 : decode cX4_tellAside 87 = .ok (.ifCond .eq 130, 3) := by decide +kernel
theorem dX4_tellAside_90 : decode cX4_tellAside 90 = .ok (.iconst 0, 1) := by decide +kernel
theorem dX4_tellAside_91 : decode cX4_tellAside 91 = .ok (.istore 5, 2) := by decide +kernel
theorem dX4_tellAside_93 : decode cX4_tellAside 93 = .ok (.iload 5, 2) := by decide +kernel
theorem dX4_tellAside_95 : decode cX4_tellAside 95 = .ok (.aload_n 0, 1) := by decide +kernel
theorem dX4_tellAside_96 : decode cX4_tellAside 96 = .ok (.getfield 36, 3) := by decide +kernel
theorem dX4_tellAside_99 : decode cX4_tellAside 99 = .ok (.getfield 308, 3) := by decide +kernel
theorem dX4_tellAside_102 : decode cX4_tellAside 102 = .ok (.if_icmp .ge 96, 3) := by decide +kernel
theorem dX4_tellAside_105 : decode cX4_tellAside 105 = .ok (.aload_n 0, 1) := by decide +kernel
theorem dX4_tellAside_106 : decode cX4_tellAside 106 = .ok (.getfield 51, 3) := by decide +kernel
theorem dX4_tellAside_109 : decode cX4_tellAside 109 = .ok (.ifCond .ne 89, 3) := by decide +kernel
theorem dX4_tellAside_112 : decode cX4_tellAside 112 = .ok (.aload_n 0, 1) := by decide +kernel
theorem dX4_tellAside_113 : decode cX4_tellAside 113 = .ok (.aload_n 0, 1) := by decide +kernel
theorem dX4_tellAside_114 : decode cX4_tellAside 114 = .ok (.getfield 20, 3) := by decide +kernel
theorem dX4_tellAside_117 : decode cX4_tellAside 117 = .ok (.aload_n 0, 1) := by decide +kernel
theorem dX4_tellAside_118 : decode cX4_tellAside 118 = .ok (.getfield 36, 3) := by decide +kernel
theorem dX4_tellAside_121 : decode cX4_tellAside 121 = .ok (.getfield 311, 3) := by decide +kernel
theorem dX4_tellAside_124 : decode cX4_tellAside 124 = .ok (.aload_n 0, 1) := by decide +kernel
theorem dX4_tellAside_125 : decode cX4_tellAside 125 = .ok (.getfield 36, 3) := by decide +kernel
theorem dX4_tellAside_128 : decode cX4_tellAside 128 = .ok (.iload 5, 2) := by decide +kernel
theorem dX4_tellAside_130 : decode cX4_tellAside 130 = .ok (.iconst 0, 1) := by decide +kernel
theorem dX4_tellAside_131 : decode cX4_tellAside 131 = .ok (.invokevirtual 314, 3) := by decide +kernel
theorem dX4_tellAside_134 : decode cX4_tellAside 134 = .ok (.aload_n 0, 1) := by decide +kernel
theorem dX4_tellAside_135 : decode cX4_tellAside 135 = .ok (.getfield 36, 3) := by decide +kernel
theorem dX4_tellAside_138 : decode cX4_tellAside 138 = .ok (.iload 5, 2) := by decide +kernel
theorem dX4_tellAside_140 : decode cX4_tellAside 140 = .ok (.iconst 1, 1) := by decide +kernel
theorem dX4_tellAside_141 : decode cX4_tellAside 141 = .ok (.invokevirtual 314, 3) := by decide +kernel
theorem dX4_tellAside_144 : decode cX4_tellAside 144 = .ok (.invokevirtual 285, 3) := by decide +kernel
theorem dX4_tellAside_147 : decode cX4_tellAside 147 = .ok (.putfield 51, 3) := by decide +kernel
theorem dX4_tellAside_150 : decode cX4_tellAside 150 = .ok (.aload_n 0, 1) := by decide +kernel
theorem dX4_tellAside_151 : decode cX4_tellAside 151 = .ok (.getfield 51, 3) := by decide +kernel
theorem dX4_tellAside_154 : decode cX4_tellAside 154 = .ok (.ifCond .ne 38, 3) := by decide +kernel
theorem dX4_tellAside_157 : decode cX4_tellAside 157 = .ok (.aload_n 0, 1) := by decide +kernel
theorem dX4_tellAside_158 : decode cX4_tellAside 158 = .ok (.getfield 20, 3) := by decide +kernel
theorem dX4_tellAside_161 : decode cX4_tellAside 161 = .ok (.aload_n 0, 1) := by decide +kernel
theorem dX4_tellAside_162 : decode cX4_tellAside 162 = .ok (.getfield 36, 3) := by decide +kernel
theorem dX4_tellAside_165 : decode cX4_tellAside 165 = .ok (.getfield 311, 3) := by decide +kernel
theorem dX4_tellAside_168 : decode cX4_tellAside 168 = .ok (.aload_n 0, 1) := by decide +kernel
theorem dX4_tellAside_169 : decode cX4_tellAside 169 = .ok (.getfield 36, 3) := by decide +kernel
theorem dX4_tellAside_172 : decode cX4_tellAside 172 = .ok (.iload 5, 2) := by decide +kernel
theorem dX4_tellAside_174 : decode cX4_tellAside 174 = .ok (.iconst 0, 1) := by decide +kernel
theorem dX4_tellAside_175 : decode cX4_tellAside 175 = .ok (.invokevirtual 314, 3) := by decide +kernel
theorem dX4_tellAside_178 : decode cX4_tellAside 178 = .ok (.aload_n 0, 1) := by decide +kernel
theorem dX4_tellAside_179 : decode cX4_tellAside 179 = .ok (.getfield 36, 3) := by decide +kernel
theorem dX4_tellAside_182 : decode cX4_tellAside 182 = .ok (.iload 5, 2) := by decide +kernel
theorem dX4_tellAside_184 : decode cX4_tellAside 184 = .ok (.iconst 1, 1) := by decide +kernel
theorem dX4_tellAside_185 : decode cX4_tellAside 185 = .ok (.invokevirtual 314, 3) := by decide +kernel
theorem dX4_tellAside_188 : decode cX4_tellAside 188 = .ok (.invokevirtual 292, 3) := by decide +kernel
theorem dX4_tellAside_191 : decode cX4_tellAside 191 = .ok (.pop, 1) := by decide +kernel
theorem dX4_tellAside_192 : decode cX4_tellAside 192 = .ok (.iinc 5 1, 3) := by decide +kernel
theorem dX4_tellAside_195 : decode cX4_tellAside 195 = .ok (.goto (-102), 3) := by decide +kernel
theorem dX4_tellAside_198 : decode cX4_tellAside 198 = .ok (.aload_n 0, 1) := by decide +kernel
theorem dX4_tellAside_199 : decode cX4_tellAside 199 = .ok (.getfield 51, 3) := by decide +kernel
theorem dX4_tellAside_202 : decode cX4_tellAside 202 = .ok (.ifCond .eq 12, 3) := by decide +kernel
theorem dX4_tellAside_205 : decode cX4_tellAside 205 = .ok (.aload_n 0, 1) := by decide +kernel
theorem dX4_tellAside_206 : decode cX4_tellAside 206 = .ok (.getfield 36, 3) := by decide +kernel
theorem dX4_tellAside_209 : decode cX4_tellAside 209 = .ok (.iload 4, 2) := by decide +kernel
theorem dX4_tellAside_211 : decode cX4_tellAside 211 = .ok (.putfield 80, 3) := by decide +kernel
theorem dX4_tellAside_214 : decode cX4_tellAside 214 = .ok (.iinc 1 1, 3) := by decide +kernel
theorem dX4_tellAside_217 : decode cX4_tellAside 217 = .ok (.aload_n 0, 1) := by decide +kernel
theorem dX4_tellAside_218 : decode cX4_tellAside 218 = .ok (.getfield 36, 3) := by decide +kernel
theorem dX4_tellAside_221 : decode cX4_tellAside 221 = .ok (.getfield 80, 3) := by decide +kernel
theorem dX4_tellAside_224 : decode cX4_tellAside 224 = .ok (.iconst (-1), 1) := by decide +kernel
theorem dX4_tellAside_225 : decode cX4_tellAside 225 = .ok (.if_icmp .ne 17, 3) := by decide +kernel
theorem dX4_tellAside_228 : decode cX4_tellAside 228 = .ok (.aload_n 0, 1) := by decide +kernel
theorem dX4_tellAside_229 : decode cX4_tellAside 229 = .ok (.getfield 36, 3) := by decide +kernel
theorem dX4_tellAside_232 : decode cX4_tellAside 232 = .ok (.invokevirtual 317, 3) := by decide +kernel
theorem dX4_tellAside_235 : decode cX4_tellAside 235 = .ok (.ifCond .eq 7, 3) := by decide +kernel
theorem dX4_tellAside_238 : decode cX4_tellAside 238 = .ok (.iconst 1, 1) := by decide +kernel
theorem dX4_tellAside_239 : decode cX4_tellAside 239 = .ok (.goto 4, 3) := by decide +kernel
theorem dX4_tellAside_242 : decode cX4_tellAside 242 = .ok (.iconst 0, 1) := by decide +kernel
theorem dX4_tellAside_243 : decode cX4_tellAside 243 = .ok (.istore_n 2, 1) := by decide +kernel
theorem dX4_tellAside_244 : decode cX4_tellAside 244 = .ok (.iinc 3 1, 3) := by decide +kernel
theorem dX4_tellAside_247 : decode cX4_tellAside 247 = .ok (.goto (-204), 3) := by decide +kernel
theorem dX4_tellAside_250 : decode cX4_tellAside 250 = .ok (.aload_n 0, 1) := by decide +kernel
theorem dX4_tellAside_251 : decode cX4_tellAside 251 = .ok (.getfield 36, 3) := by decide +kernel
theorem dX4_tellAside_254 : decode cX4_tellAside 254 = .ok (.iconst 0, 1) := by decide +kernel
theorem dX4_tellAside_255 : decode cX4_tellAside 255 = .ok (.putfield 58, 3) := by decide +kernel
theorem dX4_tellAside_258 : decode cX4_tellAside 258 = .ok (.aload_n 0, 1) := by decide +kernel
theorem dX4_tellAside_259 : decode cX4_tellAside 259 = .ok (.getfield 36, 3) := by decide +kernel
theorem dX4_tellAside_262 : decode cX4_tellAside 262 = .ok (.getfield 80, 3) := by decide +kernel
theorem dX4_tellAside_265 : decode cX4_tellAside 265 = .ok (.iconst (-1), 1) := by decide +kernel
theorem dX4_tellAside_266 : decode cX4_tellAside 266 = .ok (.if_icmp .ne 7, 3) := by decide +kernel
theorem dX4_tellAside_269 : decode cX4_tellAside 269 = .ok (.iload_n 1, 1) := by decide +kernel
theorem dX4_tellAside_270 : decode cX4_tellAside 270 = .ok (.goto 4, 3) := by decide +kernel
theorem dX4_tellAside_273 : decode cX4_tellAside 273 = .ok (.iconst (-1), 1) := by decide +kernel
theorem dX4_tellAside_274 : decode cX4_tellAside 274 = .ok (.ireturn, 1) := by decide +kernel
theorem dX4_holds_0 : decode cX4_holds 0 = .ok (.iload_n 0, 1) := by decide +kernel
theorem dX4_holds_1 : decode cX4_holds 1 = .ok (.iload_n 1, 1) := by decide +kernel
theorem dX4_holds_2 : decode cX4_holds 2 = .ok (.ishr, 1) := by decide +kernel
theorem dX4_holds_3 : decode cX4_holds 3 = .ok (.iconst 1, 1) := by decide +kernel
theorem dX4_holds_4 : decode cX4_holds 4 = .ok (.iand, 1) := by decide +kernel
theorem dX4_holds_5 : decode cX4_holds 5 = .ok (.ifCond .eq 7, 3) := by decide +kernel
theorem dX4_holds_8 : decode cX4_holds 8 = .ok (.iconst 1, 1) := by decide +kernel
theorem dX4_holds_9 : decode cX4_holds 9 = .ok (.goto 4, 3) := by decide +kernel
theorem dX4_holds_12 : decode cX4_holds 12 = .ok (.iconst 0, 1) := by decide +kernel
theorem dX4_holds_13 : decode cX4_holds 13 = .ok (.ireturn, 1) := by decide +kernel

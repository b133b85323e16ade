theorem dX5_feed_36 : decode cX5_feed 36 = .ok (.iload_n 1, 1) := by decide +kernel
theorem dX5_feed_37 : decode cX5_feed 37 = .ok (.goto 39, 3) := by decide +kernel
theorem dX5_feed_40 : decode cX5_feed 40 = .ok (.iload 6, 2) := by decide +kernel
theorem dX5_feed_42 : decode cX5_feed 42 = .ok (.bipush 8, 2) := by decide +kernel
theorem dX5_feed_44 : decode cX5_feed 44 = .ok (.if_icmp .ge 7, 3) := by decide +kernel
theorem dX5_feed_47 : decode cX5_feed 47 = .ok (.iload_n 2, 1) := by decide +kernel
theorem dX5_feed_48 : decode cX5_feed 48 = .ok (.goto 28, 3) := by decide +kernel
theorem dX5_feed_51 : decode cX5_feed 51 = .ok (.iload 6, 2) := by decide +kernel
theorem dX5_feed_53 : decode cX5_feed 53 = .ok (.bipush 12, 2) := by decide +kernel
theorem dX5_feed_55 : decode cX5_feed 55 = .ok (.if_icmp .ge 7, 3) := by decide +kernel
theorem dX5_feed_58 : decode cX5_feed 58 = .ok (.iload_n 3, 1) := by decide +kernel
theorem dX5_feed_59 : decode cX5_feed 59 = .ok (.goto 17, 3) := by decide +kernel
theorem dX5_feed_62 : decode cX5_feed 62 = .ok (.iload 6, 2) := by decide +kernel
theorem dX5_feed_64 : decode cX5_feed 64 = .ok (.bipush 16, 2) := by decide +kernel
theorem dX5_feed_66 : decode cX5_feed 66 = .ok (.if_icmp .ge 8, 3) := by decide +kernel
theorem dX5_feed_69 : decode cX5_feed 69 = .ok (.iload 4, 2) := by decide +kernel
theorem dX5_feed_71 : decode cX5_feed 71 = .ok (.goto 5, 3) := by decide +kernel
theorem dX5_feed_74 : decode cX5_feed 74 = .ok (.iload 5, 2) := by decide +kernel
theorem dX5_feed_76 : decode cX5_feed 76 = .ok (.istore 7, 2) := by decide +kernel
theorem dX5_feed_78 : decode cX5_feed 78 = .ok (.aload_n 0, 1) := by decide +kernel
theorem dX5_feed_79 : decode cX5_feed 79 = .ok (.getfield 26, 3) := by decide +kernel
theorem dX5_feed_82 : decode cX5_feed 82 = .ok (.aload_n 0, 1) := by decide +kernel
theorem dX5_feed_83 : decode cX5_feed 83 = .ok (.getfield 175, 3) := by decide +kernel
theorem dX5_feed_86 : decode cX5_feed 86 = .ok (.iload 7, 2) := by decide +kernel
theorem dX5_feed_88 : decode cX5_feed 88 = .ok (.bipush 24, 2) := by decide +kernel
theorem dX5_feed_90 : decode cX5_feed 90 = .ok (.bipush 8, 2) := by decide +kernel
theorem dX5_feed_92 : decode cX5_feed 92 = .ok (.iload 6, 2) := by decide +kernel
theorem dX5_feed_94 : decode cX5_feed 94 = .ok (.iconst 4, 1) := by decide +kernel
theorem dX5_feed_95 : decode cX5_feed 95 = .ok (.irem, 1) := by decide +kernel
theorem dX5_feed_96 : decode cX5_feed 96 = .ok (.imul, 1) := by decide +kernel
theorem dX5_feed_97 : decode cX5_feed 97 = .ok (.isub, 1) := by decide +kernel
theorem dX5_feed_98 : decode cX5_feed 98 = .ok (.iushr, 1) := by decide +kernel
theorem dX5_feed_99 : decode cX5_feed 99 = .ok (.sipush 255, 3) := by decide +kernel
theorem dX5_feed_102 : decode cX5_feed 102 = .ok (.iand, 1) := by decide +kernel
theorem dX5_feed_103 : decode cX5_feed 103 = .ok (.iastore, 1) := by decide +kernel
theorem dX5_feed_104 : decode cX5_feed 104 = .ok (.aload_n 0, 1) := by decide +kernel
theorem dX5_feed_105 : decode cX5_feed 105 = .ok (.dup, 1) := by decide +kernel
theorem dX5_feed_106 : decode cX5_feed 106 = .ok (.getfield 175, 3) := by decide +kernel
theorem dX5_feed_109 : decode cX5_feed 109 = .ok (.iconst 1, 1) := by decide +kernel
theorem dX5_feed_110 : decode cX5_feed 110 = .ok (.iadd, 1) := by decide +kernel
theorem dX5_feed_111 : decode cX5_feed 111 = .ok (.putfield 175, 3) := by decide +kernel
theorem dX5_feed_114 : decode cX5_feed 114 = .ok (.iinc 6 1, 3) := by decide +kernel
theorem dX5_feed_117 : decode cX5_feed 117 = .ok (.goto (-94), 3) := by decide +kernel
theorem dX5_feed_120 : decode cX5_feed 120 = .ok (.aload_n 0, 1) := by decide +kernel
theorem dX5_feed_121 : decode cX5_feed 121 = .ok (.getfield 175, 3) := by decide +kernel
theorem dX5_feed_124 : decode cX5_feed 124 = .ok (.ireturn, 1) := by decide +kernel
theorem dX5_end_0 : decode cX5_end 0 = .ok (.aload_n 0, 1) := by decide +kernel
theorem dX5_end_1 : decode cX5_end 1 = .ok (.iconst 0, 1) := by decide +kernel
theorem dX5_end_2 : decode cX5_end 2 = .ok (.putfield 58, 3) := by decide +kernel
theorem dX5_end_5 : decode cX5_end 5 = .ok (.iload_n 1, 1) := by decide +kernel
theorem dX5_end_6 : decode cX5_end 6 = .ok (.iconst 0, 1) := by decide +kernel
theorem dX5_end_7 : decode cX5_end 7 = .ok (.aload_n 0, 1) := by decide +kernel
theorem dX5_end_8 : decode cX5_end 8 = .ok (.getfield 175, 3) := by decide +kernel
theorem dX5_end_11 : decode cX5_end 11 = .ok (.invokestatic 61, 3) := by decide +kernel
theorem dX5_end_14 : decode cX5_end 14 = .ok (.ifCond .ne 5, 3) := by decide +kernel
theorem dX5_end_17 : decode cX5_end 17 = .ok (.iconst 0, 1) := by decide +kernel
theorem dX5_end_18 : decode cX5_end 18 = .ok (.ireturn, 1) := by decide +kernel
theorem dX5_end_19 : decode cX5_end 19 = .ok (.aload_n 0, 1) := by decide +kernel
theorem dX5_end_20 : decode cX5_end 20 = .ok (.iload_n 1, 1) := by decide +kernel
theorem dX5_end_21 : decode cX5_end 21 = .ok (.putfield 175, 3) := by decide +kernel
theorem dX5_end_24 : decode cX5_end 24 = .ok (.iconst 1, 1) := by decide +kernel
theorem dX5_end_25 : decode cX5_end 25 = .ok (.ireturn, 1) := by decide +kernel
theorem dX5_here_0 : decode cX5_here 0 = .ok (.aload_n 0, 1) := by decide +kernel
theorem dX5_here_1 : decode cX5_here 1 = .ok (.getfield 178, 3) := by decide +kernel
theorem dX5_here_4 : decode cX5_here 4 = .ok (.aload_n 0, 1) := by decide +kernel
theorem dX5_here_5 : decode cX5_here 5 = .ok (.getfield 181, 3) := by decide +kernel
theorem dX5_here_8 : decode cX5_here 8 = .ok (.if_icmp .ge 30, 3) := by decide +kernel
theorem dX5_here_11 : decode cX5_here 11 = .ok (.aload_n 0, 1) := by decide +kernel
theorem dX5_here_12 : decode cX5_here 12 = .ok (.getfield 26, 3) := by decide +kernel
theorem dX5_here_15 : decode cX5_here 15 = .ok (.aload_n 0, 1) := by decide +kernel
theorem dX5_here_16 : decode cX5_here 16 = .ok (.getfield 178, 3) := by decide +kernel
theorem dX5_here_19 : decode cX5_here 19 = .ok (.iaload, 1) := by decide +kernel
theorem dX5_here_20 : decode cX5_here 20 = .ok (.bipush 32, 2) := by decide +kernel
theorem dX5_here_22 : decode cX5_here 22 = .ok (.if_icmp .ne 16, 3) := by decide +kernel
theorem dX5_here_25 : decode cX5_here 25 = .ok (.aload_n 0, 1) := by decide +kernel
theorem dX5_here_26 : decode cX5_here 26 = .ok (.dup, 1) := by decide +kernel
theorem dX5_here_27 : decode cX5_here 27 = .ok (.getfield 178, 3) := by decide +kernel
theorem dX5_here_30 : decode cX5_here 30 = .ok (.iconst 1, 1) := by decide +kernel
theorem dX5_here_31 : decode cX5_here 31 = .ok (.iadd, 1) := by decide +kernel
theorem dX5_here_32 : decode cX5_here 32 = .ok (.putfield 178, 3) := by decide +kernel
theorem dX5_here_35 : decode cX5_here 35 = .ok (.goto (-35), 3) := by decide +kernel
theorem dX5_here_38 : decode cX5_here 38 = .ok (.aload_n 0, 1) := by decide +kernel
theorem dX5_here_39 : decode cX5_here 39 = .ok (.getfield 178, 3) := by decide +kernel
theorem dX5_here_42 : decode cX5_here 42 = .ok (.ireturn, 1) := by decide +kernel
theorem dX5_wrong_0 : decode cX5_wrong 0 = .ok (.aload_n 0, 1) := by decide +kernel
theorem dX5_wrong_1 : decode cX5_wrong 1 = .ok (.getfield 29, 3) := by decide +kernel
theorem dX5_wrong_4 : decode cX5_wrong 4 = .ok (.iconst (-1), 1) := by decide +kernel
theorem dX5_wrong_5 : decode cX5_wrong 5 = .ok (.if_icmp .ne 8, 3) := by decide +kernel
theorem dX5_wrong_8 : decode cX5_wrong 8 = .ok (.aload_n 0, 1) := by decide +kernel
theorem dX5_wrong_9 : decode cX5_wrong 9 = .ok (.iload_n 1, 1) := by decide +kernel
theorem dX5_wrong_10 : decode cX5_wrong 10 = .ok (.putfield 29, 3) := by decide +kernel
theorem dX5_wrong_13 : decode cX5_wrong 13 = .ok (.return_, 1) := by decide +kernel
theorem dX5_has_0 : decode cX5_has 0 = .ok (.aload_n 0, 1) := by decide +kernel
theorem dX5_has_1 : decode cX5_has 1 = .ok (.invokevirtual 184, 3) := by decide +kernel
theorem dX5_has_4 : decode cX5_has 4 = .ok (.istore_n 2, 1) := by decide +kernel
theorem dX5_has_5 : decode cX5_has 5 = .ok (.iload_n 2, 1) := by decide +kernel
theorem dX5_has_6 : decode cX5_has 6 = .ok (.aload_n 0, 1) := by decide +kernel
theorem dX5_has_7 : decode cX5_has 7 = .ok (.getfield 181, 3) := by decide +kernel
theorem dX5_has_10 : decode cX5_has 10 = .ok (.if_icmp .ge 25, 3) := by decide +kernel
theorem dX5_has_13 : decode cX5_has 13 = .ok (.aload_n 0, 1) := by decide +kernel
theorem dX5_has_14 : decode cX5_has 14 = .ok (.getfield 26, 3) := by decide +kernel
theorem dX5_has_17 : decode cX5_has 17 = .ok (.iload_n 2, 1) := by decide +kernel
theorem dX5_has_18 : decode cX5_has 18 = .ok (.iaload, 1) := by decide +kernel
theorem dX5_has_19 : decode cX5_has 19 = .ok (.bipush 97, 2) := by decide +kernel
theorem dX5_has_21 : decode cX5_has 21 = .ok (.bipush 122, 2) := by decide +kernel
theorem dX5_has_23 : decode cX5_has 23 = .ok (.invokestatic 61, 3) := by decide +kernel
theorem dX5_has_26 : decode cX5_has 26 = .ok (.ifCond .eq 9, 3) := by decide +kernel
theorem dX5_has_29 : decode cX5_has 29 = .ok (.iinc 2 1, 3) := by decide +kernel
theorem dX5_has_32 : decode cX5_has 32 = .ok (.goto (-27), 3) := by decide +kernel
theorem dX5_has_35 : decode cX5_has 35 = .ok (.aload_n 0, 1) := by decide +kernel
theorem dX5_has_36 : decode cX5_has 36 = .ok (.getfield 29, 3) := by decide +kernel
theorem dX5_has_39 : decode cX5_has 39 = .ok (.iconst (-1), 1) := by decide +kernel
theorem dX5_has_40 : decode cX5_has 40 = .ok (.if_icmp .ne 16, 3) := by decide +kernel
theorem dX5_has_43 : decode cX5_has 43 = .ok (.iload_n 2, 1) := by decide +kernel
theorem dX5_has_44 : decode cX5_has 44 = .ok (.aload_n 0, 1) := by decide +kernel
theorem dX5_has_45 : decode cX5_has 45 = .ok (.getfield 178, 3) := by decide +kernel
theorem dX5_has_48 : decode cX5_has 48 = .ok (.isub, 1) := by decide +kernel
theorem dX5_has_49 : decode cX5_has 49 = .ok (.aload_n 1, 1) := by decide +kernel
theorem dX5_has_50 : decode cX5_has 50 = .ok (.invokevirtual 187, 3) := by decide +kernel
theorem dX5_has_53 : decode cX5_has 53 = .ok (.if_icmp .eq 5, 3) := by decide +kernel
theorem dX5_has_56 : decode cX5_has 56 = .ok (.iconst 0, 1) := by decide +kernel
theorem dX5_has_57 : decode cX5_has 57 = .ok (.ireturn, 1) := by decide +kernel
theorem dX5_has_58 : decode cX5_has 58 = .ok (.iconst 0, 1) := by decide +kernel
theorem dX5_has_59 : decode cX5_has 59 = .ok (.istore_n 3, 1) := by decide +kernel
theorem dX5_has_60 : decode cX5_has 60 = .ok (.iload_n 3, 1) := by decide +kernel
theorem dX5_has_61 : decode cX5_has 61 = .ok (.aload_n 1, 1) := by decide +kernel
theorem dX5_has_62 : decode cX5_has 62 = .ok (.invokevirtual 187, 3) := by decide +kernel
theorem dX5_has_65 : decode cX5_has 65 = .ok (.if_icmp .ge 30, 3) := by decide +kernel
theorem dX5_has_68 : decode cX5_has 68 = .ok (.aload_n 0, 1) := by decide +kernel
theorem dX5_has_69 : decode cX5_has 69 = .ok (.getfield 26, 3) := by decide +kernel
theorem dX5_has_72 : decode cX5_has 72 = .ok (.aload_n 0, 1) := by decide +kernel
theorem dX5_has_73 : decode cX5_has 73 = .ok (.getfield 178, 3) := by decide +kernel
theorem dX5_has_76 : decode cX5_has 76 = .ok (.iload_n 3, 1) := by decide +kernel
theorem dX5_has_77 : decode cX5_has 77 = .ok (.iadd, 1) := by decide +kernel
theorem dX5_has_78 : decode cX5_has 78 = .ok (.iaload, 1) := by decide +kernel
theorem dX5_has_79 : decode cX5_has 79 = .ok (.aload_n 1, 1) := by decide +kernel
theorem dX5_has_80 : decode cX5_has 80 = .ok (.iload_n 3, 1) := by decide +kernel
theorem dX5_has_81 : decode cX5_has 81 = .ok (.invokevirtual 192, 3) := by decide +kernel
theorem dX5_has_84 : decode cX5_has 84 = .ok (.if_icmp .eq 5, 3) := by decide +kernel
theorem dX5_has_87 : decode cX5_has 87 = .ok (.iconst 0, 1) := by decide +kernel
theorem dX5_has_88 : decode cX5_has 88 = .ok (.ireturn, 1) := by decide +kernel
theorem dX5_has_89 : decode cX5_has 89 = .ok (.iinc 3 1, 3) := by decide +kernel
theorem dX5_has_92 : decode cX5_has 92 = .ok (.goto (-32), 3) := by decide +kernel
theorem dX5_has_95 : decode cX5_has 95 = .ok (.aload_n 0, 1) := by decide +kernel
theorem dX5_has_96 : decode cX5_has 96 = .ok (.iload_n 2, 1) := by decide +kernel
theorem dX5_has_97 : decode cX5_has 97 = .ok (.putfield 178, 3) := by decide +kernel
theorem dX5_has_100 : decode cX5_has 100 = .ok (.iconst 1, 1) := by decide +kernel
theorem dX5_has_101 : decode cX5_has 101 = .ok (.ireturn, 1) := by decide +kernel
theorem dX5_number_0 : decode cX5_number 0 = .ok (.aload_n 0, 1) := by decide +kernel
theorem dX5_number_1 : decode cX5_number 1 = .ok (.getfield 29, 3) := by decide +kernel
theorem dX5_number_4 : decode cX5_number 4 = .ok (.iconst (-1), 1) := by decide +kernel
theorem dX5_number_5 : decode cX5_number 5 = .ok (.if_icmp .eq 5, 3) := by decide +kernel
theorem dX5_number_8 : decode cX5_number 8 = .ok (.iconst 0, 1) := by decide +kernel
theorem dX5_number_9 : decode cX5_number 9 = .ok (.ireturn, 1) := by decide +kernel
theorem dX5_number_10 : decode cX5_number 10 = .ok (.aload_n 0, 1) := by decide +kernel
theorem dX5_number_11 : decode cX5_number 11 = .ok (.invokevirtual 184, 3) := by decide +kernel
theorem dX5_number_14 : decode cX5_number 14 = .ok (.istore_n 3, 1) := by decide +kernel
theorem dX5_number_15 : decode cX5_number 15 = .ok (.iconst 0, 1) := by decide +kernel
theorem dX5_number_16 : decode cX5_number 16 = .ok (.istore 4, 2) := by decide +kernel
theorem dX5_number_18 : decode cX5_number 18 = .ok (.aload_n 0, 1) := by decide +kernel
theorem dX5_number_19 : decode cX5_number 19 = .ok (.getfield 178, 3) := by decide +kernel
theorem dX5_number_22 : decode cX5_number 22 = .ok (.aload_n 0, 1) := by decide +kernel
theorem dX5_number_23 : decode cX5_number 23 = .ok (.getfield 181, 3) := by decide +kernel
theorem dX5_number_26 : decode cX5_number 26 = .ok (.if_icmp .ge 65, 3) := by decide +kernel
theorem dX5_number_29 : decode cX5_number 29 = .ok (.aload_n 0, 1) := by decide +kernel
theorem dX5_number_30 : decode cX5_number 30 = .ok (.getfield 26, 3) := by decide +kernel
theorem dX5_number_33 : decode cX5_number 33 = .ok (.aload_n 0, 1) := by decide +kernel
theorem dX5_number_34 : decode cX5_number 34 = .ok (.getfield 178, 3) := by decide +kernel
theorem dX5_number_37 : decode cX5_number 37 = .ok (.iaload, 1) := by decide +kernel
theorem dX5_number_38 : decode cX5_number 38 = .ok (.bipush 48, 2) := by decide +kernel
theorem dX5_number_40 : decode cX5_number 40 = .ok (.bipush 57, 2) := by decide +kernel
theorem dX5_number_42 : decode cX5_number 42 = .ok (.invokestatic 61, 3) := by decide +kernel
theorem dX5_number_45 : decode cX5_number 45 = .ok (.ifCond .eq 46, 3) := by decide +kernel
theorem dX5_number_48 : decode cX5_number 48 = .ok (.aload_n 0, 1) := by decide +kernel
theorem dX5_number_49 : decode cX5_number 49 = .ok (.getfield 178, 3) := by decide +kernel
theorem dX5_number_52 : decode cX5_number 52 = .ok (.iload_n 3, 1) := by decide +kernel
theorem dX5_number_53 : decode cX5_number 53 = .ok (.isub, 1) := by decide +kernel
theorem dX5_number_54 : decode cX5_number 54 = .ok (.iconst 2, 1) := by decide +kernel
theorem dX5_number_55 : decode cX5_number 55 = .ok (.if_icmp .gt 36, 3) := by decide +kernel
theorem dX5_number_58 : decode cX5_number 58 = .ok (.bipush 10, 2) := by decide +kernel
theorem dX5_number_60 : decode cX5_number 60 = .ok (.iload 4, 2) := by decide +kernel
theorem dX5_number_62 : decode cX5_number 62 = .ok (.imul, 1) := by decide +kernel
theorem dX5_number_63 : decode cX5_number 63 = .ok (.aload_n 0, 1) := by decide +kernel
theorem dX5_number_64 : decode cX5_number 64 = .ok (.getfield 26, 3) := by decide +kernel
theorem dX5_number_67 : decode cX5_number 67 = .ok (.aload_n 0, 1) := by decide +kernel
theorem dX5_number_68 : decode cX5_number 68 = .ok (.getfield 178, 3) := by decide +kernel
theorem dX5_number_71 : decode cX5_number 71 = .ok (.iaload, 1) := by decide +kernel
theorem dX5_number_72 : decode cX5_number 72 = .ok (.iadd, 1) := by decide +kernel
theorem dX5_number_73 : decode cX5_number 73 = .ok (.bipush 48, 2) := by decide +kernel
theorem dX5_number_75 : decode cX5_number 75 = .ok (.isub, 1) := by decide +kernel
theorem dX5_number_76 : decode cX5_number 76 = .ok (.istore 4, 2) := by decide +kernel
theorem dX5_number_78 : decode cX5_number 78 = .ok (.aload_n 0, 1) := by decide +kernel
theorem dX5_number_79 : decode cX5_number 79 = .ok (.dup, 1) := by decide +kernel
theorem dX5_number_80 : decode cX5_number 80 = .ok (.getfield 178, 3) := by decide +kernel
theorem dX5_number_83 : decode cX5_number 83 = .ok (.iconst 1, 1) := by decide +kernel
theorem dX5_number_84 : decode cX5_number 84 = .ok (.iadd, 1) := by decide +kernel
theorem dX5_number_85 : decode cX5_number 85 = .ok (.putfield 178, 3) := by decide +kernel
theorem dX5_number_88 : decode cX5_number 88 = .ok (.goto (-70), 3) := by decide +kernel
theorem dX5_number_91 : decode cX5_number 91 = .ok (.aload_n 0, 1) := by decide +kernel
theorem dX5_number_92 : decode cX5_number 92 = .ok (.getfield 178, 3) := by decide +kernel
theorem dX5_number_95 : decode cX5_number 95 = .ok (.iload_n 3, 1) := by decide +kernel
theorem dX5_number_96 : decode cX5_number 96 = .ok (.if_icmp .eq 25, 3) := by decide +kernel
theorem dX5_number_99 : decode cX5_number 99 = .ok (.aload_n 0, 1) := by decide +kernel
theorem dX5_number_100 : decode cX5_number 100 = .ok (.getfield 178, 3) := by decide +kernel
theorem dX5_number_103 : decode cX5_number 103 = .ok (.iload_n 3, 1) := by decide +kernel
theorem dX5_number_104 : decode cX5_number 104 = .ok (.isub, 1) := by decide +kernel
theorem dX5_number_105 : decode cX5_number 105 = .ok (.iconst 2, 1) := by decide +kernel
theorem dX5_number_106 : decode cX5_number 106 = .ok (.if_icmp .gt 15, 3) := by decide +kernel
theorem dX5_number_109 : decode cX5_number 109 = .ok (.iload 4, 2) := by decide +kernel
theorem dX5_number_111 : decode cX5_number 111 = .ok (.iload_n 1, 1) := by decide +kernel
theorem dX5_number_112 : decode cX5_number 112 = .ok (.if_icmp .lt 9, 3) := by decide +kernel
theorem dX5_number_115 : decode cX5_number 115 = .ok (.iload 4, 2) := by decide +kernel
theorem dX5_number_117 : decode cX5_number 117 = .ok (.iload_n 2, 1) := by decide +kernel
theorem dX5_number_118 : decode cX5_number 118 = .ok (.if_icmp .le 8, 3) := by decide +kernel
theorem dX5_number_121 : decode cX5_number 121 = .ok (.aload_n 0, 1) := by decide +kernel
theorem dX5_number_122 : decode cX5_number 122 = .ok (.iload_n 3, 1) := by decide +kernel
theorem dX5_number_123 : decode cX5_number 123 = .ok (.invokevirtual 196, 3) := by decide +kernel
theorem dX5_number_126 : decode cX5_number 126 = .ok (.iload 4, 2) := by decide +kernel
theorem dX5_number_128 : decode cX5_number 128 = .ok (.ireturn, 1) := by decide +kernel
theorem dX5_passesComma_0 : decode cX5_passesComma 0 = .ok (.aload_n 0, 1) := by decide +kernel
theorem dX5_passesComma_1 : decode cX5_passesComma 1 = .ok (.getfield 29, 3) := by decide +kernel
theorem dX5_passesComma_4 : decode cX5_passesComma 4 = .ok (.iconst (-1), 1) := by decide +kernel
theorem dX5_passesComma_5 : decode cX5_passesComma 5 = .ok (.if_icmp .ne 28, 3) := by decide +kernel
theorem dX5_passesComma_8 : decode cX5_passesComma 8 = .ok (.aload_n 0, 1) := by decide +kernel
theorem dX5_passesComma_9 : decode cX5_passesComma 9 = .ok (.invokevirtual 184, 3) := by decide +kernel
theorem dX5_passesComma_12 : decode cX5_passesComma 12 = .ok (.aload_n 0, 1) := by decide +kernel
theorem dX5_passesComma_13 : decode cX5_passesComma 13 = .ok (.getfield 181, 3) := by decide +kernel
theorem dX5_passesComma_16 : decode cX5_passesComma 16 = .ok (.if_icmp .eq 17, 3) := by decide +kernel
theorem dX5_passesComma_19 : decode cX5_passesComma 19 = .ok (.aload_n 0, 1) := by decide +kernel
theorem dX5_passesComma_20 : decode cX5_passesComma 20 = .ok (.getfield 26, 3) := by decide +kernel
theorem dX5_passesComma_23 : decode cX5_passesComma 23 = .ok (.aload_n 0, 1) := by decide +kernel
theorem dX5_passesComma_24 : decode cX5_passesComma 24 = .ok (.getfield 178, 3) := by decide +kernel
theorem dX5_passesComma_27 : decode cX5_passesComma 27 = .ok (.iaload, 1) := by decide +kernel
theorem dX5_passesComma_28 : decode cX5_passesComma 28 = .ok (.bipush 44, 2) := by decide +kernel
theorem dX5_passesComma_30 : decode cX5_passesComma 30 = .ok (.if_icmp .eq 5, 3) := by decide +kernel
theorem dX5_passesComma_33 : decode cX5_passesComma 33 = .ok (.iconst 0, 1) := by decide +kernel
theorem dX5_passesComma_34 : decode cX5_passesComma 34 = .ok (.ireturn, 1) := by decide +kernel
theorem dX5_passesComma_35 : decode cX5_passesComma 35 = .ok (.aload_n 0, 1) := by decide +kernel
theorem dX5_passesComma_36 : decode cX5_passesComma 36 = .ok (.dup, 1) := by decide +kernel
theorem dX5_passesComma_37 : decode cX5_passesComma 37 = .ok (.getfield 178, 3) := by decide +kernel
theorem dX5_passesComma_40 : decode cX5_passesComma 40 = .ok (.iconst 1, 1) := by decide +kernel
theorem dX5_passesComma_41 : decode cX5_passesComma 41 = .ok (.iadd, 1) := by decide +kernel
theorem dX5_passesComma_42 : decode cX5_passesComma 42 = .ok (.putfield 178, 3) := by decide +kernel
theorem dX5_passesComma_45 : decode cX5_passesComma 45 = .ok (.iconst 1, 1) := by decide +kernel
theorem dX5_passesComma_46 : decode cX5_passesComma 46 = .ok (.ireturn, 1) := by decide +kernel
theorem dX5_reads_0 : decode cX5_reads 0 = .ok (.aload_n 0, 1) := by decide +kernel
theorem dX5_reads_1 : decode cX5_reads 1 = .ok (.iconst 0, 1) := by decide +kernel
theorem dX5_reads_2 : decode cX5_reads 2 = .ok (.putfield 199, 3) := by decide +kernel
theorem dX5_reads_5 : decode cX5_reads 5 = .ok (.iconst 1, 1) := by decide +kernel
theorem dX5_reads_6 : decode cX5_reads 6 = .ok (.istore_n 2, 1) := by decide +kernel
theorem dX5_reads_7 : decode cX5_reads 7 = .ok (.iload_n 2, 1) := by decide +kernel
theorem dX5_reads_8 : decode cX5_reads 8 = .ok (.ifCond .eq 66, 3) := by decide +kernel
theorem dX5_reads_11 : decode cX5_reads 11 = .ok (.aload_n 0, 1) := by decide +kernel
theorem dX5_reads_12 : decode cX5_reads 12 = .ok (.getfield 48, 3) := by decide +kernel
theorem dX5_reads_15 : decode cX5_reads 15 = .ok (.aload_n 0, 1) := by decide +kernel
theorem dX5_reads_16 : decode cX5_reads 16 = .ok (.getfield 199, 3) := by decide +kernel
theorem dX5_reads_19 : decode cX5_reads 19 = .ok (.aload_n 0, 1) := by decide +kernel
theorem dX5_reads_20 : decode cX5_reads 20 = .ok (.iconst 0, 1) := by decide +kernel
theorem dX5_reads_21 : decode cX5_reads 21 = .ok (.iload_n 1, 1) := by decide +kernel
theorem dX5_reads_22 : decode cX5_reads 22 = .ok (.ifCond .eq 8, 3) := by decide +kernel
theorem dX5_reads_25 : decode cX5_reads 25 = .ok (.bipush 15, 2) := by decide +kernel
theorem dX5_reads_27 : decode cX5_reads 27 = .ok (.goto 5, 3) := by decide +kernel
theorem dX5_reads_30 : decode cX5_reads 30 = .ok (.bipush 59, 2) := by decide +kernel
theorem dX5_reads_32 : decode cX5_reads 32 = .ok (.invokevirtual 202, 3) := by decide +kernel
theorem dX5_reads_35 : decode cX5_reads 35 = .ok (.iastore, 1) := by decide +kernel
theorem dX5_reads_36 : decode cX5_reads 36 = .ok (.iload_n 1, 1) := by decide +kernel
theorem dX5_reads_37 : decode cX5_reads 37 = .ok (.ifCond .eq 19, 3) := by decide +kernel
theorem dX5_reads_40 : decode cX5_reads 40 = .ok (.aload_n 0, 1) := by decide +kernel
theorem dX5_reads_41 : decode cX5_reads 41 = .ok (.getfield 51, 3) := by decide +kernel
theorem dX5_reads_44 : decode cX5_reads 44 = .ok (.aload_n 0, 1) := by decide +kernel
theorem dX5_reads_45 : decode cX5_reads 45 = .ok (.getfield 199, 3) := by decide +kernel
theorem dX5_reads_48 : decode cX5_reads 48 = .ok (.aload_n 0, 1) := by decide +kernel
theorem dX5_reads_49 : decode cX5_reads 49 = .ok (.iconst 0, 1) := by decide +kernel
theorem dX5_reads_50 : decode cX5_reads 50 = .ok (.bipush 15, 2) := by decide +kernel
theorem dX5_reads_52 : decode cX5_reads 52 = .ok (.invokevirtual 202, 3) := by decide +kernel
theorem dX5_reads_55 : decode cX5_reads 55 = .ok (.iastore, 1) := by decide +kernel
theorem dX5_reads_56 : decode cX5_reads 56 = .ok (.aload_n 0, 1) := by decide +kernel
theorem dX5_reads_57 : decode cX5_reads 57 = .ok (.dup, 1) := by decide +kernel
theorem dX5_reads_58 : decode cX5_reads 58 = .ok (.getfield 199, 3) := by decide +kernel
theorem dX5_reads_61 : decode cX5_reads 61 = .ok (.iconst 1, 1) := by decide +kernel
theorem dX5_reads_62 : decode cX5_reads 62 = .ok (.iadd, 1) := by decide +kernel
theorem dX5_reads_63 : decode cX5_reads 63 = .ok (.putfield 199, 3) := by decide +kernel
theorem dX5_reads_66 : decode cX5_reads 66 = .ok (.aload_n 0, 1) := by decide +kernel
theorem dX5_reads_67 : decode cX5_reads 67 = .ok (.invokevirtual 205, 3) := by decide +kernel
theorem dX5_reads_70 : decode cX5_reads 70 = .ok (.istore_n 2, 1) := by decide +kernel
theorem dX5_reads_71 : decode cX5_reads 71 = .ok (.goto (-64), 3) := by decide +kernel
theorem dX5_reads_74 : decode cX5_reads 74 = .ok (.return_, 1) := by decide +kernel
theorem dX5_layText_0 : decode cX5_layText 0 = .ok (.aload_n 0, 1) := by decide +kernel
theorem dX5_layText_1 : decode cX5_layText 1 = .ok (.iconst 1, 1) := by decide +kernel
theorem dX5_layText_2 : decode cX5_layText 2 = .ok (.invokevirtual 209, 3) := by decide +kernel
theorem dX5_layText_5 : decode cX5_layText 5 = .ok (.iconst 0, 1) := by decide +kernel
theorem dX5_layText_6 : decode cX5_layText 6 = .ok (.istore_n 1, 1) := by decide +kernel
theorem dX5_layText_7 : decode cX5_layText 7 = .ok (.iconst 0, 1) := by decide +kernel
theorem dX5_layText_8 : decode cX5_layText 8 = .ok (.istore_n 2, 1) := by decide +kernel
theorem dX5_layText_9 : decode cX5_layText 9 = .ok (.iload_n 2, 1) := by decide +kernel
theorem dX5_layText_10 : decode cX5_layText 10 = .ok (.aload_n 0, 1) := by decide +kernel
theorem dX5_layText_11 : decode cX5_layText 11 = .ok (.getfield 199, 3) := by decide +kernel
theorem dX5_layText_14 : decode cX5_layText 14 = .ok (.if_icmp .ge 38, 3) := by decide +kernel
theorem dX5_layText_17 : decode cX5_layText 17 = .ok (.aload_n 0, 1) := by decide +kernel
theorem dX5_layText_18 : decode cX5_layText 18 = .ok (.getfield 29, 3) := by decide +kernel
theorem dX5_layText_21 : decode cX5_layText 21 = .ok (.iconst (-1), 1) := by decide +kernel
theorem dX5_layText_22 : decode cX5_layText 22 = .ok (.if_icmp .ne 30, 3) := by decide +kernel
theorem dX5_layText_25 : decode cX5_layText 25 = .ok (.iload_n 1, 1) := by decide +kernel
theorem dX5_layText_26 : decode cX5_layText 26 = .ok (.ifCond .ne 26, 3) := by decide +kernel
theorem dX5_layText_29 : decode cX5_layText 29 = .ok (.aload_n 0, 1) := by decide +kernel
theorem dX5_layText_30 : decode cX5_layText 30 = .ok (.aload_n 0, 1) := by decide +kernel
theorem dX5_layText_31 : decode cX5_layText 31 = .ok (.getfield 48, 3) := by decide +kernel
theorem dX5_layText_34 : decode cX5_layText 34 = .ok (.iload_n 2, 1) := by decide +kernel
theorem dX5_layText_35 : decode cX5_layText 35 = .ok (.iaload, 1) := by decide +kernel
theorem dX5_layText_36 : decode cX5_layText 36 = .ok (.aload_n 0, 1) := by decide +kernel
theorem dX5_layText_37 : decode cX5_layText 37 = .ok (.getfield 51, 3) := by decide +kernel
theorem dX5_layText_40 : decode cX5_layText 40 = .ok (.iload_n 2, 1) := by decide +kernel
theorem dX5_layText_41 : decode cX5_layText 41 = .ok (.iaload, 1) := by decide +kernel
theorem dX5_layText_42 : decode cX5_layText 42 = .ok (.invokevirtual 213, 3) := by decide +kernel
theorem dX5_layText_45 : decode cX5_layText 45 = .ok (.istore_n 1, 1) := by decide +kernel
theorem dX5_layText_46 : decode cX5_layText 46 = .ok (.iinc 2 1, 3) := by decide +kernel
theorem dX5_layText_49 : decode cX5_layText 49 = .ok (.goto (-40), 3) := by decide +kernel
theorem dX5_layText_52 : decode cX5_layText 52 = .ok (.iload_n 1, 1) := by decide +kernel
theorem dX5_layText_53 : decode cX5_layText 53 = .ok (.ireturn, 1) := by decide +kernel
theorem dX5_liftText_0 : decode cX5_liftText 0 = .ok (.aload_n 0, 1) := by decide +kernel
theorem dX5_liftText_1 : decode cX5_liftText 1 = .ok (.iconst 0, 1) := by decide +kernel
theorem dX5_liftText_2 : decode cX5_liftText 2 = .ok (.invokevirtual 209, 3) := by decide +kernel
theorem dX5_liftText_5 : decode cX5_liftText 5 = .ok (.iconst 0, 1) := by decide +kernel
theorem dX5_liftText_6 : decode cX5_liftText 6 = .ok (.istore_n 1, 1) := by decide +kernel
theorem dX5_liftText_7 : decode cX5_liftText 7 = .ok (.iconst 0, 1) := by decide +kernel
theorem dX5_liftText_8 : decode cX5_liftText 8 = .ok (.istore_n 2, 1) := by decide +kernel
theorem dX5_liftText_9 : decode cX5_liftText 9 = .ok (.iload_n 2, 1) := by decide +kernel
theorem dX5_liftText_10 : decode cX5_liftText 10 = .ok (.aload_n 0, 1) := by decide +kernel
theorem dX5_liftText_11 : decode cX5_liftText 11 = .ok (.getfield 199, 3) := by decide +kernel
theorem dX5_liftText_14 : decode cX5_liftText 14 = .ok (.if_icmp .ge 32, 3) := by decide +kernel
theorem dX5_liftText_17 : decode cX5_liftText 17 = .ok (.aload_n 0, 1) := by decide +kernel
theorem dX5_liftText_18 : decode cX5_liftText 18 = .ok (.getfield 29, 3) := by decide +kernel
theorem dX5_liftText_21 : decode cX5_liftText 21 = .ok (.iconst (-1), 1) := by decide +kernel
theorem dX5_liftText_22 : decode cX5_liftText 22 = .ok (.if_icmp .ne 24, 3) := by decide +kernel
theorem dX5_liftText_25 : decode cX5_liftText 25 = .ok (.iload_n 1, 1) := by decide +kernel
theorem dX5_liftText_26 : decode cX5_liftText 26 = .ok (.ifCond .ne 20, 3) := by decide +kernel
theorem dX5_liftText_29 : decode cX5_liftText 29 = .ok (.aload_n 0, 1) := by decide +kernel
theorem dX5_liftText_30 : decode cX5_liftText 30 = .ok (.aload_n 0, 1) := by decide +kernel
theorem dX5_liftText_31 : decode cX5_liftText 31 = .ok (.getfield 48, 3) := by decide +kernel
theorem dX5_liftText_34 : decode cX5_liftText 34 = .ok (.iload_n 2, 1) := by decide +kernel
theorem dX5_liftText_35 : decode cX5_liftText 35 = .ok (.iaload, 1) := by decide +kernel
theorem dX5_liftText_36 : decode cX5_liftText 36 = .ok (.invokevirtual 163, 3) := by decide +kernel
theorem dX5_liftText_39 : decode cX5_liftText 39 = .ok (.istore_n 1, 1) := by decide +kernel
theorem dX5_liftText_40 : decode cX5_liftText 40 = .ok (.iinc 2 1, 3) := by decide +kernel
theorem dX5_liftText_43 : decode cX5_liftText 43 = .ok (.goto (-34), 3) := by decide +kernel
theorem dX5_liftText_46 : decode cX5_liftText 46 = .ok (.iload_n 1, 1) := by decide +kernel
theorem dX5_liftText_47 : decode cX5_liftText 47 = .ok (.ireturn, 1) := by decide +kernel
theorem dX5_act_0 : decode cX5_act 0 = .ok (.aload_n 0, 1) := by decide +kernel
theorem dX5_act_1 : decode cX5_act 1 = .ok (.invokevirtual 184, 3) := by decide +kernel
theorem dX5_act_4 : decode cX5_act 4 = .ok (.istore_n 1, 1) := by decide +kernel
theorem dX5_act_5 : decode cX5_act 5 = .ok (.iconst 0, 1) := by decide +kernel
theorem dX5_act_6 : decode cX5_act 6 = .ok (.istore_n 2, 1) := by decide +kernel
theorem dX5_act_7 : decode cX5_act 7 = .ok (.aload_n 0, 1) := by decide +kernel
theorem dX5_act_8 : decode cX5_act 8 = .ok (.ldc 216, 2) := by decide +kernel
theorem dX5_act_10 : decode cX5_act 10 = .ok (.invokevirtual 218, 3) := by decide +kernel
theorem dX5_act_13 : decode cX5_act 13 = .ok (.ifCond .eq 27, 3) := by decide +kernel
theorem dX5_act_16 : decode cX5_act 16 = .ok (.aload_n 0, 1) := by decide +kernel
theorem dX5_act_17 : decode cX5_act 17 = .ok (.iconst 2, 1) := by decide +kernel
theorem dX5_act_18 : decode cX5_act 18 = .ok (.bipush 16, 2) := by decide +kernel
theorem dX5_act_20 : decode cX5_act 20 = .ok (.invokevirtual 202, 3) := by decide +kernel
theorem dX5_act_23 : decode cX5_act 23 = .ok (.istore_n 3, 1) := by decide +kernel
theorem dX5_act_24 : decode cX5_act 24 = .ok (.aload_n 0, 1) := by decide +kernel
theorem dX5_act_25 : decode cX5_act 25 = .ok (.getfield 29, 3) := by decide +kernel
theorem dX5_act_28 : decode cX5_act 28 = .ok (.iconst (-1), 1) := by decide +kernel
theorem dX5_act_29 : decode cX5_act 29 = .ok (.if_icmp .ne 8, 3) := by decide +kernel
theorem dX5_act_32 : decode cX5_act 32 = .ok (.aload_n 0, 1) := by decide +kernel
theorem dX5_act_33 : decode cX5_act 33 = .ok (.iload_n 3, 1) := by decide +kernel
theorem dX5_act_34 : decode cX5_act 34 = .ok (.invokevirtual 54, 3) := by decide +kernel
theorem dX5_act_37 : decode cX5_act 37 = .ok (.goto 195, 3) := by decide +kernel
theorem dX5_act_40 : decode cX5_act 40 = .ok (.aload_n 0, 1) := by decide +kernel
theorem dX5_act_41 : decode cX5_act 41 = .ok (.ldc 222, 2) := by decide +kernel
theorem dX5_act_43 : decode cX5_act 43 = .ok (.invokevirtual 218, 3) := by decide +kernel
theorem dX5_act_46 : decode cX5_act 46 = .ok (.ifCond .eq 11, 3) := by decide +kernel
theorem dX5_act_49 : decode cX5_act 49 = .ok (.aload_n 0, 1) := by decide +kernel
theorem dX5_act_50 : decode cX5_act 50 = .ok (.invokevirtual 224, 3) := by decide +kernel
theorem dX5_act_53 : decode cX5_act 53 = .ok (.istore_n 2, 1) := by decide +kernel
theorem dX5_act_54 : decode cX5_act 54 = .ok (.goto 178, 3) := by decide +kernel
theorem dX5_act_57 : decode cX5_act 57 = .ok (.aload_n 0, 1) := by decide +kernel
theorem dX5_act_58 : decode cX5_act 58 = .ok (.ldc 227, 2) := by decide +kernel
theorem dX5_act_60 : decode cX5_act 60 = .ok (.invokevirtual 218, 3) := by decide +kernel
theorem dX5_act_63 : decode cX5_act 63 = .ok (.ifCond .eq 11, 3) := by decide +kernel
theorem dX5_act_66 : decode cX5_act 66 = .ok (.aload_n 0, 1) := by decide +kernel
theorem dX5_act_67 : decode cX5_act 67 = .ok (.invokevirtual 229, 3) := by decide +kernel
theorem dX5_act_70 : decode cX5_act 70 = .ok (.istore_n 2, 1) := by decide +kernel
theorem dX5_act_71 : decode cX5_act 71 = .ok (.goto 161, 3) := by decide +kernel
theorem dX5_act_74 : decode cX5_act 74 = .ok (.aload_n 0, 1) := by decide +kernel
theorem dX5_act_75 : decode cX5_act 75 = .ok (.ldc 232, 2) := by decide +kernel
theorem dX5_act_77 : decode cX5_act 77 = .ok (.invokevirtual 218, 3) := by decide +kernel
theorem dX5_act_80 : decode cX5_act 80 = .ok (.ifCond .eq 43, 3) := by decide +kernel
theorem dX5_act_83 : decode cX5_act 83 = .ok (.aload_n 0, 1) := by decide +kernel
theorem dX5_act_84 : decode cX5_act 84 = .ok (.iconst 0, 1) := by decide +kernel
theorem dX5_act_85 : decode cX5_act 85 = .ok (.bipush 59, 2) := by decide +kernel
theorem dX5_act_87 : decode cX5_act 87 = .ok (.invokevirtual 202, 3) := by decide +kernel
theorem dX5_act_90 : decode cX5_act 90 = .ok (.istore_n 3, 1) := by decide +kernel
theorem dX5_act_91 : decode cX5_act 91 = .ok (.aload_n 0, 1) := by decide +kernel
theorem dX5_act_92 : decode cX5_act 92 = .ok (.iconst 0, 1) := by decide +kernel
theorem dX5_act_93 : decode cX5_act 93 = .ok (.bipush 59, 2) := by decide +kernel
theorem dX5_act_95 : decode cX5_act 95 = .ok (.invokevirtual 202, 3) := by decide +kernel
theorem dX5_act_98 : decode cX5_act 98 = .ok (.istore 4, 2) := by decide +kernel
theorem dX5_act_100 : decode cX5_act 100 = .ok (.aload_n 0, 1) := by decide +kernel
theorem dX5_act_101 : decode cX5_act 101 = .ok (.getfield 29, 3) := by decide +kernel
theorem dX5_act_104 : decode cX5_act 104 = .ok (.iconst (-1), 1) := by decide +kernel
theorem dX5_act_105 : decode cX5_act 105 = .ok (.if_icmp .ne 13, 3) := by decide +kernel
theorem dX5_act_108 : decode cX5_act 108 = .ok (.aload_n 0, 1) := by decide +kernel
theorem dX5_act_109 : decode cX5_act 109 = .ok (.iload_n 3, 1) := by decide +kernel
theorem dX5_act_110 : decode cX5_act 110 = .ok (.iload 4, 2) := by decide +kernel
theorem dX5_act_112 : decode cX5_act 112 = .ok (.invokevirtual 234, 3) := by decide +kernel
theorem dX5_act_115 : decode cX5_act 115 = .ok (.goto 4, 3) := by decide +kernel
theorem dX5_act_118 : decode cX5_act 118 = .ok (.iconst 0, 1) := by decide +kernel
theorem dX5_act_119 : decode cX5_act 119 = .ok (.istore_n 2, 1) := by decide +kernel
theorem dX5_act_120 : decode cX5_act 120 = .ok (.goto 112, 3) := by decide +kernel
theorem dX5_act_123 : decode cX5_act 123 = .ok (.aload_n 0, 1) := by decide +kernel
theorem dX5_act_124 : decode cX5_act 124 = .ok (.ldc 237, 2) := by decide +kernel
theorem dX5_act_126 : decode cX5_act 126 = .ok (.invokevirtual 218, 3) := by decide +kernel
theorem dX5_act_129 : decode cX5_act 129 = .ok (.ifCond .eq 32, 3) := by decide +kernel
theorem dX5_act_132 : decode cX5_act 132 = .ok (.aload_n 0, 1) := by decide +kernel
theorem dX5_act_133 : decode cX5_act 133 = .ok (.iconst 0, 1) := by decide +kernel
theorem dX5_act_134 : decode cX5_act 134 = .ok (.bipush 15, 2) := by decide +kernel
theorem dX5_act_136 : decode cX5_act 136 = .ok (.invokevirtual 202, 3) := by decide +kernel
theorem dX5_act_139 : decode cX5_act 139 = .ok (.istore_n 3, 1) := by decide +kernel
theorem dX5_act_140 : decode cX5_act 140 = .ok (.aload_n 0, 1) := by decide +kernel
theorem dX5_act_141 : decode cX5_act 141 = .ok (.getfield 29, 3) := by decide +kernel
theorem dX5_act_144 : decode cX5_act 144 = .ok (.iconst (-1), 1) := by decide +kernel
theorem dX5_act_145 : decode cX5_act 145 = .ok (.if_icmp .ne 11, 3) := by decide +kernel
theorem dX5_act_148 : decode cX5_act 148 = .ok (.aload_n 0, 1) := by decide +kernel
theorem dX5_act_149 : decode cX5_act 149 = .ok (.iload_n 3, 1) := by decide +kernel
theorem dX5_act_150 : decode cX5_act 150 = .ok (.invokevirtual 239, 3) := by decide +kernel
theorem dX5_act_153 : decode cX5_act 153 = .ok (.goto 4, 3) := by decide +kernel
theorem dX5_act_156 : decode cX5_act 156 = .ok (.iconst 0, 1) := by decide +kernel
theorem dX5_act_157 : decode cX5_act 157 = .ok (.istore_n 2, 1) := by decide +kernel
theorem dX5_act_158 : decode cX5_act 158 = .ok (.goto 74, 3) := by decide +kernel
theorem dX5_act_161 : decode cX5_act 161 = .ok (.aload_n 0, 1) := by decide +kernel
theorem dX5_act_162 : decode cX5_act 162 = .ok (.ldc 242, 2) := by decide +kernel
theorem dX5_act_164 : decode cX5_act 164 = .ok (.invokevirtual 218, 3) := by decide +kernel
theorem dX5_act_167 : decode cX5_act 167 = .ok (.ifCond .eq 43, 3) := by decide +kernel
theorem dX5_act_170 : decode cX5_act 170 = .ok (.aload_n 0, 1) := by decide +kernel
theorem dX5_act_171 : decode cX5_act 171 = .ok (.iconst 0, 1) := by decide +kernel
theorem dX5_act_172 : decode cX5_act 172 = .ok (.bipush 59, 2) := by decide +kernel
theorem dX5_act_174 : decode cX5_act 174 = .ok (.invokevirtual 202, 3) := by decide +kernel
theorem dX5_act_177 : decode cX5_act 177 = .ok (.istore_n 3, 1) := by decide +kernel
theorem dX5_act_178 : decode cX5_act 178 = .ok (.aload_n 0, 1) := by decide +kernel
theorem dX5_act_179 : decode cX5_act 179 = .ok (.iconst 0, 1) := by decide +kernel
theorem dX5_act_180 : decode cX5_act 180 = .ok (.bipush 99, 2) := by decide +kernel
theorem dX5_act_182 : decode cX5_act 182 = .ok (.invokevirtual 202, 3) := by decide +kernel
theorem dX5_act_185 : decode cX5_act 185 = .ok (.istore 4, 2) := by decide +kernel
theorem dX5_act_187 : decode cX5_act 187 = .ok (.aload_n 0, 1) := by decide +kernel
theorem dX5_act_188 : decode cX5_act 188 = .ok (.getfield 29, 3) := by decide +kernel
theorem dX5_act_191 : decode cX5_act 191 = .ok (.iconst (-1), 1) := by decide +kernel
theorem dX5_act_192 : decode cX5_act 192 = .ok (.if_icmp .ne 13, 3) := by decide +kernel
theorem dX5_act_195 : decode cX5_act 195 = .ok (.aload_n 0, 1) := by decide +kernel
theorem dX5_act_196 : decode cX5_act 196 = .ok (.iload_n 3, 1) := by decide +kernel
theorem dX5_act_197 : decode cX5_act 197 = .ok (.iload 4, 2) := by decide +kernel
theorem dX5_act_199 : decode cX5_act 199 = .ok (.invokevirtual 244, 3) := by decide +kernel
theorem dX5_act_202 : decode cX5_act 202 = .ok (.goto 4, 3) := by decide +kernel
theorem dX5_act_205 : decode cX5_act 205 = .ok (.iconst 0, 1) := by decide +kernel
theorem dX5_act_206 : decode cX5_act 206 = .ok (.istore_n 2, 1) := by decide +kernel
theorem dX5_act_207 : decode cX5_act 207 = .ok (.goto 25, 3) := by decide +kernel
theorem dX5_act_210 : decode cX5_act 210 = .ok (.aload_n 0, 1) := by decide +kernel
theorem dX5_act_211 : decode cX5_act 211 = .ok (.ldc 247, 2) := by decide +kernel
theorem dX5_act_213 : decode cX5_act 213 = .ok (.invokevirtual 218, 3) := by decide +kernel
theorem dX5_act_216 : decode cX5_act 216 = .ok (.ifCond .eq 11, 3) := by decide +kernel
theorem dX5_act_219 : decode cX5_act 219 = .ok (.aload_n 0, 1) := by decide +kernel
theorem dX5_act_220 : decode cX5_act 220 = .ok (.invokevirtual 249, 3) := by decide +kernel
theorem dX5_act_223 : decode cX5_act 223 = .ok (.istore_n 3, 1) := by decide +kernel
theorem dX5_act_224 : decode cX5_act 224 = .ok (.goto 8, 3) := by decide +kernel
theorem dX5_act_227 : decode cX5_act 227 = .ok (.aload_n 0, 1) := by decide +kernel
theorem dX5_act_228 : decode cX5_act 228 = .ok (.iload_n 1, 1) := by decide +kernel
theorem dX5_act_229 : decode cX5_act 229 = .ok (.invokevirtual 196, 3) := by decide +kernel
theorem dX5_act_232 : decode cX5_act 232 = .ok (.iload_n 2, 1) := by decide +kernel
theorem dX5_act_233 : decode cX5_act 233 = .ok (.ifCond .le 8, 3) := by decide +kernel
theorem dX5_act_236 : decode cX5_act 236 = .ok (.aload_n 0, 1) := by decide +kernel
theorem dX5_act_237 : decode cX5_act 237 = .ok (.iload_n 1, 1) := by decide +kernel
theorem dX5_act_238 : decode cX5_act 238 = .ok (.invokevirtual 196, 3) := by decide +kernel
theorem dX5_act_241 : decode cX5_act 241 = .ok (.iload_n 2, 1) := by decide +kernel
theorem dX5_act_242 : decode cX5_act 242 = .ok (.ireturn, 1) := by decide +kernel
theorem dX5_readsActs_0 : decode cX5_readsActs 0 = .ok (.aload_n 0, 1) := by decide +kernel
theorem dX5_readsActs_1 : decode cX5_readsActs 1 = .ok (.iconst (-1), 1) := by decide +kernel
theorem dX5_readsActs_2 : decode cX5_readsActs 2 = .ok (.putfield 29, 3) := by decide +kernel
theorem dX5_readsActs_5 : decode cX5_readsActs 5 = .ok (.aload_n 0, 1) := by decide +kernel
theorem dX5_readsActs_6 : decode cX5_readsActs 6 = .ok (.aload_n 0, 1) := by decide +kernel
theorem dX5_readsActs_7 : decode cX5_readsActs 7 = .ok (.getfield 175, 3) := by decide +kernel
theorem dX5_readsActs_10 : decode cX5_readsActs 10 = .ok (.putfield 181, 3) := by decide +kernel
theorem dX5_readsActs_13 : decode cX5_readsActs 13 = .ok (.aload_n 0, 1) := by decide +kernel
theorem dX5_readsActs_14 : decode cX5_readsActs 14 = .ok (.iconst 0, 1) := by decide +kernel
theorem dX5_readsActs_15 : decode cX5_readsActs 15 = .ok (.putfield 175, 3) := by decide +kernel
theorem dX5_readsActs_18 : decode cX5_readsActs 18 = .ok (.aload_n 0, 1) := by decide +kernel
theorem dX5_readsActs_19 : decode cX5_readsActs 19 = .ok (.iconst 0, 1) := by decide +kernel
theorem dX5_readsActs_20 : decode cX5_readsActs 20 = .ok (.putfield 178, 3) := by decide +kernel
theorem dX5_readsActs_23 : decode cX5_readsActs 23 = .ok (.aload_n 0, 1) := by decide +kernel
theorem dX5_readsActs_24 : decode cX5_readsActs 24 = .ok (.invokevirtual 252, 3) := by decide +kernel
theorem dX5_readsActs_27 : decode cX5_readsActs 27 = .ok (.iconst 0, 1) := by decide +kernel
theorem dX5_readsActs_28 : decode cX5_readsActs 28 = .ok (.istore_n 1, 1) := by decide +kernel
theorem dX5_readsActs_29 : decode cX5_readsActs 29 = .ok (.iconst 0, 1) := by decide +kernel
theorem dX5_readsActs_30 : decode cX5_readsActs 30 = .ok (.istore_n 2, 1) := by decide +kernel
theorem dX5_readsActs_31 : decode cX5_readsActs 31 = .ok (.aload_n 0, 1) := by decide +kernel
theorem dX5_readsActs_32 : decode cX5_readsActs 32 = .ok (.invokevirtual 184, 3) := by decide +kernel
theorem dX5_readsActs_35 : decode cX5_readsActs 35 = .ok (.aload_n 0, 1) := by decide +kernel
theorem dX5_readsActs_36 : decode cX5_readsActs 36 = .ok (.getfield 181, 3) := by decide +kernel
theorem dX5_readsActs_39 : decode cX5_readsActs 39 = .ok (.if_icmp .ge 7, 3) := by decide +kernel
theorem dX5_readsActs_42 : decode cX5_readsActs 42 = .ok (.iconst 1, 1) := by decide +kernel
theorem dX5_readsActs_43 : decode cX5_readsActs 43 = .ok (.goto 4, 3) := by decide +kernel
theorem dX5_readsActs_46 : decode cX5_readsActs 46 = .ok (.iconst 0, 1) := by decide +kernel
theorem dX5_readsActs_47 : decode cX5_readsActs 47 = .ok (.istore_n 3, 1) := by decide +kernel
theorem dX5_readsActs_48 : decode cX5_readsActs 48 = .ok (.iload_n 3, 1) := by decide +kernel
theorem dX5_readsActs_49 : decode cX5_readsActs 49 = .ok (.ifCond .eq 105, 3) := by decide +kernel
theorem dX5_readsActs_52 : decode cX5_readsActs 52 = .ok (.aload_n 0, 1) := by decide +kernel
theorem dX5_readsActs_53 : decode cX5_readsActs 53 = .ok (.getfield 29, 3) := by decide +kernel
theorem dX5_readsActs_56 : decode cX5_readsActs 56 = .ok (.iconst (-1), 1) := by decide +kernel
theorem dX5_readsActs_57 : decode cX5_readsActs 57 = .ok (.if_icmp .ne 97, 3) := by decide +kernel
theorem dX5_readsActs_60 : decode cX5_readsActs 60 = .ok (.iload_n 1, 1) := by decide +kernel
theorem dX5_readsActs_61 : decode cX5_readsActs 61 = .ok (.bipush 14, 2) := by decide +kernel
theorem dX5_readsActs_63 : decode cX5_readsActs 63 = .ok (.if_icmp .ne 11, 3) := by decide +kernel
theorem dX5_readsActs_66 : decode cX5_readsActs 66 = .ok (.aload_n 0, 1) := by decide +kernel
theorem dX5_readsActs_67 : decode cX5_readsActs 67 = .ok (.aload_n 0, 1) := by decide +kernel
theorem dX5_readsActs_68 : decode cX5_readsActs 68 = .ok (.invokevirtual 184, 3) := by decide +kernel
theorem dX5_readsActs_71 : decode cX5_readsActs 71 = .ok (.invokevirtual 196, 3) := by decide +kernel
theorem dX5_readsActs_74 : decode cX5_readsActs 74 = .ok (.aload_n 0, 1) := by decide +kernel
theorem dX5_readsActs_75 : decode cX5_readsActs 75 = .ok (.getfield 29, 3) := by decide +kernel
theorem dX5_readsActs_78 : decode cX5_readsActs 78 = .ok (.iconst (-1), 1) := by decide +kernel
theorem dX5_readsActs_79 : decode cX5_readsActs 79 = .ok (.if_icmp .ne 8, 3) := by decide +kernel
theorem dX5_readsActs_82 : decode cX5_readsActs 82 = .ok (.aload_n 0, 1) := by decide +kernel
theorem dX5_readsActs_83 : decode cX5_readsActs 83 = .ok (.invokevirtual 255, 3) := by decide +kernel
theorem dX5_readsActs_86 : decode cX5_readsActs 86 = .ok (.istore_n 2, 1) := by decide +kernel
theorem dX5_readsActs_87 : decode cX5_readsActs 87 = .ok (.iinc 1 1, 3) := by decide +kernel
theorem dX5_readsActs_90 : decode cX5_readsActs 90 = .ok (.aload_n 0, 1) := by decide +kernel
theorem dX5_readsActs_91 : decode cX5_readsActs 91 = .ok (.invokevirtual 184, 3) := by decide +kernel
theorem dX5_readsActs_94 : decode cX5_readsActs 94 = .ok (.aload_n 0, 1) := by decide +kernel
theorem dX5_readsActs_95 : decode cX5_readsActs 95 = .ok (.getfield 181, 3) := by decide +kernel
theorem dX5_readsActs_98 : decode cX5_readsActs 98 = .ok (.if_icmp .ge 7, 3) := by decide +kernel
theorem dX5_readsActs_101 : decode cX5_readsActs 101 = .ok (.iconst 1, 1) := by decide +kernel
theorem dX5_readsActs_102 : decode cX5_readsActs 102 = .ok (.goto 4, 3) := by decide +kernel
theorem dX5_readsActs_105 : decode cX5_readsActs 105 = .ok (.iconst 0, 1) := by decide +kernel
theorem dX5_readsActs_106 : decode cX5_readsActs 106 = .ok (.istore_n 3, 1) := by decide +kernel
theorem dX5_readsActs_107 : decode cX5_readsActs 107 = .ok (.iload_n 3, 1) := by decide +kernel
theorem dX5_readsActs_108 : decode cX5_readsActs 108 = .ok (.ifCond .eq (-60), 3) := by decide +kernel
theorem dX5_readsActs_111 : decode cX5_readsActs 111 = .ok (.aload_n 0, 1) := by decide +kernel
theorem dX5_readsActs_112 : decode cX5_readsActs 112 = .ok (.getfield 29, 3) := by decide +kernel
theorem dX5_readsActs_115 : decode cX5_readsActs 115 = .ok (.iconst (-1), 1) := by decide +kernel
theorem dX5_readsActs_116 : decode cX5_readsActs 116 = .ok (.if_icmp .ne (-68), 3) := by decide +kernel
theorem dX5_readsActs_119 : decode cX5_readsActs 119 = .ok (.aload_n 0, 1) := by decide +kernel
theorem dX5_readsActs_120 : decode cX5_readsActs 120 = .ok (.getfield 26, 3) := by decide +kernel
theorem dX5_readsActs_123 : decode cX5_readsActs 123 = .ok (.aload_n 0, 1) := by decide +kernel
theorem dX5_readsActs_124 : decode cX5_readsActs 124 = .ok (.getfield 178, 3) := by decide +kernel
theorem dX5_readsActs_127 : decode cX5_readsActs 127 = .ok (.iaload, 1) := by decide +kernel
theorem dX5_readsActs_128 : decode cX5_readsActs 128 = .ok (.bipush 59, 2) := by decide +kernel
theorem dX5_readsActs_130 : decode cX5_readsActs 130 = .ok (.if_icmp .eq 11, 3) := by decide +kernel
theorem dX5_readsActs_133 : decode cX5_readsActs 133 = .ok (.aload_n 0, 1) := by decide +kernel
theorem dX5_readsActs_134 : decode cX5_readsActs 134 = .ok (.aload_n 0, 1) := by decide +kernel
theorem dX5_readsActs_135 : decode cX5_readsActs 135 = .ok (.getfield 178, 3) := by decide +kernel
theorem dX5_readsActs_138 : decode cX5_readsActs 138 = .ok (.invokevirtual 196, 3) := by decide +kernel
theorem dX5_readsActs_141 : decode cX5_readsActs 141 = .ok (.aload_n 0, 1) := by decide +kernel
theorem dX5_readsActs_142 : decode cX5_readsActs 142 = .ok (.dup, 1) := by decide +kernel
theorem dX5_readsActs_143 : decode cX5_readsActs 143 = .ok (.getfield 178, 3) := by decide +kernel
theorem dX5_readsActs_146 : decode cX5_readsActs 146 = .ok (.iconst 1, 1) := by decide +kernel
theorem dX5_readsActs_147 : decode cX5_readsActs 147 = .ok (.iadd, 1) := by decide +kernel
theorem dX5_readsActs_148 : decode cX5_readsActs 148 = .ok (.putfield 178, 3) := by decide +kernel
theorem dX5_readsActs_151 : decode cX5_readsActs 151 = .ok (.goto (-103), 3) := by decide +kernel
theorem dX5_readsActs_154 : decode cX5_readsActs 154 = .ok (.aload_n 0, 1) := by decide +kernel
theorem dX5_readsActs_155 : decode cX5_readsActs 155 = .ok (.aload_n 0, 1) := by decide +kernel
theorem dX5_readsActs_156 : decode cX5_readsActs 156 = .ok (.getfield 29, 3) := by decide +kernel
theorem dX5_readsActs_159 : decode cX5_readsActs 159 = .ok (.iconst (-1), 1) := by decide +kernel
theorem dX5_readsActs_160 : decode cX5_readsActs 160 = .ok (.if_icmp .ne 7, 3) := by decide +kernel
theorem dX5_readsActs_163 : decode cX5_readsActs 163 = .ok (.iconst 0, 1) := by decide +kernel
theorem dX5_readsActs_164 : decode cX5_readsActs 164 = .ok (.goto 4, 3) := by decide +kernel
theorem dX5_readsActs_167 : decode cX5_readsActs 167 = .ok (.iconst 1, 1) := by decide +kernel
theorem dX5_readsActs_168 : decode cX5_readsActs 168 = .ok (.putfield 58, 3) := by decide +kernel
theorem dX5_readsActs_171 : decode cX5_readsActs 171 = .ok (.aload_n 0, 1) := by decide +kernel
theorem dX5_readsActs_172 : decode cX5_readsActs 172 = .ok (.getfield 58, 3) := by decide +kernel
theorem dX5_readsActs_175 : decode cX5_readsActs 175 = .ok (.ifCond .ne 22, 3) := by decide +kernel
theorem dX5_readsActs_178 : decode cX5_readsActs 178 = .ok (.aload_n 0, 1) := by decide +kernel
theorem dX5_readsActs_179 : decode cX5_readsActs 179 = .ok (.iload_n 1, 1) := by decide +kernel
theorem dX5_readsActs_180 : decode cX5_readsActs 180 = .ok (.ifCond .le 7, 3) := by decide +kernel
theorem dX5_readsActs_183 : decode cX5_readsActs 183 = .ok (.iconst 0, 1) := by decide +kernel
theorem dX5_readsActs_184 : decode cX5_readsActs 184 = .ok (.goto 7, 3) := by decide +kernel
theorem dX5_readsActs_187 : decode cX5_readsActs 187 = .ok (.aload_n 0, 1) := by decide +kernel
theorem dX5_readsActs_188 : decode cX5_readsActs 188 = .ok (.getfield 169, 3) := by decide +kernel
theorem dX5_readsActs_191 : decode cX5_readsActs 191 = .ok (.putfield 169, 3) := by decide +kernel
theorem dX5_readsActs_194 : decode cX5_readsActs 194 = .ok (.goto 19, 3) := by decide +kernel
theorem dX5_readsActs_197 : decode cX5_readsActs 197 = .ok (.aload_n 0, 1) := by decide +kernel
theorem dX5_readsActs_198 : decode cX5_readsActs 198 = .ok (.iload_n 2, 1) := by decide +kernel
theorem dX5_readsActs_199 : decode cX5_readsActs 199 = .ok (.ifCond .le 7, 3) := by decide +kernel
theorem dX5_readsActs_202 : decode cX5_readsActs 202 = .ok (.iload_n 2, 1) := by decide +kernel
theorem dX5_readsActs_203 : decode cX5_readsActs 203 = .ok (.goto 7, 3) := by decide +kernel
theorem dX5_readsActs_206 : decode cX5_readsActs 206 = .ok (.aload_n 0, 1) := by decide +kernel
theorem dX5_readsActs_207 : decode cX5_readsActs 207 = .ok (.getfield 169, 3) := by decide +kernel
theorem dX5_readsActs_210 : decode cX5_readsActs 210 = .ok (.putfield 169, 3) := by decide +kernel
theorem dX5_readsActs_213 : decode cX5_readsActs 213 = .ok (.iload_n 1, 1) := by decide +kernel
theorem dX5_readsActs_214 : decode cX5_readsActs 214 = .ok (.ireturn, 1) := by decide +kernel
theorem dX5_putsBack_0 : decode cX5_putsBack 0 = .ok (.iconst 0, 1) := by decide +kernel
theorem dX5_putsBack_1 : decode cX5_putsBack 1 = .ok (.istore_n 1, 1) := by decide +kernel
theorem dX5_putsBack_2 : decode cX5_putsBack 2 = .ok (.iload_n 1, 1) := by decide +kernel
theorem dX5_putsBack_3 : decode cX5_putsBack 3 = .ok (.sipush 4341, 3) := by decide +kernel
theorem dX5_putsBack_6 : decode cX5_putsBack 6 = .ok (.if_icmp .ge 21, 3) := by decide +kernel
theorem dX5_putsBack_9 : decode cX5_putsBack 9 = .ok (.aload_n 0, 1) := by decide +kernel
theorem dX5_putsBack_10 : decode cX5_putsBack 10 = .ok (.getfield 7, 3) := by decide +kernel
theorem dX5_putsBack_13 : decode cX5_putsBack 13 = .ok (.iload_n 1, 1) := by decide +kernel
theorem dX5_putsBack_14 : decode cX5_putsBack 14 = .ok (.aload_n 0, 1) := by decide +kernel
theorem dX5_putsBack_15 : decode cX5_putsBack 15 = .ok (.getfield 13, 3) := by decide +kernel
theorem dX5_putsBack_18 : decode cX5_putsBack 18 = .ok (.iload_n 1, 1) := by decide +kernel
theorem dX5_putsBack_19 : decode cX5_putsBack 19 = .ok (.iaload, 1) := by decide +kernel
theorem dX5_putsBack_20 : decode cX5_putsBack 20 = .ok (.iastore, 1) := by decide +kernel
theorem dX5_putsBack_21 : decode cX5_putsBack 21 = .ok (.iinc 1 1, 3) := by decide +kernel
theorem dX5_putsBack_24 : decode cX5_putsBack 24 = .ok (.goto (-22), 3) := by decide +kernel
theorem dX5_putsBack_27 : decode cX5_putsBack 27 = .ok (.return_, 1) := by decide +kernel
theorem dX5_acts_0 : decode cX5_acts 0 = .ok (.aload_n 0, 1) := by decide +kernel
theorem dX5_acts_1 : decode cX5_acts 1 = .ok (.invokevirtual 258, 3) := by decide +kernel
theorem dX5_acts_4 : decode cX5_acts 4 = .ok (.istore_n 1, 1) := by decide +kernel
theorem dX5_acts_5 : decode cX5_acts 5 = .ok (.aload_n 0, 1) := by decide +kernel
theorem dX5_acts_6 : decode cX5_acts 6 = .ok (.getfield 58, 3) := by decide +kernel
theorem dX5_acts_9 : decode cX5_acts 9 = .ok (.ifCond .ne 11, 3) := by decide +kernel
theorem dX5_acts_12 : decode cX5_acts 12 = .ok (.aload_n 0, 1) := by decide +kernel
theorem dX5_acts_13 : decode cX5_acts 13 = .ok (.iconst 0, 1) := by decide +kernel
theorem dX5_acts_14 : decode cX5_acts 14 = .ok (.putfield 166, 3) := by decide +kernel
theorem dX5_acts_17 : decode cX5_acts 17 = .ok (.goto 7, 3) := by decide +kernel
theorem dX5_acts_20 : decode cX5_acts 20 = .ok (.aload_n 0, 1) := by decide +kernel
theorem dX5_acts_21 : decode cX5_acts 21 = .ok (.invokevirtual 261, 3) := by decide +kernel
theorem dX5_acts_24 : decode cX5_acts 24 = .ok (.aload_n 0, 1) := by decide +kernel
theorem dX5_acts_25 : decode cX5_acts 25 = .ok (.getfield 58, 3) := by decide +kernel
theorem dX5_acts_28 : decode cX5_acts 28 = .ok (.ifCond .ne 7, 3) := by decide +kernel
theorem dX5_acts_31 : decode cX5_acts 31 = .ok (.iload_n 1, 1) := by decide +kernel
theorem dX5_acts_32 : decode cX5_acts 32 = .ok (.goto 4, 3) := by decide +kernel
theorem dX5_acts_35 : decode cX5_acts 35 = .ok (.iconst 0, 1) := by decide +kernel
theorem dX5_acts_36 : decode cX5_acts 36 = .ok (.ireturn, 1) := by decide +kernel
theorem dX5_tries_0 : decode cX5_tries 0 = .ok (.aload_n 0, 1) := by decide +kernel
theorem dX5_tries_1 : decode cX5_tries 1 = .ok (.getfield 169, 3) := by decide +kernel
theorem dX5_tries_4 : decode cX5_tries 4 = .ok (.istore_n 1, 1) := by decide +kernel
theorem dX5_tries_5 : decode cX5_tries 5 = .ok (.aload_n 0, 1) := by decide +kernel
theorem dX5_tries_6 : decode cX5_tries 6 = .ok (.invokevirtual 258, 3) := by decide +kernel
theorem dX5_tries_9 : decode cX5_tries 9 = .ok (.istore_n 2, 1) := by decide +kernel
theorem dX5_tries_10 : decode cX5_tries 10 = .ok (.aload_n 0, 1) := by decide +kernel
theorem dX5_tries_11 : decode cX5_tries 11 = .ok (.iconst 0, 1) := by decide +kernel
theorem dX5_tries_12 : decode cX5_tries 12 = .ok (.invokevirtual 264, 3) := by decide +kernel
theorem dX5_tries_15 : decode cX5_tries 15 = .ok (.istore_n 3, 1) := by decide +kernel
theorem dX5_tries_16 : decode cX5_tries 16 = .ok (.aload_n 0, 1) := by decide +kernel
theorem dX5_tries_17 : decode cX5_tries 17 = .ok (.invokevirtual 261, 3) := by decide +kernel
theorem dX5_tries_20 : decode cX5_tries 20 = .ok (.aload_n 0, 1) := by decide +kernel
theorem dX5_tries_21 : decode cX5_tries 21 = .ok (.iload_n 1, 1) := by decide +kernel
theorem dX5_tries_22 : decode cX5_tries 22 = .ok (.putfield 169, 3) := by decide +kernel
theorem dX5_tries_25 : decode cX5_tries 25 = .ok (.aload_n 0, 1) := by decide +kernel
theorem dX5_tries_26 : decode cX5_tries 26 = .ok (.getfield 58, 3) := by decide +kernel
theorem dX5_tries_29 : decode cX5_tries 29 = .ok (.ifCond .ne 7, 3) := by decide +kernel
theorem dX5_tries_32 : decode cX5_tries 32 = .ok (.iload_n 3, 1) := by decide +kernel
theorem dX5_tries_33 : decode cX5_tries 33 = .ok (.goto 4, 3) := by decide +kernel
theorem dX5_tries_36 : decode cX5_tries 36 = .ok (.iconst 0, 1) := by decide +kernel
theorem dX5_tries_37 : decode cX5_tries 37 = .ok (.ireturn, 1) := by decide +kernel
theorem dX5_fault_0 : decode cX5_fault 0 = .ok (.aload_n 0, 1) := by decide +kernel
theorem dX5_fault_1 : decode cX5_fault 1 = .ok (.iconst 0, 1) := by decide +kernel
theorem dX5_fault_2 : decode cX5_fault 2 = .ok (.putfield 58, 3) := by decide +kernel
theorem dX5_fault_5 : decode cX5_fault 5 = .ok (.aload_n 0, 1) := by decide +kernel
theorem dX5_fault_6 : decode cX5_fault 6 = .ok (.getfield 29, 3) := by decide +kernel
theorem dX5_fault_9 : decode cX5_fault 9 = .ok (.ireturn, 1) := by decide +kernel
theorem dX5_why_0 : decode cX5_why 0 = .ok (.aload_n 0, 1) := by decide +kernel
theorem dX5_why_1 : decode cX5_why 1 = .ok (.iconst 0, 1) := by decide +kernel
theorem dX5_why_2 : decode cX5_why 2 = .ok (.putfield 58, 3) := by decide +kernel
theorem dX5_why_5 : decode cX5_why 5 = .ok (.aload_n 0, 1) := by decide +kernel
theorem dX5_why_6 : decode cX5_why 6 = .ok (.getfield 169, 3) := by decide +kernel
theorem dX5_why_9 : decode cX5_why 9 = .ok (.ireturn, 1) := by decide +kernel
theorem dX5_net_0 : decode cX5_net 0 = .ok (.aload_n 0, 1) := by decide +kernel
theorem dX5_net_1 : decode cX5_net 1 = .ok (.iload_n 1, 1) := by decide +kernel
theorem dX5_net_2 : decode cX5_net 2 = .ok (.iconst 2, 1) := by decide +kernel
theorem dX5_net_3 : decode cX5_net 3 = .ok (.bipush 16, 2) := by decide +kernel
theorem dX5_net_5 : decode cX5_net 5 = .ok (.invokestatic 61, 3) := by decide +kernel
theorem dX5_net_8 : decode cX5_net 8 = .ok (.ifCond .eq 7, 3) := by decide +kernel
theorem dX5_net_11 : decode cX5_net 11 = .ok (.iconst 0, 1) := by decide +kernel
theorem dX5_net_12 : decode cX5_net 12 = .ok (.goto 4, 3) := by decide +kernel
theorem dX5_net_15 : decode cX5_net 15 = .ok (.iconst 1, 1) := by decide +kernel
theorem dX5_net_16 : decode cX5_net 16 = .ok (.putfield 58, 3) := by decide +kernel
theorem dX5_net_19 : decode cX5_net 19 = .ok (.aload_n 0, 1) := by decide +kernel
theorem dX5_net_20 : decode cX5_net 20 = .ok (.getfield 58, 3) := by decide +kernel
theorem dX5_net_23 : decode cX5_net 23 = .ok (.ifCond .le 5, 3) := by decide +kernel
theorem dX5_net_26 : decode cX5_net 26 = .ok (.iconst 0, 1) := by decide +kernel
theorem dX5_net_27 : decode cX5_net 27 = .ok (.ireturn, 1) := by decide +kernel
theorem dX5_net_28 : decode cX5_net 28 = .ok (.aload_n 0, 1) := by decide +kernel
theorem dX5_net_29 : decode cX5_net 29 = .ok (.iload_n 1, 1) := by decide +kernel
theorem dX5_net_30 : decode cX5_net 30 = .ok (.invokevirtual 54, 3) := by decide +kernel
theorem dX5_net_33 : decode cX5_net 33 = .ok (.aload_n 0, 1) := by decide +kernel
theorem dX5_net_34 : decode cX5_net 34 = .ok (.iconst 0, 1) := by decide +kernel
theorem dX5_net_35 : decode cX5_net 35 = .ok (.putfield 166, 3) := by decide +kernel
theorem dX5_net_38 : decode cX5_net 38 = .ok (.aload_n 0, 1) := by decide +kernel
theorem dX5_net_39 : decode cX5_net 39 = .ok (.iconst 0, 1) := by decide +kernel
theorem dX5_net_40 : decode cX5_net 40 = .ok (.putfield 169, 3) := by decide +kernel
theorem dX5_net_43 : decode cX5_net 43 = .ok (.aload_n 0, 1) := by decide +kernel
theorem dX5_net_44 : decode cX5_net 44 = .ok (.invokevirtual 129, 3) := by decide +kernel
theorem dX5_net_47 : decode cX5_net 47 = .ok (.ireturn, 1) := by decide +kernel
theorem dX5_lay_0 : decode cX5_lay 0 = .ok (.aload_n 0, 1) := by decide +kernel
theorem dX5_lay_1 : decode cX5_lay 1 = .ok (.invokevirtual 252, 3) := by decide +kernel
theorem dX5_lay_4 : decode cX5_lay 4 = .ok (.aload_n 0, 1) := by decide +kernel
theorem dX5_lay_5 : decode cX5_lay 5 = .ok (.aload_n 0, 1) := by decide +kernel
theorem dX5_lay_6 : decode cX5_lay 6 = .ok (.iload_n 1, 1) := by decide +kernel
theorem dX5_lay_7 : decode cX5_lay 7 = .ok (.iload_n 2, 1) := by decide +kernel
theorem dX5_lay_8 : decode cX5_lay 8 = .ok (.invokevirtual 213, 3) := by decide +kernel
theorem dX5_lay_11 : decode cX5_lay 11 = .ok (.invokevirtual 267, 3) := by decide +kernel
theorem dX5_lay_14 : decode cX5_lay 14 = .ok (.ifCond .eq 14, 3) := by decide +kernel
theorem dX5_lay_17 : decode cX5_lay 17 = .ok (.aload_n 0, 1) := by decide +kernel
theorem dX5_lay_18 : decode cX5_lay 18 = .ok (.getfield 7, 3) := by decide +kernel
theorem dX5_lay_21 : decode cX5_lay 21 = .ok (.iconst 1, 1) := by decide +kernel
theorem dX5_lay_22 : decode cX5_lay 22 = .ok (.iaload, 1) := by decide +kernel
theorem dX5_lay_23 : decode cX5_lay 23 = .ok (.iconst 1, 1) := by decide +kernel
theorem dX5_lay_24 : decode cX5_lay 24 = .ok (.isub, 1) := by decide +kernel
theorem dX5_lay_25 : decode cX5_lay 25 = .ok (.goto 4, 3) := by decide +kernel
theorem dX5_lay_28 : decode cX5_lay 28 = .ok (.iconst 0, 1) := by decide +kernel
theorem dX5_lay_29 : decode cX5_lay 29 = .ok (.ireturn, 1) := by decide +kernel
theorem dX5_lift_0 : decode cX5_lift 0 = .ok (.aload_n 0, 1) := by decide +kernel
theorem dX5_lift_1 : decode cX5_lift 1 = .ok (.invokevirtual 252, 3) := by decide +kernel
theorem dX5_lift_4 : decode cX5_lift 4 = .ok (.aload_n 0, 1) := by decide +kernel
theorem dX5_lift_5 : decode cX5_lift 5 = .ok (.aload_n 0, 1) := by decide +kernel
theorem dX5_lift_6 : decode cX5_lift 6 = .ok (.iload_n 1, 1) := by decide +kernel
theorem dX5_lift_7 : decode cX5_lift 7 = .ok (.invokevirtual 163, 3) := by decide +kernel
theorem dX5_lift_10 : decode cX5_lift 10 = .ok (.invokevirtual 267, 3) := by decide +kernel
theorem dX5_lift_13 : decode cX5_lift 13 = .ok (.ifCond .eq 10, 3) := by decide +kernel
theorem dX5_lift_16 : decode cX5_lift 16 = .ok (.aload_n 0, 1) := by decide +kernel
theorem dX5_lift_17 : decode cX5_lift 17 = .ok (.getfield 139, 3) := by decide +kernel
theorem dX5_lift_20 : decode cX5_lift 20 = .ok (.goto 4, 3) := by decide +kernel
theorem dX5_lift_23 : decode cX5_lift 23 = .ok (.iconst 0, 1) := by decide +kernel
theorem dX5_lift_24 : decode cX5_lift 24 = .ok (.ireturn, 1) := by decide +kernel
theorem dX5_cost_0 : decode cX5_cost 0 = .ok (.aload_n 0, 1) := by decide +kernel
theorem dX5_cost_1 : decode cX5_cost 1 = .ok (.iload_n 2, 1) := by decide +kernel
theorem dX5_cost_2 : decode cX5_cost 2 = .ok (.iconst 0, 1) := by decide +kernel
theorem dX5_cost_3 : decode cX5_cost 3 = .ok (.bipush 99, 2) := by decide +kernel
theorem dX5_cost_5 : decode cX5_cost 5 = .ok (.invokestatic 61, 3) := by decide +kernel
theorem dX5_cost_8 : decode cX5_cost 8 = .ok (.ifCond .eq 7, 3) := by decide +kernel
theorem dX5_cost_11 : decode cX5_cost 11 = .ok (.iconst 0, 1) := by decide +kernel
theorem dX5_cost_12 : decode cX5_cost 12 = .ok (.goto 4, 3) := by decide +kernel
theorem dX5_cost_15 : decode cX5_cost 15 = .ok (.iconst 1, 1) := by decide +kernel
theorem dX5_cost_16 : decode cX5_cost 16 = .ok (.putfield 58, 3) := by decide +kernel
theorem dX5_cost_19 : decode cX5_cost 19 = .ok (.aload_n 0, 1) := by decide +kernel
theorem dX5_cost_20 : decode cX5_cost 20 = .ok (.getfield 58, 3) := by decide +kernel
theorem dX5_cost_23 : decode cX5_cost 23 = .ok (.ifCond .le 5, 3) := by decide +kernel
theorem dX5_cost_26 : decode cX5_cost 26 = .ok (.iconst 0, 1) := by decide +kernel
theorem dX5_cost_27 : decode cX5_cost 27 = .ok (.ireturn, 1) := by decide +kernel
theorem dX5_cost_28 : decode cX5_cost 28 = .ok (.aload_n 0, 1) := by decide +kernel
theorem dX5_cost_29 : decode cX5_cost 29 = .ok (.invokevirtual 252, 3) := by decide +kernel
theorem dX5_cost_32 : decode cX5_cost 32 = .ok (.aload_n 0, 1) := by decide +kernel
theorem dX5_cost_33 : decode cX5_cost 33 = .ok (.iload_n 1, 1) := by decide +kernel
theorem dX5_cost_34 : decode cX5_cost 34 = .ok (.invokevirtual 65, 3) := by decide +kernel
theorem dX5_cost_37 : decode cX5_cost 37 = .ok (.ifCond .eq 12, 3) := by decide +kernel
theorem dX5_cost_40 : decode cX5_cost 40 = .ok (.aload_n 0, 1) := by decide +kernel
theorem dX5_cost_41 : decode cX5_cost 41 = .ok (.iload_n 1, 1) := by decide +kernel
theorem dX5_cost_42 : decode cX5_cost 42 = .ok (.iconst 5, 1) := by decide +kernel
theorem dX5_cost_43 : decode cX5_cost 43 = .ok (.invokevirtual 69, 3) := by decide +kernel
theorem dX5_cost_46 : decode cX5_cost 46 = .ok (.goto 4, 3) := by decide +kernel
theorem dX5_cost_49 : decode cX5_cost 49 = .ok (.iconst 0, 1) := by decide +kernel
theorem dX5_cost_50 : decode cX5_cost 50 = .ok (.istore_n 3, 1) := by decide +kernel
theorem dX5_cost_51 : decode cX5_cost 51 = .ok (.aload_n 0, 1) := by decide +kernel
theorem dX5_cost_52 : decode cX5_cost 52 = .ok (.aload_n 0, 1) := by decide +kernel
theorem dX5_cost_53 : decode cX5_cost 53 = .ok (.iload_n 1, 1) := by decide +kernel
theorem dX5_cost_54 : decode cX5_cost 54 = .ok (.iload_n 2, 1) := by decide +kernel
theorem dX5_cost_55 : decode cX5_cost 55 = .ok (.invokevirtual 244, 3) := by decide +kernel
theorem dX5_cost_58 : decode cX5_cost 58 = .ok (.invokevirtual 267, 3) := by decide +kernel
theorem dX5_cost_61 : decode cX5_cost 61 = .ok (.istore 4, 2) := by decide +kernel
theorem dX5_cost_63 : decode cX5_cost 63 = .ok (.iload 4, 2) := by decide +kernel
theorem dX5_cost_65 : decode cX5_cost 65 = .ok (.ifCond .ne 8, 3) := by decide +kernel
theorem dX5_cost_68 : decode cX5_cost 68 = .ok (.aload_n 0, 1) := by decide +kernel
theorem dX5_cost_69 : decode cX5_cost 69 = .ok (.iconst 2, 1) := by decide +kernel
theorem dX5_cost_70 : decode cX5_cost 70 = .ok (.putfield 58, 3) := by decide +kernel
theorem dX5_cost_73 : decode cX5_cost 73 = .ok (.iload 4, 2) := by decide +kernel
theorem dX5_cost_75 : decode cX5_cost 75 = .ok (.ifCond .eq 7, 3) := by decide +kernel
theorem dX5_cost_78 : decode cX5_cost 78 = .ok (.iload_n 3, 1) := by decide +kernel
theorem dX5_cost_79 : decode cX5_cost 79 = .ok (.goto 4, 3) := by decide +kernel
theorem dX5_cost_82 : decode cX5_cost 82 = .ok (.iconst 0, 1) := by decide +kernel
theorem dX5_cost_83 : decode cX5_cost 83 = .ok (.ireturn, 1) := by decide +kernel
theorem dX5_treeCables_0 : decode cX5_treeCables 0 = .ok (.iconst 0, 1) := by decide +kernel
theorem dX5_treeCables_1 : decode cX5_treeCables 1 = .ok (.istore_n 1, 1) := by decide +kernel
theorem dX5_treeCables_2 : decode cX5_treeCables 2 = .ok (.iconst 0, 1) := by decide +kernel
theorem dX5_treeCables_3 : decode cX5_treeCables 3 = .ok (.istore_n 2, 1) := by decide +kernel
theorem dX5_treeCables_4 : decode cX5_treeCables 4 = .ok (.iload_n 2, 1) := by decide +kernel
theorem dX5_treeCables_5 : decode cX5_treeCables 5 = .ok (.aload_n 0, 1) := by decide +kernel
theorem dX5_treeCables_6 : decode cX5_treeCables 6 = .ok (.getfield 7, 3) := by decide +kernel
theorem dX5_treeCables_9 : decode cX5_treeCables 9 = .ok (.iconst 1, 1) := by decide +kernel
theorem dX5_treeCables_10 : decode cX5_treeCables 10 = .ok (.iaload, 1) := by decide +kernel
theorem dX5_treeCables_11 : decode cX5_treeCables 11 = .ok (.if_icmp .ge 25, 3) := by decide +kernel
theorem dX5_treeCables_14 : decode cX5_treeCables 14 = .ok (.iload_n 1, 1) := by decide +kernel
theorem dX5_treeCables_15 : decode cX5_treeCables 15 = .ok (.aload_n 0, 1) := by decide +kernel
theorem dX5_treeCables_16 : decode cX5_treeCables 16 = .ok (.iload_n 2, 1) := by decide +kernel
theorem dX5_treeCables_17 : decode cX5_treeCables 17 = .ok (.invokevirtual 133, 3) := by decide +kernel
theorem dX5_treeCables_20 : decode cX5_treeCables 20 = .ok (.ifCond .eq 7, 3) := by decide +kernel
theorem dX5_treeCables_23 : decode cX5_treeCables 23 = .ok (.iconst 1, 1) := by decide +kernel
theorem dX5_treeCables_24 : decode cX5_treeCables 24 = .ok (.goto 4, 3) := by decide +kernel
theorem dX5_treeCables_27 : decode cX5_treeCables 27 = .ok (.iconst 0, 1) := by decide +kernel
theorem dX5_treeCables_28 : decode cX5_treeCables 28 = .ok (.iadd, 1) := by decide +kernel
theorem dX5_treeCables_29 : decode cX5_treeCables 29 = .ok (.istore_n 1, 1) := by decide +kernel
theorem dX5_treeCables_30 : decode cX5_treeCables 30 = .ok (.iinc 2 1, 3) := by decide +kernel
theorem dX5_treeCables_33 : decode cX5_treeCables 33 = .ok (.goto (-29), 3) := by decide +kernel
theorem dX5_treeCables_36 : decode cX5_treeCables 36 = .ok (.iload_n 1, 1) := by decide +kernel
theorem dX5_treeCables_37 : decode cX5_treeCables 37 = .ok (.ireturn, 1) := by decide +kernel
theorem dX5_swap_0 : decode cX5_swap 0 = .ok (.aload_n 0, 1) := by decide +kernel
theorem dX5_swap_1 : decode cX5_swap 1 = .ok (.invokevirtual 252, 3) := by decide +kernel
theorem dX5_swap_4 : decode cX5_swap 4 = .ok (.aload_n 0, 1) := by decide +kernel
theorem dX5_swap_5 : decode cX5_swap 5 = .ok (.aload_n 0, 1) := by decide +kernel
theorem dX5_swap_6 : decode cX5_swap 6 = .ok (.iload_n 1, 1) := by decide +kernel
theorem dX5_swap_7 : decode cX5_swap 7 = .ok (.iload_n 2, 1) := by decide +kernel
theorem dX5_swap_8 : decode cX5_swap 8 = .ok (.invokevirtual 234, 3) := by decide +kernel
theorem dX5_swap_11 : decode cX5_swap 11 = .ok (.invokevirtual 267, 3) := by decide +kernel
theorem dX5_swap_14 : decode cX5_swap 14 = .ok (.ifCond .eq 10, 3) := by decide +kernel
theorem dX5_swap_17 : decode cX5_swap 17 = .ok (.aload_n 0, 1) := by decide +kernel
theorem dX5_swap_18 : decode cX5_swap 18 = .ok (.invokevirtual 270, 3) := by decide +kernel
theorem dX5_swap_21 : decode cX5_swap 21 = .ok (.goto 4, 3) := by decide +kernel
theorem dX5_swap_24 : decode cX5_swap 24 = .ok (.iconst 0, 1) := by decide +kernel
theorem dX5_swap_25 : decode cX5_swap 25 = .ok (.ireturn, 1) := by decide +kernel
theorem dX5_fail_0 : decode cX5_fail 0 = .ok (.aload_n 0, 1) := by decide +kernel
theorem dX5_fail_1 : decode cX5_fail 1 = .ok (.invokevirtual 252, 3) := by decide +kernel
theorem dX5_fail_4 : decode cX5_fail 4 = .ok (.aload_n 0, 1) := by decide +kernel
theorem dX5_fail_5 : decode cX5_fail 5 = .ok (.aload_n 0, 1) := by decide +kernel
theorem dX5_fail_6 : decode cX5_fail 6 = .ok (.iload_n 1, 1) := by decide +kernel
theorem dX5_fail_7 : decode cX5_fail 7 = .ok (.invokevirtual 239, 3) := by decide +kernel
theorem dX5_fail_10 : decode cX5_fail 10 = .ok (.invokevirtual 267, 3) := by decide +kernel
theorem dX5_fail_13 : decode cX5_fail 13 = .ok (.ifCond .eq 10, 3) := by decide +kernel
theorem dX5_fail_16 : decode cX5_fail 16 = .ok (.aload_n 0, 1) := by decide +kernel
theorem dX5_fail_17 : decode cX5_fail 17 = .ok (.getfield 160, 3) := by decide +kernel
theorem dX5_fail_20 : decode cX5_fail 20 = .ok (.goto 4, 3) := by decide +kernel
theorem dX5_fail_23 : decode cX5_fail 23 = .ok (.iconst 0, 1) := by decide +kernel
theorem dX5_fail_24 : decode cX5_fail 24 = .ok (.ireturn, 1) := by decide +kernel
theorem dX5_tidy_0 : decode cX5_tidy 0 = .ok (.aload_n 0, 1) := by decide +kernel
theorem dX5_tidy_1 : decode cX5_tidy 1 = .ok (.invokevirtual 252, 3) := by decide +kernel
theorem dX5_tidy_4 : decode cX5_tidy 4 = .ok (.aload_n 0, 1) := by decide +kernel
theorem dX5_tidy_5 : decode cX5_tidy 5 = .ok (.invokevirtual 249, 3) := by decide +kernel
theorem dX5_tidy_8 : decode cX5_tidy 8 = .ok (.istore_n 1, 1) := by decide +kernel
theorem dX5_tidy_9 : decode cX5_tidy 9 = .ok (.aload_n 0, 1) := by decide +kernel
theorem dX5_tidy_10 : decode cX5_tidy 10 = .ok (.iconst 0, 1) := by decide +kernel
theorem dX5_tidy_11 : decode cX5_tidy 11 = .ok (.invokevirtual 267, 3) := by decide +kernel
theorem dX5_tidy_14 : decode cX5_tidy 14 = .ok (.ifCond .eq 7, 3) := by decide +kernel
theorem dX5_tidy_17 : decode cX5_tidy 17 = .ok (.iload_n 1, 1) := by decide +kernel
theorem dX5_tidy_18 : decode cX5_tidy 18 = .ok (.goto 4, 3) := by decide +kernel
theorem dX5_tidy_21 : decode cX5_tidy 21 = .ok (.iconst 0, 1) := by decide +kernel
theorem dX5_tidy_22 : decode cX5_tidy 22 = .ok (.ireturn, 1) := by decide +kernel
theorem dX5_undo_0 : decode cX5_undo 0 = .ok (.aload_n 0, 1) := by decide +kernel
theorem dX5_undo_1 : decode cX5_undo 1 = .ok (.aload_n 0, 1) := by decide +kernel
theorem dX5_undo_2 : decode cX5_undo 2 = .ok (.getfield 166, 3) := by decide +kernel
theorem dX5_undo_5 : decode cX5_undo 5 = .ok (.ifCond .ne 7, 3) := by decide +kernel
theorem dX5_undo_8 : decode cX5_undo 8 = .ok (.iconst 1, 1) := by decide +kernel
theorem dX5_undo_9 : decode cX5_undo 9 = .ok (.goto 4, 3) := by decide +kernel
theorem dX5_undo_12 : decode cX5_undo 12 = .ok (.iconst 0, 1) := by decide +kernel
theorem dX5_undo_13 : decode cX5_undo 13 = .ok (.putfield 58, 3) := by decide +kernel
theorem dX5_undo_16 : decode cX5_undo 16 = .ok (.aload_n 0, 1) := by decide +kernel
theorem dX5_undo_17 : decode cX5_undo 17 = .ok (.getfield 58, 3) := by decide +kernel
theorem dX5_undo_20 : decode cX5_undo 20 = .ok (.ifCond .le 5, 3) := by decide +kernel
theorem dX5_undo_23 : decode cX5_undo 23 = .ok (.iconst 0, 1) := by decide +kernel
theorem dX5_undo_24 : decode cX5_undo 24 = .ok (.ireturn, 1) := by decide +kernel
theorem dX5_undo_25 : decode cX5_undo 25 = .ok (.aload_n 0, 1) := by decide +kernel
theorem dX5_undo_26 : decode cX5_undo 26 = .ok (.dup, 1) := by decide +kernel
theorem dX5_undo_27 : decode cX5_undo 27 = .ok (.getfield 166, 3) := by decide +kernel
theorem dX5_undo_30 : decode cX5_undo 30 = .ok (.iconst 1, 1) := by decide +kernel
theorem dX5_undo_31 : decode cX5_undo 31 = .ok (.isub, 1) := by decide +kernel
theorem dX5_undo_32 : decode cX5_undo 32 = .ok (.putfield 166, 3) := by decide +kernel
theorem dX5_undo_35 : decode cX5_undo 35 = .ok (.iconst 0, 1) := by decide +kernel
theorem dX5_undo_36 : decode cX5_undo 36 = .ok (.istore_n 1, 1) := by decide +kernel
theorem dX5_undo_37 : decode cX5_undo 37 = .ok (.iload_n 1, 1) := by decide +kernel
theorem dX5_undo_38 : decode cX5_undo 38 = .ok (.sipush 4341, 3) := by decide +kernel
theorem dX5_undo_41 : decode cX5_undo 41 = .ok (.if_icmp .ge 30, 3) := by decide +kernel
theorem dX5_undo_44 : decode cX5_undo 44 = .ok (.aload_n 0, 1) := by decide +kernel
theorem dX5_undo_45 : decode cX5_undo 45 = .ok (.getfield 7, 3) := by decide +kernel
theorem dX5_undo_48 : decode cX5_undo 48 = .ok (.iload_n 1, 1) := by decide +kernel
theorem dX5_undo_49 : decode cX5_undo 49 = .ok (.aload_n 0, 1) := by decide +kernel
theorem dX5_undo_50 : decode cX5_undo 50 = .ok (.getfield 23, 3) := by decide +kernel
theorem dX5_undo_53 : decode cX5_undo 53 = .ok (.sipush 4341, 3) := by decide +kernel
theorem dX5_undo_56 : decode cX5_undo 56 = .ok (.aload_n 0, 1) := by decide +kernel
theorem dX5_undo_57 : decode cX5_undo 57 = .ok (.getfield 166, 3) := by decide +kernel
theorem dX5_undo_60 : decode cX5_undo 60 = .ok (.imul, 1) := by decide +kernel
theorem dX5_undo_61 : decode cX5_undo 61 = .ok (.iload_n 1, 1) := by decide +kernel
theorem dX5_undo_62 : decode cX5_undo 62 = .ok (.iadd, 1) := by decide +kernel
theorem dX5_undo_63 : decode cX5_undo 63 = .ok (.iaload, 1) := by decide +kernel
theorem dX5_undo_64 : decode cX5_undo 64 = .ok (.iastore, 1) := by decide +kernel
theorem dX5_undo_65 : decode cX5_undo 65 = .ok (.iinc 1 1, 3) := by decide +kernel
theorem dX5_undo_68 : decode cX5_undo 68 = .ok (.goto (-31), 3) := by decide +kernel
theorem dX5_undo_71 : decode cX5_undo 71 = .ok (.aload_n 0, 1) := by decide +kernel
theorem dX5_undo_72 : decode cX5_undo 72 = .ok (.getfield 166, 3) := by decide +kernel
theorem dX5_undo_75 : decode cX5_undo 75 = .ok (.ireturn, 1) := by decide +kernel
theorem dX5_connected_0 : decode cX5_connected 0 = .ok (.aload_n 0, 1) := by decide +kernel
theorem dX5_connected_1 : decode cX5_connected 1 = .ok (.aload_n 0, 1) := by decide +kernel
theorem dX5_connected_2 : decode cX5_connected 2 = .ok (.iload_n 1, 1) := by decide +kernel
theorem dX5_connected_3 : decode cX5_connected 3 = .ok (.invokevirtual 105, 3) := by decide +kernel
theorem dX5_connected_6 : decode cX5_connected 6 = .ok (.ifCond .eq 15, 3) := by decide +kernel
theorem dX5_connected_9 : decode cX5_connected 9 = .ok (.aload_n 0, 1) := by decide +kernel
theorem dX5_connected_10 : decode cX5_connected 10 = .ok (.iload_n 2, 1) := by decide +kernel
theorem dX5_connected_11 : decode cX5_connected 11 = .ok (.invokevirtual 105, 3) := by decide +kernel
theorem dX5_connected_14 : decode cX5_connected 14 = .ok (.ifCond .eq 7, 3) := by decide +kernel
theorem dX5_connected_17 : decode cX5_connected 17 = .ok (.iconst 0, 1) := by decide +kernel
theorem dX5_connected_18 : decode cX5_connected 18 = .ok (.goto 4, 3) := by decide +kernel
theorem dX5_connected_21 : decode cX5_connected 21 = .ok (.iconst 1, 1) := by decide +kernel
theorem dX5_connected_22 : decode cX5_connected 22 = .ok (.putfield 58, 3) := by decide +kernel
theorem dX5_connected_25 : decode cX5_connected 25 = .ok (.aload_n 0, 1) := by decide +kernel
theorem dX5_connected_26 : decode cX5_connected 26 = .ok (.getfield 58, 3) := by decide +kernel
theorem dX5_connected_29 : decode cX5_connected 29 = .ok (.ifCond .ne 17, 3) := by decide +kernel
theorem dX5_connected_32 : decode cX5_connected 32 = .ok (.aload_n 0, 1) := by decide +kernel
theorem dX5_connected_33 : decode cX5_connected 33 = .ok (.iconst 0, 1) := by decide +kernel
theorem dX5_connected_34 : decode cX5_connected 34 = .ok (.iload_n 1, 1) := by decide +kernel
theorem dX5_connected_35 : decode cX5_connected 35 = .ok (.iload_n 2, 1) := by decide +kernel
theorem dX5_connected_36 : decode cX5_connected 36 = .ok (.invokevirtual 98, 3) := by decide +kernel
theorem dX5_connected_39 : decode cX5_connected 39 = .ok (.ifCond .eq 7, 3) := by decide +kernel
theorem dX5_connected_42 : decode cX5_connected 42 = .ok (.iconst 1, 1) := by decide +kernel
theorem dX5_connected_43 : decode cX5_connected 43 = .ok (.goto 4, 3) := by decide +kernel
theorem dX5_connected_46 : decode cX5_connected 46 = .ok (.iconst 0, 1) := by decide +kernel
theorem dX5_connected_47 : decode cX5_connected 47 = .ok (.ireturn, 1) := by decide +kernel
theorem dX5_hasEnd_0 : decode cX5_hasEnd 0 = .ok (.aload_n 0, 1) := by decide +kernel
theorem dX5_hasEnd_1 : decode cX5_hasEnd 1 = .ok (.iload_n 1, 1) := by decide +kernel
theorem dX5_hasEnd_2 : decode cX5_hasEnd 2 = .ok (.iconst 0, 1) := by decide +kernel
theorem dX5_hasEnd_3 : decode cX5_hasEnd 3 = .ok (.invokevirtual 69, 3) := by decide +kernel
theorem dX5_hasEnd_6 : decode cX5_hasEnd 6 = .ok (.iload_n 2, 1) := by decide +kernel
theorem dX5_hasEnd_7 : decode cX5_hasEnd 7 = .ok (.if_icmp .eq 13, 3) := by decide +kernel
theorem dX5_hasEnd_10 : decode cX5_hasEnd 10 = .ok (.aload_n 0, 1) := by decide +kernel
theorem dX5_hasEnd_11 : decode cX5_hasEnd 11 = .ok (.iload_n 1, 1) := by decide +kernel
theorem dX5_hasEnd_12 : decode cX5_hasEnd 12 = .ok (.iconst 1, 1) := by decide +kernel
theorem dX5_hasEnd_13 : decode cX5_hasEnd 13 = .ok (.invokevirtual 69, 3) := by decide +kernel
theorem dX5_hasEnd_16 : decode cX5_hasEnd 16 = .ok (.iload_n 2, 1) := by decide +kernel
theorem dX5_hasEnd_17 : decode cX5_hasEnd 17 = .ok (.if_icmp .ne 7, 3) := by decide +kernel
theorem dX5_hasEnd_20 : decode cX5_hasEnd 20 = .ok (.iconst 1, 1) := by decide +kernel
theorem dX5_hasEnd_21 : decode cX5_hasEnd 21 = .ok (.goto 4, 3) := by decide +kernel
theorem dX5_hasEnd_24 : decode cX5_hasEnd 24 = .ok (.iconst 0, 1) := by decide +kernel
theorem dX5_hasEnd_25 : decode cX5_hasEnd 25 = .ok (.ireturn, 1) := by decide +kernel
theorem dX5_cablesOf_0 : decode cX5_cablesOf 0 = .ok (.iconst 0, 1) := by decide +kernel
theorem dX5_cablesOf_1 : decode cX5_cablesOf 1 = .ok (.istore_n 3, 1) := by decide +kernel
theorem dX5_cablesOf_2 : decode cX5_cablesOf 2 = .ok (.iconst 0, 1) := by decide +kernel
theorem dX5_cablesOf_3 : decode cX5_cablesOf 3 = .ok (.istore 4, 2) := by decide +kernel
theorem dX5_cablesOf_5 : decode cX5_cablesOf 5 = .ok (.iload 4, 2) := by decide +kernel
theorem dX5_cablesOf_7 : decode cX5_cablesOf 7 = .ok (.aload_n 0, 1) := by decide +kernel
theorem dX5_cablesOf_8 : decode cX5_cablesOf 8 = .ok (.getfield 7, 3) := by decide +kernel
theorem dX5_cablesOf_11 : decode cX5_cablesOf 11 = .ok (.iconst 1, 1) := by decide +kernel
theorem dX5_cablesOf_12 : decode cX5_cablesOf 12 = .ok (.iaload, 1) := by decide +kernel
theorem dX5_cablesOf_13 : decode cX5_cablesOf 13 = .ok (.if_icmp .ge 49, 3) := by decide +kernel
theorem dX5_cablesOf_16 : decode cX5_cablesOf 16 = .ok (.iload_n 3, 1) := by decide +kernel
theorem dX5_cablesOf_17 : decode cX5_cablesOf 17 = .ok (.aload_n 0, 1) := by decide +kernel
theorem dX5_cablesOf_18 : decode cX5_cablesOf 18 = .ok (.iload 4, 2) := by decide +kernel
theorem dX5_cablesOf_20 : decode cX5_cablesOf 20 = .ok (.iload_n 1, 1) := by decide +kernel
theorem dX5_cablesOf_21 : decode cX5_cablesOf 21 = .ok (.invokevirtual 273, 3) := by decide +kernel
theorem dX5_cablesOf_24 : decode cX5_cablesOf 24 = .ok (.ifCond .eq 29, 3) := by decide +kernel
theorem dX5_cablesOf_27 : decode cX5_cablesOf 27 = .ok (.aload_n 0, 1) := by decide +kernel
theorem dX5_cablesOf_28 : decode cX5_cablesOf 28 = .ok (.iload 4, 2) := by decide +kernel
theorem dX5_cablesOf_30 : decode cX5_cablesOf 30 = .ok (.invokevirtual 142, 3) := by decide +kernel
theorem dX5_cablesOf_33 : decode cX5_cablesOf 33 = .ok (.ifCond .eq 20, 3) := by decide +kernel
theorem dX5_cablesOf_36 : decode cX5_cablesOf 36 = .ok (.iload_n 2, 1) := by decide +kernel
theorem dX5_cablesOf_37 : decode cX5_cablesOf 37 = .ok (.ifCond .eq 12, 3) := by decide +kernel
theorem dX5_cablesOf_40 : decode cX5_cablesOf 40 = .ok (.aload_n 0, 1) := by decide +kernel
theorem dX5_cablesOf_41 : decode cX5_cablesOf 41 = .ok (.iload 4, 2) := by decide +kernel
theorem dX5_cablesOf_43 : decode cX5_cablesOf 43 = .ok (.invokevirtual 133, 3) := by decide +kernel
theorem dX5_cablesOf_46 : decode cX5_cablesOf 46 = .ok (.ifCond .eq 7, 3) := by decide +kernel
theorem dX5_cablesOf_49 : decode cX5_cablesOf 49 = .ok (.iconst 1, 1) := by decide +kernel
theorem dX5_cablesOf_50 : decode cX5_cablesOf 50 = .ok (.goto 4, 3) := by decide +kernel
theorem dX5_cablesOf_53 : decode cX5_cablesOf 53 = .ok (.iconst 0, 1) := by decide +kernel
theorem dX5_cablesOf_54 : decode cX5_cablesOf 54 = .ok (.iadd, 1) := by decide +kernel
theorem dX5_cablesOf_55 : decode cX5_cablesOf 55 = .ok (.istore_n 3, 1) := by decide +kernel
theorem dX5_cablesOf_56 : decode cX5_cablesOf 56 = .ok (.iinc 4 1, 3) := by decide +kernel
theorem dX5_cablesOf_59 : decode cX5_cablesOf 59 = .ok (.goto (-54), 3) := by decide +kernel
theorem dX5_cablesOf_62 : decode cX5_cablesOf 62 = .ok (.iload_n 3, 1) := by decide +kernel
theorem dX5_cablesOf_63 : decode cX5_cablesOf 63 = .ok (.ireturn, 1) := by decide +kernel
theorem dX5_spreads_0 : decode cX5_spreads 0 = .ok (.iconst 0, 1) := by decide +kernel
theorem dX5_spreads_1 : decode cX5_spreads 1 = .ok (.istore 5, 2) := by decide +kernel
theorem dX5_spreads_3 : decode cX5_spreads 3 = .ok (.iload 5, 2) := by decide +kernel
theorem dX5_spreads_5 : decode cX5_spreads 5 = .ok (.bipush 16, 2) := by decide +kernel
theorem dX5_spreads_7 : decode cX5_spreads 7 = .ok (.if_icmp .ge 35, 3) := by decide +kernel
theorem dX5_spreads_10 : decode cX5_spreads 10 = .ok (.aload_n 0, 1) := by decide +kernel
theorem dX5_spreads_11 : decode cX5_spreads 11 = .ok (.getfield 39, 3) := by decide +kernel
theorem dX5_spreads_14 : decode cX5_spreads 14 = .ok (.iload 5, 2) := by decide +kernel
theorem dX5_spreads_16 : decode cX5_spreads 16 = .ok (.iload 5, 2) := by decide +kernel
theorem dX5_spreads_18 : decode cX5_spreads 18 = .ok (.iload_n 1, 1) := by decide +kernel
theorem dX5_spreads_19 : decode cX5_spreads 19 = .ok (.if_icmp .ne 7, 3) := by decide +kernel
theorem dX5_spreads_22 : decode cX5_spreads 22 = .ok (.iconst 0, 1) := by decide +kernel
theorem dX5_spreads_23 : decode cX5_spreads 23 = .ok (.goto 4, 3) := by decide +kernel
theorem dX5_spreads_26 : decode cX5_spreads 26 = .ok (.iconst (-1), 1) := by decide +kernel
theorem dX5_spreads_27 : decode cX5_spreads 27 = .ok (.iastore, 1) := by decide +kernel
theorem dX5_spreads_28 : decode cX5_spreads 28 = .ok (.aload_n 0, 1) := by decide +kernel
theorem dX5_spreads_29 : decode cX5_spreads 29 = .ok (.getfield 42, 3) := by decide +kernel
theorem dX5_spreads_32 : decode cX5_spreads 32 = .ok (.iload 5, 2) := by decide +kernel
theorem dX5_spreads_34 : decode cX5_spreads 34 = .ok (.iconst (-1), 1) := by decide +kernel
theorem dX5_spreads_35 : decode cX5_spreads 35 = .ok (.iastore, 1) := by decide +kernel
theorem dX5_spreads_36 : decode cX5_spreads 36 = .ok (.iinc 5 1, 3) := by decide +kernel
theorem dX5_spreads_39 : decode cX5_spreads 39 = .ok (.goto (-36), 3) := by decide +kernel
theorem dX5_spreads_42 : decode cX5_spreads 42 = .ok (.iconst 0, 1) := by decide +kernel
theorem dX5_spreads_43 : decode cX5_spreads 43 = .ok (.istore 5, 2) := by decide +kernel
theorem dX5_spreads_45 : decode cX5_spreads 45 = .ok (.iload 5, 2) := by decide +kernel
theorem dX5_spreads_47 : decode cX5_spreads 47 = .ok (.bipush 16, 2) := by decide +kernel
theorem dX5_spreads_49 : decode cX5_spreads 49 = .ok (.if_icmp .ge 111, 3) := by decide +kernel
theorem dX5_spreads_52 : decode cX5_spreads 52 = .ok (.iconst 0, 1) := by decide +kernel
theorem dX5_spreads_53 : decode cX5_spreads 53 = .ok (.istore 6, 2) := by decide +kernel
theorem dX5_spreads_55 : decode cX5_spreads 55 = .ok (.iload 6, 2) := by decide +kernel
theorem dX5_spreads_57 : decode cX5_spreads 57 = .ok (.aload_n 0, 1) := by decide +kernel
theorem dX5_spreads_58 : decode cX5_spreads 58 = .ok (.getfield 7, 3) := by decide +kernel
theorem dX5_spreads_61 : decode cX5_spreads 61 = .ok (.iconst 1, 1) := by decide +kernel
theorem dX5_spreads_62 : decode cX5_spreads 62 = .ok (.iaload, 1) := by decide +kernel
theorem dX5_spreads_63 : decode cX5_spreads 63 = .ok (.if_icmp .ge 91, 3) := by decide +kernel
theorem dX5_spreads_66 : decode cX5_spreads 66 = .ok (.iload 6, 2) := by decide +kernel
theorem dX5_spreads_68 : decode cX5_spreads 68 = .ok (.iload_n 3, 1) := by decide +kernel
theorem dX5_spreads_69 : decode cX5_spreads 69 = .ok (.if_icmp .eq 79, 3) := by decide +kernel
theorem dX5_spreads_72 : decode cX5_spreads 72 = .ok (.aload_n 0, 1) := by decide +kernel
theorem dX5_spreads_73 : decode cX5_spreads 73 = .ok (.iload 6, 2) := by decide +kernel
theorem dX5_spreads_75 : decode cX5_spreads 75 = .ok (.invokevirtual 142, 3) := by decide +kernel
theorem dX5_spreads_78 : decode cX5_spreads 78 = .ok (.ifCond .eq 70, 3) := by decide +kernel
theorem dX5_spreads_81 : decode cX5_spreads 81 = .ok (.iload_n 2, 1) := by decide +kernel
theorem dX5_spreads_82 : decode cX5_spreads 82 = .ok (.ifCond .eq 12, 3) := by decide +kernel
theorem dX5_spreads_85 : decode cX5_spreads 85 = .ok (.aload_n 0, 1) := by decide +kernel
theorem dX5_spreads_86 : decode cX5_spreads 86 = .ok (.iload 6, 2) := by decide +kernel
theorem dX5_spreads_88 : decode cX5_spreads 88 = .ok (.invokevirtual 133, 3) := by decide +kernel
theorem dX5_spreads_91 : decode cX5_spreads 91 = .ok (.ifCond .eq 57, 3) := by decide +kernel
theorem dX5_spreads_94 : decode cX5_spreads 94 = .ok (.aload_n 0, 1) := by decide +kernel
theorem dX5_spreads_95 : decode cX5_spreads 95 = .ok (.iload 6, 2) := by decide +kernel
theorem dX5_spreads_97 : decode cX5_spreads 97 = .ok (.iload 4, 2) := by decide +kernel
theorem dX5_spreads_99 : decode cX5_spreads 99 = .ok (.invokevirtual 273, 3) := by decide +kernel
theorem dX5_spreads_102 : decode cX5_spreads 102 = .ok (.ifCond .eq 6, 3) := by decide +kernel
theorem dX5_spreads_105 : decode cX5_spreads 105 = .ok (.goto 43, 3) := by decide +kernel
theorem dX5_spreads_108 : decode cX5_spreads 108 = .ok (.aload_n 0, 1) := by decide +kernel
theorem dX5_spreads_109 : decode cX5_spreads 109 = .ok (.aload_n 0, 1) := by decide +kernel
theorem dX5_spreads_110 : decode cX5_spreads 110 = .ok (.iload 6, 2) := by decide +kernel
theorem dX5_spreads_112 : decode cX5_spreads 112 = .ok (.iconst 0, 1) := by decide +kernel
theorem dX5_spreads_113 : decode cX5_spreads 113 = .ok (.invokevirtual 69, 3) := by decide +kernel
theorem dX5_spreads_116 : decode cX5_spreads 116 = .ok (.aload_n 0, 1) := by decide +kernel
theorem dX5_spreads_117 : decode cX5_spreads 117 = .ok (.iload 6, 2) := by decide +kernel
theorem dX5_spreads_119 : decode cX5_spreads 119 = .ok (.iconst 1, 1) := by decide +kernel
theorem dX5_spreads_120 : decode cX5_spreads 120 = .ok (.invokevirtual 69, 3) := by decide +kernel
theorem dX5_spreads_123 : decode cX5_spreads 123 = .ok (.iload 5, 2) := by decide +kernel
theorem dX5_spreads_125 : decode cX5_spreads 125 = .ok (.invokevirtual 276, 3) := by decide +kernel
theorem dX5_spreads_128 : decode cX5_spreads 128 = .ok (.aload_n 0, 1) := by decide +kernel
theorem dX5_spreads_129 : decode cX5_spreads 129 = .ok (.aload_n 0, 1) := by decide +kernel
theorem dX5_spreads_130 : decode cX5_spreads 130 = .ok (.iload 6, 2) := by decide +kernel
theorem dX5_spreads_132 : decode cX5_spreads 132 = .ok (.iconst 1, 1) := by decide +kernel
theorem dX5_spreads_133 : decode cX5_spreads 133 = .ok (.invokevirtual 69, 3) := by decide +kernel
theorem dX5_spreads_136 : decode cX5_spreads 136 = .ok (.aload_n 0, 1) := by decide +kernel
theorem dX5_spreads_137 : decode cX5_spreads 137 = .ok (.iload 6, 2) := by decide +kernel
theorem dX5_spreads_139 : decode cX5_spreads 139 = .ok (.iconst 0, 1) := by decide +kernel
theorem dX5_spreads_140 : decode cX5_spreads 140 = .ok (.invokevirtual 69, 3) := by decide +kernel
theorem dX5_spreads_143 : decode cX5_spreads 143 = .ok (.iload 5, 2) := by decide +kernel
theorem dX5_spreads_145 : decode cX5_spreads 145 = .ok (.invokevirtual 276, 3) := by decide +kernel
theorem dX5_spreads_148 : decode cX5_spreads 148 = .ok (.iinc 6 1, 3) := by decide +kernel
theorem dX5_spreads_151 : decode cX5_spreads 151 = .ok (.goto (-96), 3) := by decide +kernel
theorem dX5_spreads_154 : decode cX5_spreads 154 = .ok (.iinc 5 1, 3) := by decide +kernel
theorem dX5_spreads_157 : decode cX5_spreads 157 = .ok (.goto (-112), 3) := by decide +kernel
theorem dX5_spreads_160 : decode cX5_spreads 160 = .ok (.return_, 1) := by decide +kernel
theorem dX5_reaches_0 : decode cX5_reaches 0 = .ok (.aload_n 0, 1) := by decide +kernel
theorem dX5_reaches_1 : decode cX5_reaches 1 = .ok (.getfield 39, 3) := by decide +kernel
theorem dX5_reaches_4 : decode cX5_reaches 4 = .ok (.iload_n 1, 1) := by decide +kernel
theorem dX5_reaches_5 : decode cX5_reaches 5 = .ok (.iaload, 1) := by decide +kernel
theorem dX5_reaches_6 : decode cX5_reaches 6 = .ok (.iload_n 3, 1) := by decide +kernel
theorem dX5_reaches_7 : decode cX5_reaches 7 = .ok (.if_icmp .ne 13, 3) := by decide +kernel
theorem dX5_reaches_10 : decode cX5_reaches 10 = .ok (.aload_n 0, 1) := by decide +kernel
theorem dX5_reaches_11 : decode cX5_reaches 11 = .ok (.getfield 39, 3) := by decide +kernel
theorem dX5_reaches_14 : decode cX5_reaches 14 = .ok (.iload_n 2, 1) := by decide +kernel
theorem dX5_reaches_15 : decode cX5_reaches 15 = .ok (.iaload, 1) := by decide +kernel
theorem dX5_reaches_16 : decode cX5_reaches 16 = .ok (.iconst (-1), 1) := by decide +kernel
theorem dX5_reaches_17 : decode cX5_reaches 17 = .ok (.if_icmp .eq 4, 3) := by decide +kernel
theorem dX5_reaches_20 : decode cX5_reaches 20 = .ok (.return_, 1) := by decide +kernel
theorem dX5_reaches_21 : decode cX5_reaches 21 = .ok (.aload_n 0, 1) := by decide +kernel
theorem dX5_reaches_22 : decode cX5_reaches 22 = .ok (.getfield 39, 3) := by decide +kernel
theorem dX5_reaches_25 : decode cX5_reaches 25 = .ok (.iload_n 2, 1) := by decide +kernel
theorem dX5_reaches_26 : decode cX5_reaches 26 = .ok (.iload_n 3, 1) := by decide +kernel
theorem dX5_reaches_27 : decode cX5_reaches 27 = .ok (.iconst 1, 1) := by decide +kernel
theorem dX5_reaches_28 : decode cX5_reaches 28 = .ok (.iadd, 1) := by decide +kernel
theorem dX5_reaches_29 : decode cX5_reaches 29 = .ok (.iastore, 1) := by decide +kernel
theorem dX5_reaches_30 : decode cX5_reaches 30 = .ok (.aload_n 0, 1) := by decide +kernel
theorem dX5_reaches_31 : decode cX5_reaches 31 = .ok (.getfield 42, 3) := by decide +kernel
theorem dX5_reaches_34 : decode cX5_reaches 34 = .ok (.iload_n 2, 1) := by decide +kernel
theorem dX5_reaches_35 : decode cX5_reaches 35 = .ok (.iload_n 1, 1) := by decide +kernel
theorem dX5_reaches_36 : decode cX5_reaches 36 = .ok (.iastore, 1) := by decide +kernel
theorem dX5_reaches_37 : decode cX5_reaches 37 = .ok (.return_, 1) := by decide +kernel
theorem dX5_span_0 : decode cX5_span 0 = .ok (.aload_n 0, 1) := by decide +kernel
theorem dX5_span_1 : decode cX5_span 1 = .ok (.iload_n 1, 1) := by decide +kernel
theorem dX5_span_2 : decode cX5_span 2 = .ok (.iconst 0, 1) := by decide +kernel
theorem dX5_span_3 : decode cX5_span 3 = .ok (.iconst (-1), 1) := by decide +kernel
theorem dX5_span_4 : decode cX5_span 4 = .ok (.iconst (-1), 1) := by decide +kernel
theorem dX5_span_5 : decode cX5_span 5 = .ok (.invokevirtual 279, 3) := by decide +kernel
theorem dX5_span_8 : decode cX5_span 8 = .ok (.iconst 0, 1) := by decide +kernel
theorem dX5_span_9 : decode cX5_span 9 = .ok (.istore_n 2, 1) := by decide +kernel
theorem dX5_span_10 : decode cX5_span 10 = .ok (.iconst 0, 1) := by decide +kernel
theorem dX5_span_11 : decode cX5_span 11 = .ok (.istore_n 3, 1) := by decide +kernel
theorem dX5_span_12 : decode cX5_span 12 = .ok (.iload_n 3, 1) := by decide +kernel
theorem dX5_span_13 : decode cX5_span 13 = .ok (.aload_n 0, 1) := by decide +kernel
theorem dX5_span_14 : decode cX5_span 14 = .ok (.getfield 7, 3) := by decide +kernel
theorem dX5_span_17 : decode cX5_span 17 = .ok (.iconst 0, 1) := by decide +kernel
theorem dX5_span_18 : decode cX5_span 18 = .ok (.iaload, 1) := by decide +kernel
theorem dX5_span_19 : decode cX5_span 19 = .ok (.if_icmp .ge 26, 3) := by decide +kernel
theorem dX5_span_22 : decode cX5_span 22 = .ok (.aload_n 0, 1) := by decide +kernel
theorem dX5_span_23 : decode cX5_span 23 = .ok (.getfield 39, 3) := by decide +kernel
theorem dX5_span_26 : decode cX5_span 26 = .ok (.iload_n 3, 1) := by decide +kernel
theorem dX5_span_27 : decode cX5_span 27 = .ok (.iaload, 1) := by decide +kernel
theorem dX5_span_28 : decode cX5_span 28 = .ok (.iload_n 2, 1) := by decide +kernel
theorem dX5_span_29 : decode cX5_span 29 = .ok (.if_icmp .le 10, 3) := by decide +kernel
theorem dX5_span_32 : decode cX5_span 32 = .ok (.aload_n 0, 1) := by decide +kernel
theorem dX5_span_33 : decode cX5_span 33 = .ok (.getfield 39, 3) := by decide +kernel
theorem dX5_span_36 : decode cX5_span 36 = .ok (.iload_n 3, 1) := by decide +kernel
theorem dX5_span_37 : decode cX5_span 37 = .ok (.iaload, 1) := by decide +kernel
theorem dX5_span_38 : decode cX5_span 38 = .ok (.istore_n 2, 1) := by decide +kernel
theorem dX5_span_39 : decode cX5_span 39 = .ok (.iinc 3 1, 3) := by decide +kernel
theorem dX5_span_42 : decode cX5_span 42 = .ok (.goto (-30), 3) := by decide +kernel
theorem dX5_span_45 : decode cX5_span 45 = .ok (.iload_n 2, 1) := by decide +kernel
theorem dX5_span_46 : decode cX5_span 46 = .ok (.ireturn, 1) := by decide +kernel
theorem dX5_node_0 : decode cX5_node 0 = .ok (.aload_n 0, 1) := by decide +kernel
theorem dX5_node_1 : decode cX5_node 1 = .ok (.aload_n 0, 1) := by decide +kernel
theorem dX5_node_2 : decode cX5_node 2 = .ok (.iload_n 1, 1) := by decide +kernel
theorem dX5_node_3 : decode cX5_node 3 = .ok (.invokevirtual 105, 3) := by decide +kernel
theorem dX5_node_6 : decode cX5_node 6 = .ok (.ifCond .ne 7, 3) := by decide +kernel
theorem dX5_node_9 : decode cX5_node 9 = .ok (.iconst 1, 1) := by decide +kernel
theorem dX5_node_10 : decode cX5_node 10 = .ok (.goto 17, 3) := by decide +kernel
theorem dX5_node_13 : decode cX5_node 13 = .ok (.iload_n 2, 1) := by decide +kernel
theorem dX5_node_14 : decode cX5_node 14 = .ok (.iconst 0, 1) := by decide +kernel
theorem dX5_node_15 : decode cX5_node 15 = .ok (.iconst 5, 1) := by decide +kernel
theorem dX5_node_16 : decode cX5_node 16 = .ok (.invokestatic 61, 3) := by decide +kernel
theorem dX5_node_19 : decode cX5_node 19 = .ok (.ifCond .ne 7, 3) := by decide +kernel
theorem dX5_node_22 : decode cX5_node 22 = .ok (.iconst 2, 1) := by decide +kernel
theorem dX5_node_23 : decode cX5_node 23 = .ok (.goto 4, 3) := by decide +kernel
theorem dX5_node_26 : decode cX5_node 26 = .ok (.iconst 0, 1) := by decide +kernel
theorem dX5_node_27 : decode cX5_node 27 = .ok (.putfield 58, 3) := by decide +kernel
theorem dX5_node_30 : decode cX5_node 30 = .ok (.aload_n 0, 1) := by decide +kernel
theorem dX5_node_31 : decode cX5_node 31 = .ok (.getfield 58, 3) := by decide +kernel
theorem dX5_node_34 : decode cX5_node 34 = .ok (.ifCond .le 5, 3) := by decide +kernel
theorem dX5_node_37 : decode cX5_node 37 = .ok (.iconst 0, 1) := by decide +kernel
theorem dX5_node_38 : decode cX5_node 38 = .ok (.ireturn, 1) := by decide +kernel
theorem dX5_node_39 : decode cX5_node 39 = .ok (.iload_n 2, 1) := by decide +kernel
theorem dX5_node_40 : decode cX5_node 40 = .ok (.tableswitch 72 0 4 #[36, 45, 52, 59, 66], 36) := by decide +kernel
theorem dX5_node_76 : decode cX5_node 76 = .ok (.aload_n 0, 1) := by decide +kernel
theorem dX5_node_77 : decode cX5_node 77 = .ok (.getfield 7, 3) := by decide +kernel
theorem dX5_node_80 : decode cX5_node 80 = .ok (.iconst 4, 1) := by decide +kernel
theorem dX5_node_81 : decode cX5_node 81 = .ok (.iload_n 1, 1) := by decide +kernel
theorem dX5_node_82 : decode cX5_node 82 = .ok (.iadd, 1) := by decide +kernel
theorem dX5_node_83 : decode cX5_node 83 = .ok (.iaload, 1) := by decide +kernel
theorem dX5_node_84 : decode cX5_node 84 = .ok (.ireturn, 1) := by decide +kernel
theorem dX5_node_85 : decode cX5_node 85 = .ok (.aload_n 0, 1) := by decide +kernel
theorem dX5_node_86 : decode cX5_node 86 = .ok (.iconst 0, 1) := by decide +kernel
theorem dX5_node_87 : decode cX5_node 87 = .ok (.iload_n 1, 1) := by decide +kernel
theorem dX5_node_88 : decode cX5_node 88 = .ok (.invokevirtual 116, 3) := by decide +kernel
theorem dX5_node_91 : decode cX5_node 91 = .ok (.ireturn, 1) := by decide +kernel
theorem dX5_node_92 : decode cX5_node 92 = .ok (.aload_n 0, 1) := by decide +kernel
theorem dX5_node_93 : decode cX5_node 93 = .ok (.iload_n 1, 1) := by decide +kernel
theorem dX5_node_94 : decode cX5_node 94 = .ok (.iconst 0, 1) := by decide +kernel
theorem dX5_node_95 : decode cX5_node 95 = .ok (.invokevirtual 283, 3) := by decide +kernel
theorem dX5_node_98 : decode cX5_node 98 = .ok (.ireturn, 1) := by decide +kernel
theorem dX5_node_99 : decode cX5_node 99 = .ok (.aload_n 0, 1) := by decide +kernel
theorem dX5_node_100 : decode cX5_node 100 = .ok (.iload_n 1, 1) := by decide +kernel
theorem dX5_node_101 : decode cX5_node 101 = .ok (.iconst 1, 1) := by decide +kernel
theorem dX5_node_102 : decode cX5_node 102 = .ok (.invokevirtual 283, 3) := by decide +kernel
theorem dX5_node_105 : decode cX5_node 105 = .ok (.ireturn, 1) := by decide +kernel
theorem dX5_node_106 : decode cX5_node 106 = .ok (.aload_n 0, 1) := by decide +kernel
theorem dX5_node_107 : decode cX5_node 107 = .ok (.iload_n 1, 1) := by decide +kernel
theorem dX5_node_108 : decode cX5_node 108 = .ok (.invokevirtual 287, 3) := by decide +kernel
theorem dX5_node_111 : decode cX5_node 111 = .ok (.ireturn, 1) := by decide +kernel
theorem dX5_node_112 : decode cX5_node 112 = .ok (.aload_n 0, 1) := by decide +kernel
theorem dX5_node_113 : decode cX5_node 113 = .ok (.iload_n 1, 1) := by decide +kernel
theorem dX5_node_114 : decode cX5_node 114 = .ok (.invokevirtual 290, 3) := by decide +kernel
theorem dX5_node_117 : decode cX5_node 117 = .ok (.ireturn, 1) := by decide +kernel
theorem dX5_cable_0 : decode cX5_cable 0 = .ok (.aload_n 0, 1) := by decide +kernel
theorem dX5_cable_1 : decode cX5_cable 1 = .ok (.aload_n 0, 1) := by decide +kernel
theorem dX5_cable_2 : decode cX5_cable 2 = .ok (.iload_n 1, 1) := by decide +kernel
theorem dX5_cable_3 : decode cX5_cable 3 = .ok (.invokevirtual 65, 3) := by decide +kernel
theorem dX5_cable_6 : decode cX5_cable 6 = .ok (.ifCond .ne 7, 3) := by decide +kernel
theorem dX5_cable_9 : decode cX5_cable 9 = .ok (.iconst 1, 1) := by decide +kernel
theorem dX5_cable_10 : decode cX5_cable 10 = .ok (.goto 18, 3) := by decide +kernel
theorem dX5_cable_13 : decode cX5_cable 13 = .ok (.iload_n 2, 1) := by decide +kernel
theorem dX5_cable_14 : decode cX5_cable 14 = .ok (.iconst 0, 1) := by decide +kernel
theorem dX5_cable_15 : decode cX5_cable 15 = .ok (.bipush 6, 2) := by decide +kernel
theorem dX5_cable_17 : decode cX5_cable 17 = .ok (.invokestatic 61, 3) := by decide +kernel
theorem dX5_cable_20 : decode cX5_cable 20 = .ok (.ifCond .ne 7, 3) := by decide +kernel
theorem dX5_cable_23 : decode cX5_cable 23 = .ok (.iconst 2, 1) := by decide +kernel
theorem dX5_cable_24 : decode cX5_cable 24 = .ok (.goto 4, 3) := by decide +kernel
theorem dX5_cable_27 : decode cX5_cable 27 = .ok (.iconst 0, 1) := by decide +kernel
theorem dX5_cable_28 : decode cX5_cable 28 = .ok (.putfield 58, 3) := by decide +kernel
theorem dX5_cable_31 : decode cX5_cable 31 = .ok (.aload_n 0, 1) := by decide +kernel
theorem dX5_cable_32 : decode cX5_cable 32 = .ok (.getfield 58, 3) := by decide +kernel
theorem dX5_cable_35 : decode cX5_cable 35 = .ok (.ifCond .le 5, 3) := by decide +kernel
theorem dX5_cable_38 : decode cX5_cable 38 = .ok (.iconst 0, 1) := by decide +kernel
theorem dX5_cable_39 : decode cX5_cable 39 = .ok (.ireturn, 1) := by decide +kernel
theorem dX5_cable_40 : decode cX5_cable 40 = .ok (.iload_n 2, 1) := by decide +kernel
theorem dX5_cable_41 : decode cX5_cable 41 = .ok (.bipush 6, 2) := by decide +kernel
theorem dX5_cable_43 : decode cX5_cable 43 = .ok (.if_icmp .ne 11, 3) := by decide +kernel
theorem dX5_cable_46 : decode cX5_cable 46 = .ok (.aload_n 0, 1) := by decide +kernel
theorem dX5_cable_47 : decode cX5_cable 47 = .ok (.iload_n 1, 1) := by decide +kernel
theorem dX5_cable_48 : decode cX5_cable 48 = .ok (.invokevirtual 293, 3) := by decide +kernel
theorem dX5_cable_51 : decode cX5_cable 51 = .ok (.goto 9, 3) := by decide +kernel
theorem dX5_cable_54 : decode cX5_cable 54 = .ok (.aload_n 0, 1) := by decide +kernel
theorem dX5_cable_55 : decode cX5_cable 55 = .ok (.iload_n 1, 1) := by decide +kernel
theorem dX5_cable_56 : decode cX5_cable 56 = .ok (.iload_n 2, 1) := by decide +kernel
theorem dX5_cable_57 : decode cX5_cable 57 = .ok (.invokevirtual 69, 3) := by decide +kernel
theorem dX5_cable_60 : decode cX5_cable 60 = .ok (.ireturn, 1) := by decide +kernel
theorem dX5_isLevel_0 : decode cX5_isLevel 0 = .ok (.iload_n 1, 1) := by decide +kernel
theorem dX5_isLevel_1 : decode cX5_isLevel 1 = .ok (.iconst 0, 1) := by decide +kernel
theorem dX5_isLevel_2 : decode cX5_isLevel 2 = .ok (.aload_n 0, 1) := by decide +kernel
theorem dX5_isLevel_3 : decode cX5_isLevel 3 = .ok (.invokevirtual 129, 3) := by decide +kernel
theorem dX5_isLevel_6 : decode cX5_isLevel 6 = .ok (.invokestatic 61, 3) := by decide +kernel
theorem dX5_isLevel_9 : decode cX5_isLevel 9 = .ok (.ireturn, 1) := by decide +kernel
theorem dX5_part_0 : decode cX5_part 0 = .ok (.aload_n 0, 1) := by decide +kernel
theorem dX5_part_1 : decode cX5_part 1 = .ok (.aload_n 0, 1) := by decide +kernel
theorem dX5_part_2 : decode cX5_part 2 = .ok (.iload_n 1, 1) := by decide +kernel
theorem dX5_part_3 : decode cX5_part 3 = .ok (.invokevirtual 296, 3) := by decide +kernel
theorem dX5_part_6 : decode cX5_part 6 = .ok (.ifCond .eq 15, 3) := by decide +kernel
theorem dX5_part_9 : decode cX5_part 9 = .ok (.aload_n 0, 1) := by decide +kernel
theorem dX5_part_10 : decode cX5_part 10 = .ok (.iload_n 2, 1) := by decide +kernel
theorem dX5_part_11 : decode cX5_part 11 = .ok (.invokevirtual 105, 3) := by decide +kernel
theorem dX5_part_14 : decode cX5_part 14 = .ok (.ifCond .eq 7, 3) := by decide +kernel
theorem dX5_part_17 : decode cX5_part 17 = .ok (.iconst 0, 1) := by decide +kernel
theorem dX5_part_18 : decode cX5_part 18 = .ok (.goto 4, 3) := by decide +kernel
theorem dX5_part_21 : decode cX5_part 21 = .ok (.iconst 1, 1) := by decide +kernel
theorem dX5_part_22 : decode cX5_part 22 = .ok (.putfield 58, 3) := by decide +kernel
theorem dX5_part_25 : decode cX5_part 25 = .ok (.aload_n 0, 1) := by decide +kernel
theorem dX5_part_26 : decode cX5_part 26 = .ok (.getfield 58, 3) := by decide +kernel
theorem dX5_part_29 : decode cX5_part 29 = .ok (.ifCond .le 7, 3) := by decide +kernel
theorem dX5_part_32 : decode cX5_part 32 = .ok (.iconst 0, 1) := by decide +kernel
theorem dX5_part_33 : decode cX5_part 33 = .ok (.goto 9, 3) := by decide +kernel
theorem dX5_part_36 : decode cX5_part 36 = .ok (.aload_n 0, 1) := by decide +kernel
theorem dX5_part_37 : decode cX5_part 37 = .ok (.iload_n 1, 1) := by decide +kernel
theorem dX5_part_38 : decode cX5_part 38 = .ok (.iload_n 2, 1) := by decide +kernel
theorem dX5_part_39 : decode cX5_part 39 = .ok (.invokevirtual 116, 3) := by decide +kernel
theorem dX5_part_42 : decode cX5_part 42 = .ok (.ireturn, 1) := by decide +kernel
theorem dX5_treesOn_0 : decode cX5_treesOn 0 = .ok (.iconst 0, 1) := by decide +kernel
theorem dX5_treesOn_1 : decode cX5_treesOn 1 = .ok (.istore_n 2, 1) := by decide +kernel
theorem dX5_treesOn_2 : decode cX5_treesOn 2 = .ok (.iconst 0, 1) := by decide +kernel
theorem dX5_treesOn_3 : decode cX5_treesOn 3 = .ok (.istore_n 3, 1) := by decide +kernel
theorem dX5_treesOn_4 : decode cX5_treesOn 4 = .ok (.iload_n 3, 1) := by decide +kernel
theorem dX5_treesOn_5 : decode cX5_treesOn 5 = .ok (.aload_n 0, 1) := by decide +kernel
theorem dX5_treesOn_6 : decode cX5_treesOn 6 = .ok (.getfield 7, 3) := by decide +kernel
theorem dX5_treesOn_9 : decode cX5_treesOn 9 = .ok (.iconst 0, 1) := by decide +kernel
theorem dX5_treesOn_10 : decode cX5_treesOn 10 = .ok (.iaload, 1) := by decide +kernel
theorem dX5_treesOn_11 : decode cX5_treesOn 11 = .ok (.if_icmp .ge 63, 3) := by decide +kernel
theorem dX5_treesOn_14 : decode cX5_treesOn 14 = .ok (.iconst 1, 1) := by decide +kernel
theorem dX5_treesOn_15 : decode cX5_treesOn 15 = .ok (.istore 4, 2) := by decide +kernel
theorem dX5_treesOn_17 : decode cX5_treesOn 17 = .ok (.iconst 0, 1) := by decide +kernel
theorem dX5_treesOn_18 : decode cX5_treesOn 18 = .ok (.istore 5, 2) := by decide +kernel
theorem dX5_treesOn_20 : decode cX5_treesOn 20 = .ok (.iload 5, 2) := by decide +kernel
theorem dX5_treesOn_22 : decode cX5_treesOn 22 = .ok (.iload_n 3, 1) := by decide +kernel
theorem dX5_treesOn_23 : decode cX5_treesOn 23 = .ok (.if_icmp .ge 32, 3) := by decide +kernel
theorem dX5_treesOn_26 : decode cX5_treesOn 26 = .ok (.iload 4, 2) := by decide +kernel
theorem dX5_treesOn_28 : decode cX5_treesOn 28 = .ok (.ifCond .eq 18, 3) := by decide +kernel
theorem dX5_treesOn_31 : decode cX5_treesOn 31 = .ok (.aload_n 0, 1) := by decide +kernel
theorem dX5_treesOn_32 : decode cX5_treesOn 32 = .ok (.iload_n 1, 1) := by decide +kernel
theorem dX5_treesOn_33 : decode cX5_treesOn 33 = .ok (.iload_n 3, 1) := by decide +kernel
theorem dX5_treesOn_34 : decode cX5_treesOn 34 = .ok (.iload 5, 2) := by decide +kernel
theorem dX5_treesOn_36 : decode cX5_treesOn 36 = .ok (.invokevirtual 98, 3) := by decide +kernel
theorem dX5_treesOn_39 : decode cX5_treesOn 39 = .ok (.ifCond .ne 7, 3) := by decide +kernel
theorem dX5_treesOn_42 : decode cX5_treesOn 42 = .ok (.iconst 1, 1) := by decide +kernel
theorem dX5_treesOn_43 : decode cX5_treesOn 43 = .ok (.goto 4, 3) := by decide +kernel
theorem dX5_treesOn_46 : decode cX5_treesOn 46 = .ok (.iconst 0, 1) := by decide +kernel
theorem dX5_treesOn_47 : decode cX5_treesOn 47 = .ok (.istore 4, 2) := by decide +kernel
theorem dX5_treesOn_49 : decode cX5_treesOn 49 = .ok (.iinc 5 1, 3) := by decide +kernel
theorem dX5_treesOn_52 : decode cX5_treesOn 52 = .ok (.goto (-32), 3) := by decide +kernel
theorem dX5_treesOn_55 : decode cX5_treesOn 55 = .ok (.iload_n 2, 1) := by decide +kernel
theorem dX5_treesOn_56 : decode cX5_treesOn 56 = .ok (.iload 4, 2) := by decide +kernel
theorem dX5_treesOn_58 : decode cX5_treesOn 58 = .ok (.ifCond .eq 7, 3) := by decide +kernel
theorem dX5_treesOn_61 : decode cX5_treesOn 61 = .ok (.iconst 1, 1) := by decide +kernel
theorem dX5_treesOn_62 : decode cX5_treesOn 62 = .ok (.goto 4, 3) := by decide +kernel
theorem dX5_treesOn_65 : decode cX5_treesOn 65 = .ok (.iconst 0, 1) := by decide +kernel
theorem dX5_treesOn_66 : decode cX5_treesOn 66 = .ok (.iadd, 1) := by decide +kernel
theorem dX5_treesOn_67 : decode cX5_treesOn 67 = .ok (.istore_n 2, 1) := by decide +kernel
theorem dX5_treesOn_68 : decode cX5_treesOn 68 = .ok (.iinc 3 1, 3) := by decide +kernel
theorem dX5_treesOn_71 : decode cX5_treesOn 71 = .ok (.goto (-67), 3) := by decide +kernel
theorem dX5_treesOn_74 : decode cX5_treesOn 74 = .ok (.iload_n 2, 1) := by decide +kernel
theorem dX5_treesOn_75 : decode cX5_treesOn 75 = .ok (.ireturn, 1) := by decide +kernel
theorem dX5_cablesOn_0 : decode cX5_cablesOn 0 = .ok (.iconst 0, 1) := by decide +kernel
theorem dX5_cablesOn_1 : decode cX5_cablesOn 1 = .ok (.istore_n 3, 1) := by decide +kernel
theorem dX5_cablesOn_2 : decode cX5_cablesOn 2 = .ok (.iconst 0, 1) := by decide +kernel
theorem dX5_cablesOn_3 : decode cX5_cablesOn 3 = .ok (.istore 4, 2) := by decide +kernel
theorem dX5_cablesOn_5 : decode cX5_cablesOn 5 = .ok (.iload 4, 2) := by decide +kernel
theorem dX5_cablesOn_7 : decode cX5_cablesOn 7 = .ok (.aload_n 0, 1) := by decide +kernel
theorem dX5_cablesOn_8 : decode cX5_cablesOn 8 = .ok (.getfield 7, 3) := by decide +kernel
theorem dX5_cablesOn_11 : decode cX5_cablesOn 11 = .ok (.iconst 1, 1) := by decide +kernel
theorem dX5_cablesOn_12 : decode cX5_cablesOn 12 = .ok (.iaload, 1) := by decide +kernel
theorem dX5_cablesOn_13 : decode cX5_cablesOn 13 = .ok (.if_icmp .ge 39, 3) := by decide +kernel
theorem dX5_cablesOn_16 : decode cX5_cablesOn 16 = .ok (.iload_n 3, 1) := by decide +kernel
theorem dX5_cablesOn_17 : decode cX5_cablesOn 17 = .ok (.aload_n 0, 1) := by decide +kernel
theorem dX5_cablesOn_18 : decode cX5_cablesOn 18 = .ok (.iload 4, 2) := by decide +kernel
theorem dX5_cablesOn_20 : decode cX5_cablesOn 20 = .ok (.iconst 2, 1) := by decide +kernel
theorem dX5_cablesOn_21 : decode cX5_cablesOn 21 = .ok (.invokevirtual 69, 3) := by decide +kernel
theorem dX5_cablesOn_24 : decode cX5_cablesOn 24 = .ok (.iload_n 2, 1) := by decide +kernel
theorem dX5_cablesOn_25 : decode cX5_cablesOn 25 = .ok (.if_icmp .ne 18, 3) := by decide +kernel
theorem dX5_cablesOn_28 : decode cX5_cablesOn 28 = .ok (.aload_n 0, 1) := by decide +kernel
theorem dX5_cablesOn_29 : decode cX5_cablesOn 29 = .ok (.iload 4, 2) := by decide +kernel
theorem dX5_cablesOn_31 : decode cX5_cablesOn 31 = .ok (.iconst 3, 1) := by decide +kernel
theorem dX5_cablesOn_32 : decode cX5_cablesOn 32 = .ok (.invokevirtual 69, 3) := by decide +kernel
theorem dX5_cablesOn_35 : decode cX5_cablesOn 35 = .ok (.iload_n 1, 1) := by decide +kernel
theorem dX5_cablesOn_36 : decode cX5_cablesOn 36 = .ok (.if_icmp .ne 7, 3) := by decide +kernel
theorem dX5_cablesOn_39 : decode cX5_cablesOn 39 = .ok (.iconst 1, 1) := by decide +kernel
theorem dX5_cablesOn_40 : decode cX5_cablesOn 40 = .ok (.goto 4, 3) := by decide +kernel
theorem dX5_cablesOn_43 : decode cX5_cablesOn 43 = .ok (.iconst 0, 1) := by decide +kernel
theorem dX5_cablesOn_44 : decode cX5_cablesOn 44 = .ok (.iadd, 1) := by decide +kernel
theorem dX5_cablesOn_45 : decode cX5_cablesOn 45 = .ok (.istore_n 3, 1) := by decide +kernel
theorem dX5_cablesOn_46 : decode cX5_cablesOn 46 = .ok (.iinc 4 1, 3) := by decide +kernel
theorem dX5_cablesOn_49 : decode cX5_cablesOn 49 = .ok (.goto (-44), 3) := by decide +kernel
theorem dX5_cablesOn_52 : decode cX5_cablesOn 52 = .ok (.iload_n 3, 1) := by decide +kernel
theorem dX5_cablesOn_53 : decode cX5_cablesOn 53 = .ok (.ireturn, 1) := by decide +kernel
theorem dX5_greatestOn_0 : decode cX5_greatestOn 0 = .ok (.iconst 0, 1) := by decide +kernel
theorem dX5_greatestOn_1 : decode cX5_greatestOn 1 = .ok (.istore_n 2, 1) := by decide +kernel
theorem dX5_greatestOn_2 : decode cX5_greatestOn 2 = .ok (.iconst 0, 1) := by decide +kernel
theorem dX5_greatestOn_3 : decode cX5_greatestOn 3 = .ok (.istore_n 3, 1) := by decide +kernel
theorem dX5_greatestOn_4 : decode cX5_greatestOn 4 = .ok (.iload_n 3, 1) := by decide +kernel
theorem dX5_greatestOn_5 : decode cX5_greatestOn 5 = .ok (.aload_n 0, 1) := by decide +kernel
theorem dX5_greatestOn_6 : decode cX5_greatestOn 6 = .ok (.getfield 7, 3) := by decide +kernel
theorem dX5_greatestOn_9 : decode cX5_greatestOn 9 = .ok (.iconst 0, 1) := by decide +kernel
theorem dX5_greatestOn_10 : decode cX5_greatestOn 10 = .ok (.iaload, 1) := by decide +kernel
theorem dX5_greatestOn_11 : decode cX5_greatestOn 11 = .ok (.if_icmp .ge 32, 3) := by decide +kernel
theorem dX5_greatestOn_14 : decode cX5_greatestOn 14 = .ok (.aload_n 0, 1) := by decide +kernel
theorem dX5_greatestOn_15 : decode cX5_greatestOn 15 = .ok (.iload_n 1, 1) := by decide +kernel
theorem dX5_greatestOn_16 : decode cX5_greatestOn 16 = .ok (.iload_n 3, 1) := by decide +kernel
theorem dX5_greatestOn_17 : decode cX5_greatestOn 17 = .ok (.invokevirtual 116, 3) := by decide +kernel
theorem dX5_greatestOn_20 : decode cX5_greatestOn 20 = .ok (.invokestatic 119, 3) := by decide +kernel
theorem dX5_greatestOn_23 : decode cX5_greatestOn 23 = .ok (.iload_n 2, 1) := by decide +kernel
theorem dX5_greatestOn_24 : decode cX5_greatestOn 24 = .ok (.if_icmp .le 13, 3) := by decide +kernel
theorem dX5_greatestOn_27 : decode cX5_greatestOn 27 = .ok (.aload_n 0, 1) := by decide +kernel
theorem dX5_greatestOn_28 : decode cX5_greatestOn 28 = .ok (.iload_n 1, 1) := by decide +kernel
theorem dX5_greatestOn_29 : decode cX5_greatestOn 29 = .ok (.iload_n 3, 1) := by decide +kernel
theorem dX5_greatestOn_30 : decode cX5_greatestOn 30 = .ok (.invokevirtual 116, 3) := by decide +kernel
theorem dX5_greatestOn_33 : decode cX5_greatestOn 33 = .ok (.invokestatic 119, 3) := by decide +kernel
theorem dX5_greatestOn_36 : decode cX5_greatestOn 36 = .ok (.istore_n 2, 1) := by decide +kernel
theorem dX5_greatestOn_37 : decode cX5_greatestOn 37 = .ok (.iinc 3 1, 3) := by decide +kernel
theorem dX5_greatestOn_40 : decode cX5_greatestOn 40 = .ok (.goto (-36), 3) := by decide +kernel
theorem dX5_greatestOn_43 : decode cX5_greatestOn 43 = .ok (.iload_n 2, 1) := by decide +kernel
theorem dX5_greatestOn_44 : decode cX5_greatestOn 44 = .ok (.ireturn, 1) := by decide +kernel
theorem dX5_level_0 : decode cX5_level 0 = .ok (.aload_n 0, 1) := by decide +kernel
theorem dX5_level_1 : decode cX5_level 1 = .ok (.aload_n 0, 1) := by decide +kernel
theorem dX5_level_2 : decode cX5_level 2 = .ok (.iload_n 1, 1) := by decide +kernel
theorem dX5_level_3 : decode cX5_level 3 = .ok (.invokevirtual 296, 3) := by decide +kernel
theorem dX5_level_6 : decode cX5_level 6 = .ok (.ifCond .ne 7, 3) := by decide +kernel
theorem dX5_level_9 : decode cX5_level 9 = .ok (.iconst 1, 1) := by decide +kernel
theorem dX5_level_10 : decode cX5_level 10 = .ok (.goto 17, 3) := by decide +kernel
theorem dX5_level_13 : decode cX5_level 13 = .ok (.iload_n 2, 1) := by decide +kernel
theorem dX5_level_14 : decode cX5_level 14 = .ok (.iconst 0, 1) := by decide +kernel
theorem dX5_level_15 : decode cX5_level 15 = .ok (.iconst 3, 1) := by decide +kernel
theorem dX5_level_16 : decode cX5_level 16 = .ok (.invokestatic 61, 3) := by decide +kernel
theorem dX5_level_19 : decode cX5_level 19 = .ok (.ifCond .ne 7, 3) := by decide +kernel
theorem dX5_level_22 : decode cX5_level 22 = .ok (.iconst 2, 1) := by decide +kernel
theorem dX5_level_23 : decode cX5_level 23 = .ok (.goto 4, 3) := by decide +kernel
theorem dX5_level_26 : decode cX5_level 26 = .ok (.iconst 0, 1) := by decide +kernel
theorem dX5_level_27 : decode cX5_level 27 = .ok (.putfield 58, 3) := by decide +kernel
theorem dX5_level_30 : decode cX5_level 30 = .ok (.aload_n 0, 1) := by decide +kernel
theorem dX5_level_31 : decode cX5_level 31 = .ok (.getfield 58, 3) := by decide +kernel
theorem dX5_level_34 : decode cX5_level 34 = .ok (.ifCond .le 5, 3) := by decide +kernel
theorem dX5_level_37 : decode cX5_level 37 = .ok (.iconst 0, 1) := by decide +kernel
theorem dX5_level_38 : decode cX5_level 38 = .ok (.ireturn, 1) := by decide +kernel
theorem dX5_level_39 : decode cX5_level 39 = .ok (.iload_n 2, 1) := by decide +kernel
theorem dX5_level_40 : decode cX5_level 40 = .ok (.tableswitch 48 0 2 #[28, 34, 41], 28) := by decide +kernel
theorem dX5_level_68 : decode cX5_level 68 = .ok (.aload_n 0, 1) := by decide +kernel
theorem dX5_level_69 : decode cX5_level 69 = .ok (.iload_n 1, 1) := by decide +kernel
theorem dX5_level_70 : decode cX5_level 70 = .ok (.invokevirtual 264, 3) := by decide +kernel
theorem dX5_level_73 : decode cX5_level 73 = .ok (.ireturn, 1) := by decide +kernel
theorem dX5_level_74 : decode cX5_level 74 = .ok (.aload_n 0, 1) := by decide +kernel
theorem dX5_level_75 : decode cX5_level 75 = .ok (.iload_n 1, 1) := by decide +kernel
theorem dX5_level_76 : decode cX5_level 76 = .ok (.iconst 0, 1) := by decide +kernel
theorem dX5_level_77 : decode cX5_level 77 = .ok (.invokevirtual 299, 3) := by decide +kernel
theorem dX5_level_80 : decode cX5_level 80 = .ok (.ireturn, 1) := by decide +kernel
theorem dX5_level_81 : decode cX5_level 81 = .ok (.aload_n 0, 1) := by decide +kernel
theorem dX5_level_82 : decode cX5_level 82 = .ok (.iload_n 1, 1) := by decide +kernel
theorem dX5_level_83 : decode cX5_level 83 = .ok (.iconst 1, 1) := by decide +kernel
theorem dX5_level_84 : decode cX5_level 84 = .ok (.invokevirtual 299, 3) := by decide +kernel
theorem dX5_level_87 : decode cX5_level 87 = .ok (.ireturn, 1) := by decide +kernel
theorem dX5_level_88 : decode cX5_level 88 = .ok (.aload_n 0, 1) := by decide +kernel
theorem dX5_level_89 : decode cX5_level 89 = .ok (.iload_n 1, 1) := by decide +kernel
theorem dX5_level_90 : decode cX5_level 90 = .ok (.invokevirtual 302, 3) := by decide +kernel
theorem dX5_level_93 : decode cX5_level 93 = .ok (.ireturn, 1) := by decide +kernel
theorem dX5_opens_0 : decode cX5_opens 0 = .ok (.iconst 0, 1) := by decide +kernel
theorem dX5_opens_1 : decode cX5_opens 1 = .ok (.istore 4, 2) := by decide +kernel
theorem dX5_opens_3 : decode cX5_opens 3 = .ok (.iload 4, 2) := by decide +kernel
theorem dX5_opens_5 : decode cX5_opens 5 = .ok (.iload_n 3, 1) := by decide +kernel
theorem dX5_opens_6 : decode cX5_opens 6 = .ok (.if_icmp .ge 37, 3) := by decide +kernel
theorem dX5_opens_9 : decode cX5_opens 9 = .ok (.aload_n 0, 1) := by decide +kernel
theorem dX5_opens_10 : decode cX5_opens 10 = .ok (.getfield 7, 3) := by decide +kernel
theorem dX5_opens_13 : decode cX5_opens 13 = .ok (.iload_n 1, 1) := by decide +kernel
theorem dX5_opens_14 : decode cX5_opens 14 = .ok (.iload_n 2, 1) := by decide +kernel
theorem dX5_opens_15 : decode cX5_opens 15 = .ok (.iload 4, 2) := by decide +kernel
theorem dX5_opens_17 : decode cX5_opens 17 = .ok (.invokestatic 76, 3) := by decide +kernel
theorem dX5_opens_20 : decode cX5_opens 20 = .ok (.iaload, 1) := by decide +kernel
theorem dX5_opens_21 : decode cX5_opens 21 = .ok (.aload_n 0, 1) := by decide +kernel
theorem dX5_opens_22 : decode cX5_opens 22 = .ok (.getfield 7, 3) := by decide +kernel
theorem dX5_opens_25 : decode cX5_opens 25 = .ok (.iload_n 1, 1) := by decide +kernel
theorem dX5_opens_26 : decode cX5_opens 26 = .ok (.iload_n 2, 1) := by decide +kernel
theorem dX5_opens_27 : decode cX5_opens 27 = .ok (.iload_n 3, 1) := by decide +kernel
theorem dX5_opens_28 : decode cX5_opens 28 = .ok (.invokestatic 76, 3) := by decide +kernel
theorem dX5_opens_31 : decode cX5_opens 31 = .ok (.iaload, 1) := by decide +kernel
theorem dX5_opens_32 : decode cX5_opens 32 = .ok (.if_icmp .ne 5, 3) := by decide +kernel
theorem dX5_opens_35 : decode cX5_opens 35 = .ok (.iconst 0, 1) := by decide +kernel
theorem dX5_opens_36 : decode cX5_opens 36 = .ok (.ireturn, 1) := by decide +kernel
theorem dX5_opens_37 : decode cX5_opens 37 = .ok (.iinc 4 1, 3) := by decide +kernel
theorem dX5_opens_40 : decode cX5_opens 40 = .ok (.goto (-37), 3) := by decide +kernel
theorem dX5_opens_43 : decode cX5_opens 43 = .ok (.iconst 1, 1) := by decide +kernel
theorem dX5_opens_44 : decode cX5_opens 44 = .ok (.ireturn, 1) := by decide +kernel
theorem dX5_tour_0 : decode cX5_tour 0 = .ok (.aload_n 0, 1) := by decide +kernel
theorem dX5_tour_1 : decode cX5_tour 1 = .ok (.aload_n 0, 1) := by decide +kernel
theorem dX5_tour_2 : decode cX5_tour 2 = .ok (.iload_n 1, 1) := by decide +kernel
theorem dX5_tour_3 : decode cX5_tour 3 = .ok (.invokevirtual 296, 3) := by decide +kernel
theorem dX5_tour_6 : decode cX5_tour 6 = .ok (.ifCond .eq 15, 3) := by decide +kernel
theorem dX5_tour_9 : decode cX5_tour 9 = .ok (.aload_n 0, 1) := by decide +kernel
theorem dX5_tour_10 : decode cX5_tour 10 = .ok (.iload_n 2, 1) := by decide +kernel
theorem dX5_tour_11 : decode cX5_tour 11 = .ok (.invokevirtual 105, 3) := by decide +kernel
theorem dX5_tour_14 : decode cX5_tour 14 = .ok (.ifCond .eq 7, 3) := by decide +kernel
theorem dX5_tour_17 : decode cX5_tour 17 = .ok (.iconst 0, 1) := by decide +kernel
theorem dX5_tour_18 : decode cX5_tour 18 = .ok (.goto 4, 3) := by decide +kernel
theorem dX5_tour_21 : decode cX5_tour 21 = .ok (.iconst 1, 1) := by decide +kernel
theorem dX5_tour_22 : decode cX5_tour 22 = .ok (.putfield 58, 3) := by decide +kernel
theorem dX5_tour_25 : decode cX5_tour 25 = .ok (.aload_n 0, 1) := by decide +kernel
theorem dX5_tour_26 : decode cX5_tour 26 = .ok (.getfield 58, 3) := by decide +kernel
theorem dX5_tour_29 : decode cX5_tour 29 = .ok (.ifCond .le 5, 3) := by decide +kernel
theorem dX5_tour_32 : decode cX5_tour 32 = .ok (.iconst 0, 1) := by decide +kernel
theorem dX5_tour_33 : decode cX5_tour 33 = .ok (.ireturn, 1) := by decide +kernel
theorem dX5_tour_34 : decode cX5_tour 34 = .ok (.aload_n 0, 1) := by decide +kernel
theorem dX5_tour_35 : decode cX5_tour 35 = .ok (.iload_n 1, 1) := by decide +kernel
theorem dX5_tour_36 : decode cX5_tour 36 = .ok (.iload_n 2, 1) := by decide +kernel
theorem dX5_tour_37 : decode cX5_tour 37 = .ok (.invokevirtual 80, 3) := by decide +kernel
theorem dX5_tour_40 : decode cX5_tour 40 = .ok (.istore 4, 2) := by decide +kernel
theorem dX5_tour_42 : decode cX5_tour 42 = .ok (.iload_n 3, 1) := by decide +kernel
theorem dX5_tour_43 : decode cX5_tour 43 = .ok (.iconst 0, 1) := by decide +kernel
theorem dX5_tour_44 : decode cX5_tour 44 = .ok (.aload_n 0, 1) := by decide +kernel
theorem dX5_tour_45 : decode cX5_tour 45 = .ok (.iload_n 1, 1) := by decide +kernel
theorem dX5_tour_46 : decode cX5_tour 46 = .ok (.iload 4, 2) := by decide +kernel
theorem dX5_tour_48 : decode cX5_tour 48 = .ok (.invokevirtual 83, 3) := by decide +kernel
theorem dX5_tour_51 : decode cX5_tour 51 = .ok (.iconst 1, 1) := by decide +kernel
theorem dX5_tour_52 : decode cX5_tour 52 = .ok (.isub, 1) := by decide +kernel
theorem dX5_tour_53 : decode cX5_tour 53 = .ok (.invokestatic 61, 3) := by decide +kernel
theorem dX5_tour_56 : decode cX5_tour 56 = .ok (.ifCond .ne 5, 3) := by decide +kernel
theorem dX5_tour_59 : decode cX5_tour 59 = .ok (.iconst (-1), 1) := by decide +kernel
theorem dX5_tour_60 : decode cX5_tour 60 = .ok (.ireturn, 1) := by decide +kernel
theorem dX5_tour_61 : decode cX5_tour 61 = .ok (.aload_n 0, 1) := by decide +kernel
theorem dX5_tour_62 : decode cX5_tour 62 = .ok (.getfield 7, 3) := by decide +kernel
theorem dX5_tour_65 : decode cX5_tour 65 = .ok (.iload_n 1, 1) := by decide +kernel
theorem dX5_tour_66 : decode cX5_tour 66 = .ok (.iload 4, 2) := by decide +kernel
theorem dX5_tour_68 : decode cX5_tour 68 = .ok (.iload_n 3, 1) := by decide +kernel
theorem dX5_tour_69 : decode cX5_tour 69 = .ok (.invokestatic 76, 3) := by decide +kernel
theorem dX5_tour_72 : decode cX5_tour 72 = .ok (.iaload, 1) := by decide +kernel
theorem dX5_tour_73 : decode cX5_tour 73 = .ok (.istore 5, 2) := by decide +kernel
theorem dX5_tour_75 : decode cX5_tour 75 = .ok (.iload 5, 2) := by decide +kernel
theorem dX5_tour_77 : decode cX5_tour 77 = .ok (.bipush 100, 2) := by decide +kernel
theorem dX5_tour_79 : decode cX5_tour 79 = .ok (.if_icmp .lt 14, 3) := by decide +kernel
theorem dX5_tour_82 : decode cX5_tour 82 = .ok (.aload_n 0, 1) := by decide +kernel
theorem dX5_tour_83 : decode cX5_tour 83 = .ok (.iload_n 1, 1) := by decide +kernel
theorem dX5_tour_84 : decode cX5_tour 84 = .ok (.iload 4, 2) := by decide +kernel
theorem dX5_tour_86 : decode cX5_tour 86 = .ok (.iload_n 3, 1) := by decide +kernel
theorem dX5_tour_87 : decode cX5_tour 87 = .ok (.invokevirtual 305, 3) := by decide +kernel
theorem dX5_tour_90 : decode cX5_tour 90 = .ok (.ifCond .eq 8, 3) := by decide +kernel
theorem dX5_tour_93 : decode cX5_tour 93 = .ok (.iload 5, 2) := by decide +kernel
theorem dX5_tour_95 : decode cX5_tour 95 = .ok (.goto 8, 3) := by decide +kernel
theorem dX5_tour_98 : decode cX5_tour 98 = .ok (.iload 5, 2) := by decide +kernel
theorem dX5_tour_100 : decode cX5_tour 100 = .ok (.bipush 100, 2) := by decide +kernel
theorem dX5_tour_102 : decode cX5_tour 102 = .ok (.iadd, 1) := by decide +kernel
theorem dX5_tour_103 : decode cX5_tour 103 = .ok (.ireturn, 1) := by decide +kernel
theorem dX5_deep_0 : decode cX5_deep 0 = .ok (.aload_n 0, 1) := by decide +kernel
theorem dX5_deep_1 : decode cX5_deep 1 = .ok (.aload_n 0, 1) := by decide +kernel
theorem dX5_deep_2 : decode cX5_deep 2 = .ok (.iload_n 1, 1) := by decide +kernel
theorem dX5_deep_3 : decode cX5_deep 3 = .ok (.invokevirtual 296, 3) := by decide +kernel
theorem dX5_deep_6 : decode cX5_deep 6 = .ok (.ifCond .eq 15, 3) := by decide +kernel
theorem dX5_deep_9 : decode cX5_deep 9 = .ok (.aload_n 0, 1) := by decide +kernel
theorem dX5_deep_10 : decode cX5_deep 10 = .ok (.iload_n 2, 1) := by decide +kernel
theorem dX5_deep_11 : decode cX5_deep 11 = .ok (.invokevirtual 105, 3) := by decide +kernel
theorem dX5_deep_14 : decode cX5_deep 14 = .ok (.ifCond .eq 7, 3) := by decide +kernel
theorem dX5_deep_17 : decode cX5_deep 17 = .ok (.iconst 0, 1) := by decide +kernel
theorem dX5_deep_18 : decode cX5_deep 18 = .ok (.goto 4, 3) := by decide +kernel
theorem dX5_deep_21 : decode cX5_deep 21 = .ok (.iconst 1, 1) := by decide +kernel
theorem dX5_deep_22 : decode cX5_deep 22 = .ok (.putfield 58, 3) := by decide +kernel
theorem dX5_deep_25 : decode cX5_deep 25 = .ok (.aload_n 0, 1) := by decide +kernel
theorem dX5_deep_26 : decode cX5_deep 26 = .ok (.getfield 58, 3) := by decide +kernel
theorem dX5_deep_29 : decode cX5_deep 29 = .ok (.ifCond .le 5, 3) := by decide +kernel
theorem dX5_deep_32 : decode cX5_deep 32 = .ok (.iconst 0, 1) := by decide +kernel
theorem dX5_deep_33 : decode cX5_deep 33 = .ok (.ireturn, 1) := by decide +kernel
theorem dX5_deep_34 : decode cX5_deep 34 = .ok (.aload_n 0, 1) := by decide +kernel
theorem dX5_deep_35 : decode cX5_deep 35 = .ok (.iload_n 1, 1) := by decide +kernel
theorem dX5_deep_36 : decode cX5_deep 36 = .ok (.iload_n 2, 1) := by decide +kernel
theorem dX5_deep_37 : decode cX5_deep 37 = .ok (.invokevirtual 80, 3) := by decide +kernel
theorem dX5_deep_40 : decode cX5_deep 40 = .ok (.istore_n 3, 1) := by decide +kernel
theorem dX5_deep_41 : decode cX5_deep 41 = .ok (.iconst 0, 1) := by decide +kernel
theorem dX5_deep_42 : decode cX5_deep 42 = .ok (.istore 4, 2) := by decide +kernel
theorem dX5_deep_44 : decode cX5_deep 44 = .ok (.iconst 0, 1) := by decide +kernel
theorem dX5_deep_45 : decode cX5_deep 45 = .ok (.istore 5, 2) := by decide +kernel
theorem dX5_deep_47 : decode cX5_deep 47 = .ok (.aload_n 0, 1) := by decide +kernel
theorem dX5_deep_48 : decode cX5_deep 48 = .ok (.getfield 7, 3) := by decide +kernel
theorem dX5_deep_51 : decode cX5_deep 51 = .ok (.iload_n 1, 1) := by decide +kernel
theorem dX5_deep_52 : decode cX5_deep 52 = .ok (.iload_n 3, 1) := by decide +kernel
theorem dX5_deep_53 : decode cX5_deep 53 = .ok (.iload 5, 2) := by decide +kernel
theorem dX5_deep_55 : decode cX5_deep 55 = .ok (.invokestatic 76, 3) := by decide +kernel
theorem dX5_deep_58 : decode cX5_deep 58 = .ok (.iaload, 1) := by decide +kernel
theorem dX5_deep_59 : decode cX5_deep 59 = .ok (.iload_n 2, 1) := by decide +kernel
theorem dX5_deep_60 : decode cX5_deep 60 = .ok (.if_icmp .eq 47, 3) := by decide +kernel
theorem dX5_deep_63 : decode cX5_deep 63 = .ok (.aload_n 0, 1) := by decide +kernel
theorem dX5_deep_64 : decode cX5_deep 64 = .ok (.getfield 7, 3) := by decide +kernel
theorem dX5_deep_67 : decode cX5_deep 67 = .ok (.iload_n 1, 1) := by decide +kernel
theorem dX5_deep_68 : decode cX5_deep 68 = .ok (.iload_n 3, 1) := by decide +kernel
theorem dX5_deep_69 : decode cX5_deep 69 = .ok (.iload 5, 2) := by decide +kernel
theorem dX5_deep_71 : decode cX5_deep 71 = .ok (.invokestatic 76, 3) := by decide +kernel
theorem dX5_deep_74 : decode cX5_deep 74 = .ok (.iaload, 1) := by decide +kernel
theorem dX5_deep_75 : decode cX5_deep 75 = .ok (.bipush 100, 2) := by decide +kernel
theorem dX5_deep_77 : decode cX5_deep 77 = .ok (.if_icmp .lt 24, 3) := by decide +kernel
theorem dX5_deep_80 : decode cX5_deep 80 = .ok (.iload 4, 2) := by decide +kernel
theorem dX5_deep_82 : decode cX5_deep 82 = .ok (.aload_n 0, 1) := by decide +kernel
theorem dX5_deep_83 : decode cX5_deep 83 = .ok (.iload_n 1, 1) := by decide +kernel
theorem dX5_deep_84 : decode cX5_deep 84 = .ok (.iload_n 3, 1) := by decide +kernel
theorem dX5_deep_85 : decode cX5_deep 85 = .ok (.iload 5, 2) := by decide +kernel
theorem dX5_deep_87 : decode cX5_deep 87 = .ok (.invokevirtual 305, 3) := by decide +kernel
theorem dX5_deep_90 : decode cX5_deep 90 = .ok (.ifCond .eq 7, 3) := by decide +kernel
theorem dX5_deep_93 : decode cX5_deep 93 = .ok (.iconst 1, 1) := by decide +kernel
theorem dX5_deep_94 : decode cX5_deep 94 = .ok (.goto 4, 3) := by decide +kernel
theorem dX5_deep_97 : decode cX5_deep 97 = .ok (.iconst (-1), 1) := by decide +kernel
theorem dX5_deep_98 : decode cX5_deep 98 = .ok (.iadd, 1) := by decide +kernel
theorem dX5_deep_99 : decode cX5_deep 99 = .ok (.istore 4, 2) := by decide +kernel
theorem dX5_deep_101 : decode cX5_deep 101 = .ok (.iinc 5 1, 3) := by decide +kernel
theorem dX5_deep_104 : decode cX5_deep 104 = .ok (.goto (-57), 3) := by decide +kernel
theorem dX5_deep_107 : decode cX5_deep 107 = .ok (.iload 4, 2) := by decide +kernel
theorem dX5_deep_109 : decode cX5_deep 109 = .ok (.ireturn, 1) := by decide +kernel
theorem dX5_way_0 : decode cX5_way 0 = .ok (.aload_n 0, 1) := by decide +kernel
theorem dX5_way_1 : decode cX5_way 1 = .ok (.aload_n 0, 1) := by decide +kernel
theorem dX5_way_2 : decode cX5_way 2 = .ok (.iload_n 1, 1) := by decide +kernel
theorem dX5_way_3 : decode cX5_way 3 = .ok (.invokevirtual 105, 3) := by decide +kernel
theorem dX5_way_6 : decode cX5_way 6 = .ok (.ifCond .eq 15, 3) := by decide +kernel
theorem dX5_way_9 : decode cX5_way 9 = .ok (.aload_n 0, 1) := by decide +kernel
theorem dX5_way_10 : decode cX5_way 10 = .ok (.iload_n 2, 1) := by decide +kernel
theorem dX5_way_11 : decode cX5_way 11 = .ok (.invokevirtual 105, 3) := by decide +kernel
theorem dX5_way_14 : decode cX5_way 14 = .ok (.ifCond .eq 7, 3) := by decide +kernel
theorem dX5_way_17 : decode cX5_way 17 = .ok (.iconst 0, 1) := by decide +kernel
theorem dX5_way_18 : decode cX5_way 18 = .ok (.goto 4, 3) := by decide +kernel
theorem dX5_way_21 : decode cX5_way 21 = .ok (.iconst 1, 1) := by decide +kernel
theorem dX5_way_22 : decode cX5_way 22 = .ok (.putfield 58, 3) := by decide +kernel
theorem dX5_way_25 : decode cX5_way 25 = .ok (.aload_n 0, 1) := by decide +kernel
theorem dX5_way_26 : decode cX5_way 26 = .ok (.getfield 58, 3) := by decide +kernel
theorem dX5_way_29 : decode cX5_way 29 = .ok (.ifCond .le 5, 3) := by decide +kernel
theorem dX5_way_32 : decode cX5_way 32 = .ok (.iconst 0, 1) := by decide +kernel
theorem dX5_way_33 : decode cX5_way 33 = .ok (.ireturn, 1) := by decide +kernel
theorem dX5_way_34 : decode cX5_way 34 = .ok (.aload_n 0, 1) := by decide +kernel
theorem dX5_way_35 : decode cX5_way 35 = .ok (.iload_n 2, 1) := by decide +kernel
theorem dX5_way_36 : decode cX5_way 36 = .ok (.iconst 1, 1) := by decide +kernel
theorem dX5_way_37 : decode cX5_way 37 = .ok (.iconst (-1), 1) := by decide +kernel
theorem dX5_way_38 : decode cX5_way 38 = .ok (.iconst (-1), 1) := by decide +kernel
theorem dX5_way_39 : decode cX5_way 39 = .ok (.invokevirtual 279, 3) := by decide +kernel
theorem dX5_way_42 : decode cX5_way 42 = .ok (.iload_n 3, 1) := by decide +kernel
theorem dX5_way_43 : decode cX5_way 43 = .ok (.iconst (-1), 1) := by decide +kernel
theorem dX5_way_44 : decode cX5_way 44 = .ok (.if_icmp .eq 13, 3) := by decide +kernel
theorem dX5_way_47 : decode cX5_way 47 = .ok (.aload_n 0, 1) := by decide +kernel
theorem dX5_way_48 : decode cX5_way 48 = .ok (.getfield 39, 3) := by decide +kernel
theorem dX5_way_51 : decode cX5_way 51 = .ok (.iload_n 1, 1) := by decide +kernel
theorem dX5_way_52 : decode cX5_way 52 = .ok (.iaload, 1) := by decide +kernel
theorem dX5_way_53 : decode cX5_way 53 = .ok (.iconst (-1), 1) := by decide +kernel
theorem dX5_way_54 : decode cX5_way 54 = .ok (.if_icmp .ne 10, 3) := by decide +kernel
theorem dX5_way_57 : decode cX5_way 57 = .ok (.aload_n 0, 1) := by decide +kernel
theorem dX5_way_58 : decode cX5_way 58 = .ok (.getfield 39, 3) := by decide +kernel
theorem dX5_way_61 : decode cX5_way 61 = .ok (.iload_n 1, 1) := by decide +kernel
theorem dX5_way_62 : decode cX5_way 62 = .ok (.iaload, 1) := by decide +kernel
theorem dX5_way_63 : decode cX5_way 63 = .ok (.ireturn, 1) := by decide +kernel
theorem dX5_way_64 : decode cX5_way 64 = .ok (.iload_n 3, 1) := by decide +kernel
theorem dX5_way_65 : decode cX5_way 65 = .ok (.iconst 0, 1) := by decide +kernel
theorem dX5_way_66 : decode cX5_way 66 = .ok (.aload_n 0, 1) := by decide +kernel
theorem dX5_way_67 : decode cX5_way 67 = .ok (.getfield 39, 3) := by decide +kernel
theorem dX5_way_70 : decode cX5_way 70 = .ok (.iload_n 1, 1) := by decide +kernel
theorem dX5_way_71 : decode cX5_way 71 = .ok (.iaload, 1) := by decide +kernel
theorem dX5_way_72 : decode cX5_way 72 = .ok (.invokestatic 61, 3) := by decide +kernel
theorem dX5_way_75 : decode cX5_way 75 = .ok (.ifCond .ne 5, 3) := by decide +kernel
theorem dX5_way_78 : decode cX5_way 78 = .ok (.iconst (-1), 1) := by decide +kernel
theorem dX5_way_79 : decode cX5_way 79 = .ok (.ireturn, 1) := by decide +kernel
theorem dX5_way_80 : decode cX5_way 80 = .ok (.iload_n 1, 1) := by decide +kernel
theorem dX5_way_81 : decode cX5_way 81 = .ok (.istore 4, 2) := by decide +kernel
theorem dX5_way_83 : decode cX5_way 83 = .ok (.iconst 0, 1) := by decide +kernel
theorem dX5_way_84 : decode cX5_way 84 = .ok (.istore 5, 2) := by decide +kernel
theorem dX5_way_86 : decode cX5_way 86 = .ok (.iload 5, 2) := by decide +kernel
theorem dX5_way_88 : decode cX5_way 88 = .ok (.iload_n 3, 1) := by decide +kernel
theorem dX5_way_89 : decode cX5_way 89 = .ok (.if_icmp .ge 18, 3) := by decide +kernel
theorem dX5_way_92 : decode cX5_way 92 = .ok (.aload_n 0, 1) := by decide +kernel
theorem dX5_way_93 : decode cX5_way 93 = .ok (.getfield 42, 3) := by decide +kernel
theorem dX5_way_96 : decode cX5_way 96 = .ok (.iload 4, 2) := by decide +kernel
theorem dX5_way_98 : decode cX5_way 98 = .ok (.iaload, 1) := by decide +kernel
theorem dX5_way_99 : decode cX5_way 99 = .ok (.istore 4, 2) := by decide +kernel
theorem dX5_way_101 : decode cX5_way 101 = .ok (.iinc 5 1, 3) := by decide +kernel
theorem dX5_way_104 : decode cX5_way 104 = .ok (.goto (-18), 3) := by decide +kernel
theorem dX5_way_107 : decode cX5_way 107 = .ok (.iload 4, 2) := by decide +kernel
theorem dX5_way_109 : decode cX5_way 109 = .ok (.ireturn, 1) := by decide +kernel
theorem dX5_near_0 : decode cX5_near 0 = .ok (.aload_n 0, 1) := by decide +kernel
theorem dX5_near_1 : decode cX5_near 1 = .ok (.aload_n 0, 1) := by decide +kernel
theorem dX5_near_2 : decode cX5_near 2 = .ok (.iload_n 1, 1) := by decide +kernel
theorem dX5_near_3 : decode cX5_near 3 = .ok (.invokevirtual 105, 3) := by decide +kernel
theorem dX5_near_6 : decode cX5_near 6 = .ok (.ifCond .eq 15, 3) := by decide +kernel
theorem dX5_near_9 : decode cX5_near 9 = .ok (.aload_n 0, 1) := by decide +kernel
theorem dX5_near_10 : decode cX5_near 10 = .ok (.iload_n 2, 1) := by decide +kernel
theorem dX5_near_11 : decode cX5_near 11 = .ok (.invokevirtual 105, 3) := by decide +kernel
theorem dX5_near_14 : decode cX5_near 14 = .ok (.ifCond .eq 7, 3) := by decide +kernel
theorem dX5_near_17 : decode cX5_near 17 = .ok (.iconst 0, 1) := by decide +kernel
theorem dX5_near_18 : decode cX5_near 18 = .ok (.goto 4, 3) := by decide +kernel
theorem dX5_near_21 : decode cX5_near 21 = .ok (.iconst 1, 1) := by decide +kernel
theorem dX5_near_22 : decode cX5_near 22 = .ok (.putfield 58, 3) := by decide +kernel
theorem dX5_near_25 : decode cX5_near 25 = .ok (.aload_n 0, 1) := by decide +kernel
theorem dX5_near_26 : decode cX5_near 26 = .ok (.getfield 58, 3) := by decide +kernel
theorem dX5_near_29 : decode cX5_near 29 = .ok (.ifCond .le 5, 3) := by decide +kernel
theorem dX5_near_32 : decode cX5_near 32 = .ok (.iconst 0, 1) := by decide +kernel
theorem dX5_near_33 : decode cX5_near 33 = .ok (.ireturn, 1) := by decide +kernel
theorem dX5_near_34 : decode cX5_near 34 = .ok (.aload_n 0, 1) := by decide +kernel
theorem dX5_near_35 : decode cX5_near 35 = .ok (.iload_n 1, 1) := by decide +kernel
theorem dX5_near_36 : decode cX5_near 36 = .ok (.iconst 0, 1) := by decide +kernel
theorem dX5_near_37 : decode cX5_near 37 = .ok (.iconst (-1), 1) := by decide +kernel
theorem dX5_near_38 : decode cX5_near 38 = .ok (.iconst (-1), 1) := by decide +kernel
theorem dX5_near_39 : decode cX5_near 39 = .ok (.invokevirtual 279, 3) := by decide +kernel
theorem dX5_near_42 : decode cX5_near 42 = .ok (.aload_n 0, 1) := by decide +kernel
theorem dX5_near_43 : decode cX5_near 43 = .ok (.getfield 39, 3) := by decide +kernel
theorem dX5_near_46 : decode cX5_near 46 = .ok (.iload_n 2, 1) := by decide +kernel
theorem dX5_near_47 : decode cX5_near 47 = .ok (.iaload, 1) := by decide +kernel
theorem dX5_near_48 : decode cX5_near 48 = .ok (.ireturn, 1) := by decide +kernel
theorem dX5_triesLift_0 : decode cX5_triesLift 0 = .ok (.iconst 0, 1) := by decide +kernel
theorem dX5_triesLift_1 : decode cX5_triesLift 1 = .ok (.istore_n 2, 1) := by decide +kernel
theorem dX5_triesLift_2 : decode cX5_triesLift 2 = .ok (.iload_n 2, 1) := by decide +kernel
theorem dX5_triesLift_3 : decode cX5_triesLift 3 = .ok (.sipush 4341, 3) := by decide +kernel
theorem dX5_triesLift_6 : decode cX5_triesLift 6 = .ok (.if_icmp .ge 21, 3) := by decide +kernel
theorem dX5_triesLift_9 : decode cX5_triesLift 9 = .ok (.aload_n 0, 1) := by decide +kernel
theorem dX5_triesLift_10 : decode cX5_triesLift 10 = .ok (.getfield 16, 3) := by decide +kernel
theorem dX5_triesLift_13 : decode cX5_triesLift 13 = .ok (.iload_n 2, 1) := by decide +kernel
theorem dX5_triesLift_14 : decode cX5_triesLift 14 = .ok (.aload_n 0, 1) := by decide +kernel
theorem dX5_triesLift_15 : decode cX5_triesLift 15 = .ok (.getfield 7, 3) := by decide +kernel
theorem dX5_triesLift_18 : decode cX5_triesLift 18 = .ok (.iload_n 2, 1) := by decide +kernel
theorem dX5_triesLift_19 : decode cX5_triesLift 19 = .ok (.iaload, 1) := by decide +kernel
theorem dX5_triesLift_20 : decode cX5_triesLift 20 = .ok (.iastore, 1) := by decide +kernel
theorem dX5_triesLift_21 : decode cX5_triesLift 21 = .ok (.iinc 2 1, 3) := by decide +kernel
theorem dX5_triesLift_24 : decode cX5_triesLift 24 = .ok (.goto (-22), 3) := by decide +kernel
theorem dX5_triesLift_27 : decode cX5_triesLift 27 = .ok (.aload_n 0, 1) := by decide +kernel
theorem dX5_triesLift_28 : decode cX5_triesLift 28 = .ok (.iload_n 1, 1) := by decide +kernel
theorem dX5_triesLift_29 : decode cX5_triesLift 29 = .ok (.invokevirtual 163, 3) := by decide +kernel
theorem dX5_triesLift_32 : decode cX5_triesLift 32 = .ok (.istore_n 2, 1) := by decide +kernel
theorem dX5_triesLift_33 : decode cX5_triesLift 33 = .ok (.aload_n 0, 1) := by decide +kernel
theorem dX5_triesLift_34 : decode cX5_triesLift 34 = .ok (.aload_n 0, 1) := by decide +kernel
theorem dX5_triesLift_35 : decode cX5_triesLift 35 = .ok (.getfield 7, 3) := by decide +kernel

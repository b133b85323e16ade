theorem dX3_init_0 : decode cX3_init 0 = .ok (.aload_n 0, 1) := by decide +kernel
theorem dX3_init_1 : decode cX3_init 1 = .ok (.invokespecial 3, 3) := by decide +kernel
theorem dX3_init_4 : decode cX3_init 4 = .ok (.aload_n 0, 1) := by decide +kernel
theorem dX3_init_5 : decode cX3_init 5 = .ok (.sipush 400, 3) := by decide +kernel
theorem dX3_init_8 : decode cX3_init 8 = .ok (.newarray .int, 2) := by decide +kernel
theorem dX3_init_10 : decode cX3_init 10 = .ok (.putfield 9, 3) := by decide +kernel
theorem dX3_init_13 : decode cX3_init 13 = .ok (.aload_n 0, 1) := by decide +kernel
theorem dX3_init_14 : decode cX3_init 14 = .ok (.sipush 201, 3) := by decide +kernel
theorem dX3_init_17 : decode cX3_init 17 = .ok (.newarray .int, 2) := by decide +kernel
theorem dX3_init_19 : decode cX3_init 19 = .ok (.putfield 15, 3) := by decide +kernel
theorem dX3_init_22 : decode cX3_init 22 = .ok (.aload_n 0, 1) := by decide +kernel
theorem dX3_init_23 : decode cX3_init 23 = .ok (.iconst 0, 1) := by decide +kernel
theorem dX3_init_24 : decode cX3_init 24 = .ok (.putfield 18, 3) := by decide +kernel
theorem dX3_init_27 : decode cX3_init 27 = .ok (.aload_n 0, 1) := by decide +kernel
theorem dX3_init_28 : decode cX3_init 28 = .ok (.iconst 0, 1) := by decide +kernel
theorem dX3_init_29 : decode cX3_init 29 = .ok (.putfield 22, 3) := by decide +kernel
theorem dX3_init_32 : decode cX3_init 32 = .ok (.aload_n 0, 1) := by decide +kernel
theorem dX3_init_33 : decode cX3_init 33 = .ok (.iconst (-1), 1) := by decide +kernel
theorem dX3_init_34 : decode cX3_init 34 = .ok (.putfield 25, 3) := by decide +kernel
theorem dX3_init_37 : decode cX3_init 37 = .ok (.aload_n 0, 1) := by decide +kernel
theorem dX3_init_38 : decode cX3_init 38 = .ok (.iconst (-1), 1) := by decide +kernel
theorem dX3_init_39 : decode cX3_init 39 = .ok (.putfield 28, 3) := by decide +kernel
theorem dX3_init_42 : decode cX3_init 42 = .ok (.aload_n 0, 1) := by decide +kernel
theorem dX3_init_43 : decode cX3_init 43 = .ok (.iconst 0, 1) := by decide +kernel
theorem dX3_init_44 : decode cX3_init 44 = .ok (.putfield 31, 3) := by decide +kernel
theorem dX3_init_47 : decode cX3_init 47 = .ok (.aload_n 0, 1) := by decide +kernel
theorem dX3_init_48 : decode cX3_init 48 = .ok (.iconst 0, 1) := by decide +kernel
theorem dX3_init_49 : decode cX3_init 49 = .ok (.putfield 34, 3) := by decide +kernel
theorem dX3_init_52 : decode cX3_init 52 = .ok (.return_, 1) := by decide +kernel
theorem dX3_addBytes_0 : decode cX3_addBytes 0 = .ok (.bipush 24, 2) := by decide +kernel
theorem dX3_addBytes_2 : decode cX3_addBytes 2 = .ok (.istore_n 2, 1) := by decide +kernel
theorem dX3_addBytes_3 : decode cX3_addBytes 3 = .ok (.iload_n 2, 1) := by decide +kernel
theorem dX3_addBytes_4 : decode cX3_addBytes 4 = .ok (.ifCond .lt 45, 3) := by decide +kernel
theorem dX3_addBytes_7 : decode cX3_addBytes 7 = .ok (.aload_n 0, 1) := by decide +kernel
theorem dX3_addBytes_8 : decode cX3_addBytes 8 = .ok (.getfield 18, 3) := by decide +kernel
theorem dX3_addBytes_11 : decode cX3_addBytes 11 = .ok (.sipush 400, 3) := by decide +kernel
theorem dX3_addBytes_14 : decode cX3_addBytes 14 = .ok (.if_icmp .ge 35, 3) := by decide +kernel
theorem dX3_addBytes_17 : decode cX3_addBytes 17 = .ok (.aload_n 0, 1) := by decide +kernel
theorem dX3_addBytes_18 : decode cX3_addBytes 18 = .ok (.getfield 9, 3) := by decide +kernel
theorem dX3_addBytes_21 : decode cX3_addBytes 21 = .ok (.aload_n 0, 1) := by decide +kernel
theorem dX3_addBytes_22 : decode cX3_addBytes 22 = .ok (.getfield 18, 3) := by decide +kernel
theorem dX3_addBytes_25 : decode cX3_addBytes 25 = .ok (.iload_n 1, 1) := by decide +kernel
theorem dX3_addBytes_26 : decode cX3_addBytes 26 = .ok (.iload_n 2, 1) := by decide +kernel
theorem dX3_addBytes_27 : decode cX3_addBytes 27 = .ok (.ishr, 1) := by decide +kernel
theorem dX3_addBytes_28 : decode cX3_addBytes 28 = .ok (.sipush 255, 3) := by decide +kernel
theorem dX3_addBytes_31 : decode cX3_addBytes 31 = .ok (.iand, 1) := by decide +kernel
theorem dX3_addBytes_32 : decode cX3_addBytes 32 = .ok (.iastore, 1) := by decide +kernel
theorem dX3_addBytes_33 : decode cX3_addBytes 33 = .ok (.aload_n 0, 1) := by decide +kernel
theorem dX3_addBytes_34 : decode cX3_addBytes 34 = .ok (.dup, 1) := by decide +kernel
theorem dX3_addBytes_35 : decode cX3_addBytes 35 = .ok (.getfield 18, 3) := by decide +kernel
theorem dX3_addBytes_38 : decode cX3_addBytes 38 = .ok (.iconst 1, 1) := by decide +kernel
theorem dX3_addBytes_39 : decode cX3_addBytes 39 = .ok (.iadd, 1) := by decide +kernel
theorem dX3_addBytes_40 : decode cX3_addBytes 40 = .ok (.putfield 18, 3) := by decide +kernel
theorem dX3_addBytes_43 : decode cX3_addBytes 43 = .ok (.iinc 2 (-8), 3) := by decide +kernel
theorem dX3_addBytes_46 : decode cX3_addBytes 46 = .ok (.goto (-43), 3) := by decide +kernel
theorem dX3_addBytes_49 : decode cX3_addBytes 49 = .ok (.return_, 1) := by decide +kernel
theorem dX3_rewind_0 : decode cX3_rewind 0 = .ok (.aload_n 0, 1) := by decide +kernel
theorem dX3_rewind_1 : decode cX3_rewind 1 = .ok (.iconst 0, 1) := by decide +kernel
theorem dX3_rewind_2 : decode cX3_rewind 2 = .ok (.putfield 22, 3) := by decide +kernel
theorem dX3_rewind_5 : decode cX3_rewind 5 = .ok (.aload_n 0, 1) := by decide +kernel
theorem dX3_rewind_6 : decode cX3_rewind 6 = .ok (.iconst (-1), 1) := by decide +kernel
theorem dX3_rewind_7 : decode cX3_rewind 7 = .ok (.putfield 25, 3) := by decide +kernel
theorem dX3_rewind_10 : decode cX3_rewind 10 = .ok (.aload_n 0, 1) := by decide +kernel
theorem dX3_rewind_11 : decode cX3_rewind 11 = .ok (.invokevirtual 37, 3) := by decide +kernel
theorem dX3_rewind_14 : decode cX3_rewind 14 = .ok (.return_, 1) := by decide +kernel
theorem dX3_atEnd_0 : decode cX3_atEnd 0 = .ok (.aload_n 0, 1) := by decide +kernel
theorem dX3_atEnd_1 : decode cX3_atEnd 1 = .ok (.getfield 22, 3) := by decide +kernel
theorem dX3_atEnd_4 : decode cX3_atEnd 4 = .ok (.aload_n 0, 1) := by decide +kernel
theorem dX3_atEnd_5 : decode cX3_atEnd 5 = .ok (.getfield 18, 3) := by decide +kernel
theorem dX3_atEnd_8 : decode cX3_atEnd 8 = .ok (.if_icmp .lt 7, 3) := by decide +kernel
theorem dX3_atEnd_11 : decode cX3_atEnd 11 = .ok (.iconst 1, 1) := by decide +kernel
theorem dX3_atEnd_12 : decode cX3_atEnd 12 = .ok (.goto 4, 3) := by decide +kernel
theorem dX3_atEnd_15 : decode cX3_atEnd 15 = .ok (.iconst 0, 1) := by decide +kernel
theorem dX3_atEnd_16 : decode cX3_atEnd 16 = .ok (.ireturn, 1) := by decide +kernel
theorem dX3_numberOf_0 : decode cX3_numberOf 0 = .ok (.aload_n 0, 1) := by decide +kernel
theorem dX3_numberOf_1 : decode cX3_numberOf 1 = .ok (.invokevirtual 40, 3) := by decide +kernel
theorem dX3_numberOf_4 : decode cX3_numberOf 4 = .ok (.istore_n 3, 1) := by decide +kernel
theorem dX3_numberOf_5 : decode cX3_numberOf 5 = .ok (.iload_n 1, 1) := by decide +kernel
theorem dX3_numberOf_6 : decode cX3_numberOf 6 = .ok (.iload_n 3, 1) := by decide +kernel
theorem dX3_numberOf_7 : decode cX3_numberOf 7 = .ok (.imul, 1) := by decide +kernel
theorem dX3_numberOf_8 : decode cX3_numberOf 8 = .ok (.iload_n 2, 1) := by decide +kernel
theorem dX3_numberOf_9 : decode cX3_numberOf 9 = .ok (.iadd, 1) := by decide +kernel
theorem dX3_numberOf_10 : decode cX3_numberOf 10 = .ok (.istore 4, 2) := by decide +kernel
theorem dX3_numberOf_12 : decode cX3_numberOf 12 = .ok (.iload_n 2, 1) := by decide +kernel
theorem dX3_numberOf_13 : decode cX3_numberOf 13 = .ok (.iload_n 3, 1) := by decide +kernel
theorem dX3_numberOf_14 : decode cX3_numberOf 14 = .ok (.if_icmp .ge 27, 3) := by decide +kernel
theorem dX3_numberOf_17 : decode cX3_numberOf 17 = .ok (.iload 4, 2) := by decide +kernel
theorem dX3_numberOf_19 : decode cX3_numberOf 19 = .ok (.ifCond .lt 22, 3) := by decide +kernel
theorem dX3_numberOf_22 : decode cX3_numberOf 22 = .ok (.iload 4, 2) := by decide +kernel
theorem dX3_numberOf_24 : decode cX3_numberOf 24 = .ok (.aload_n 0, 1) := by decide +kernel
theorem dX3_numberOf_25 : decode cX3_numberOf 25 = .ok (.getfield 31, 3) := by decide +kernel
theorem dX3_numberOf_28 : decode cX3_numberOf 28 = .ok (.if_icmp .ge 13, 3) := by decide +kernel
theorem dX3_numberOf_31 : decode cX3_numberOf 31 = .ok (.aload_n 0, 1) := by decide +kernel
theorem dX3_numberOf_32 : decode cX3_numberOf 32 = .ok (.getfield 15, 3) := by decide +kernel
theorem dX3_numberOf_35 : decode cX3_numberOf 35 = .ok (.iload 4, 2) := by decide +kernel
theorem dX3_numberOf_37 : decode cX3_numberOf 37 = .ok (.iaload, 1) := by decide +kernel
theorem dX3_numberOf_38 : decode cX3_numberOf 38 = .ok (.goto 4, 3) := by decide +kernel
theorem dX3_numberOf_41 : decode cX3_numberOf 41 = .ok (.iconst 0, 1) := by decide +kernel
theorem dX3_numberOf_42 : decode cX3_numberOf 42 = .ok (.ireturn, 1) := by decide +kernel
theorem dX3_readAct_0 : decode cX3_readAct 0 = .ok (.aload_n 0, 1) := by decide +kernel
theorem dX3_readAct_1 : decode cX3_readAct 1 = .ok (.iconst 0, 1) := by decide +kernel
theorem dX3_readAct_2 : decode cX3_readAct 2 = .ok (.putfield 31, 3) := by decide +kernel
theorem dX3_readAct_5 : decode cX3_readAct 5 = .ok (.aload_n 0, 1) := by decide +kernel
theorem dX3_readAct_6 : decode cX3_readAct 6 = .ok (.iconst 0, 1) := by decide +kernel
theorem dX3_readAct_7 : decode cX3_readAct 7 = .ok (.putfield 34, 3) := by decide +kernel
theorem dX3_readAct_10 : decode cX3_readAct 10 = .ok (.aload_n 0, 1) := by decide +kernel
theorem dX3_readAct_11 : decode cX3_readAct 11 = .ok (.aload_n 0, 1) := by decide +kernel
theorem dX3_readAct_12 : decode cX3_readAct 12 = .ok (.invokevirtual 44, 3) := by decide +kernel
theorem dX3_readAct_15 : decode cX3_readAct 15 = .ok (.putfield 28, 3) := by decide +kernel
theorem dX3_readAct_18 : decode cX3_readAct 18 = .ok (.aload_n 0, 1) := by decide +kernel
theorem dX3_readAct_19 : decode cX3_readAct 19 = .ok (.getfield 28, 3) := by decide +kernel
theorem dX3_readAct_22 : decode cX3_readAct 22 = .ok (.iconst (-1), 1) := by decide +kernel
theorem dX3_readAct_23 : decode cX3_readAct 23 = .ok (.if_icmp .ne 5, 3) := by decide +kernel
theorem dX3_readAct_26 : decode cX3_readAct 26 = .ok (.iconst 0, 1) := by decide +kernel
theorem dX3_readAct_27 : decode cX3_readAct 27 = .ok (.ireturn, 1) := by decide +kernel
theorem dX3_readAct_28 : decode cX3_readAct 28 = .ok (.aload_n 0, 1) := by decide +kernel
theorem dX3_readAct_29 : decode cX3_readAct 29 = .ok (.getfield 28, 3) := by decide +kernel
theorem dX3_readAct_32 : decode cX3_readAct 32 = .ok (.iconst 1, 1) := by decide +kernel
theorem dX3_readAct_33 : decode cX3_readAct 33 = .ok (.if_icmp .eq 11, 3) := by decide +kernel
theorem dX3_readAct_36 : decode cX3_readAct 36 = .ok (.aload_n 0, 1) := by decide +kernel
theorem dX3_readAct_37 : decode cX3_readAct 37 = .ok (.getfield 28, 3) := by decide +kernel
theorem dX3_readAct_40 : decode cX3_readAct 40 = .ok (.iconst 2, 1) := by decide +kernel
theorem dX3_readAct_41 : decode cX3_readAct 41 = .ok (.if_icmp .ne 7, 3) := by decide +kernel
theorem dX3_readAct_44 : decode cX3_readAct 44 = .ok (.iconst 1, 1) := by decide +kernel
theorem dX3_readAct_45 : decode cX3_readAct 45 = .ok (.goto 4, 3) := by decide +kernel
theorem dX3_readAct_48 : decode cX3_readAct 48 = .ok (.iconst 0, 1) := by decide +kernel
theorem dX3_readAct_49 : decode cX3_readAct 49 = .ok (.istore_n 1, 1) := by decide +kernel
theorem dX3_readAct_50 : decode cX3_readAct 50 = .ok (.aload_n 0, 1) := by decide +kernel
theorem dX3_readAct_51 : decode cX3_readAct 51 = .ok (.invokevirtual 40, 3) := by decide +kernel
theorem dX3_readAct_54 : decode cX3_readAct 54 = .ok (.istore_n 2, 1) := by decide +kernel
theorem dX3_readAct_55 : decode cX3_readAct 55 = .ok (.iconst 0, 1) := by decide +kernel
theorem dX3_readAct_56 : decode cX3_readAct 56 = .ok (.istore_n 3, 1) := by decide +kernel
theorem dX3_readAct_57 : decode cX3_readAct 57 = .ok (.iload_n 3, 1) := by decide +kernel
theorem dX3_readAct_58 : decode cX3_readAct 58 = .ok (.sipush 201, 3) := by decide +kernel
theorem dX3_readAct_61 : decode cX3_readAct 61 = .ok (.if_icmp .ge 60, 3) := by decide +kernel
theorem dX3_readAct_64 : decode cX3_readAct 64 = .ok (.iconst 0, 1) := by decide +kernel
theorem dX3_readAct_65 : decode cX3_readAct 65 = .ok (.istore 4, 2) := by decide +kernel
theorem dX3_readAct_67 : decode cX3_readAct 67 = .ok (.iload 4, 2) := by decide +kernel
theorem dX3_readAct_69 : decode cX3_readAct 69 = .ok (.iload_n 2, 1) := by decide +kernel
theorem dX3_readAct_70 : decode cX3_readAct 70 = .ok (.if_icmp .ge 20, 3) := by decide +kernel
theorem dX3_readAct_73 : decode cX3_readAct 73 = .ok (.aload_n 0, 1) := by decide +kernel
theorem dX3_readAct_74 : decode cX3_readAct 74 = .ok (.iload 4, 2) := by decide +kernel
theorem dX3_readAct_76 : decode cX3_readAct 76 = .ok (.invokevirtual 47, 3) := by decide +kernel
theorem dX3_readAct_79 : decode cX3_readAct 79 = .ok (.ifCond .ne 5, 3) := by decide +kernel
theorem dX3_readAct_82 : decode cX3_readAct 82 = .ok (.iconst 0, 1) := by decide +kernel
theorem dX3_readAct_83 : decode cX3_readAct 83 = .ok (.ireturn, 1) := by decide +kernel
theorem dX3_readAct_84 : decode cX3_readAct 84 = .ok (.iinc 4 1, 3) := by decide +kernel
theorem dX3_readAct_87 : decode cX3_readAct 87 = .ok (.goto (-20), 3) := by decide +kernel
theorem dX3_readAct_90 : decode cX3_readAct 90 = .ok (.aload_n 0, 1) := by decide +kernel
theorem dX3_readAct_91 : decode cX3_readAct 91 = .ok (.dup, 1) := by decide +kernel
theorem dX3_readAct_92 : decode cX3_readAct 92 = .ok (.getfield 34, 3) := by decide +kernel
theorem dX3_readAct_95 : decode cX3_readAct 95 = .ok (.iconst 1, 1) := by decide +kernel
theorem dX3_readAct_96 : decode cX3_readAct 96 = .ok (.iadd, 1) := by decide +kernel
theorem dX3_readAct_97 : decode cX3_readAct 97 = .ok (.putfield 34, 3) := by decide +kernel
theorem dX3_readAct_100 : decode cX3_readAct 100 = .ok (.iload_n 1, 1) := by decide +kernel
theorem dX3_readAct_101 : decode cX3_readAct 101 = .ok (.ifCond .eq 12, 3) := by decide +kernel
theorem dX3_readAct_104 : decode cX3_readAct 104 = .ok (.aload_n 0, 1) := by decide +kernel
theorem dX3_readAct_105 : decode cX3_readAct 105 = .ok (.bipush 44, 2) := by decide +kernel
theorem dX3_readAct_107 : decode cX3_readAct 107 = .ok (.invokevirtual 51, 3) := by decide +kernel
theorem dX3_readAct_110 : decode cX3_readAct 110 = .ok (.ifCond .ne 5, 3) := by decide +kernel
theorem dX3_readAct_113 : decode cX3_readAct 113 = .ok (.iconst 1, 1) := by decide +kernel
theorem dX3_readAct_114 : decode cX3_readAct 114 = .ok (.ireturn, 1) := by decide +kernel
theorem dX3_readAct_115 : decode cX3_readAct 115 = .ok (.iinc 3 1, 3) := by decide +kernel
theorem dX3_readAct_118 : decode cX3_readAct 118 = .ok (.goto (-61), 3) := by decide +kernel
theorem dX3_readAct_121 : decode cX3_readAct 121 = .ok (.iconst 1, 1) := by decide +kernel
theorem dX3_readAct_122 : decode cX3_readAct 122 = .ok (.ireturn, 1) := by decide +kernel
theorem dX3_readNext_0 : decode cX3_readNext 0 = .ok (.aload_n 0, 1) := by decide +kernel
theorem dX3_readNext_1 : decode cX3_readNext 1 = .ok (.invokevirtual 55, 3) := by decide +kernel
theorem dX3_readNext_4 : decode cX3_readNext 4 = .ok (.ifCond .eq 5, 3) := by decide +kernel
theorem dX3_readNext_7 : decode cX3_readNext 7 = .ok (.iconst 0, 1) := by decide +kernel
theorem dX3_readNext_8 : decode cX3_readNext 8 = .ok (.ireturn, 1) := by decide +kernel
theorem dX3_readNext_9 : decode cX3_readNext 9 = .ok (.aload_n 0, 1) := by decide +kernel
theorem dX3_readNext_10 : decode cX3_readNext 10 = .ok (.bipush 59, 2) := by decide +kernel
theorem dX3_readNext_12 : decode cX3_readNext 12 = .ok (.invokevirtual 51, 3) := by decide +kernel
theorem dX3_readNext_15 : decode cX3_readNext 15 = .ok (.ifCond .ne 13, 3) := by decide +kernel
theorem dX3_readNext_18 : decode cX3_readNext 18 = .ok (.aload_n 0, 1) := by decide +kernel
theorem dX3_readNext_19 : decode cX3_readNext 19 = .ok (.aload_n 0, 1) := by decide +kernel
theorem dX3_readNext_20 : decode cX3_readNext 20 = .ok (.getfield 22, 3) := by decide +kernel
theorem dX3_readNext_23 : decode cX3_readNext 23 = .ok (.putfield 25, 3) := by decide +kernel
theorem dX3_readNext_26 : decode cX3_readNext 26 = .ok (.iconst 0, 1) := by decide +kernel
theorem dX3_readNext_27 : decode cX3_readNext 27 = .ok (.ireturn, 1) := by decide +kernel
theorem dX3_readNext_28 : decode cX3_readNext 28 = .ok (.iconst 1, 1) := by decide +kernel
theorem dX3_readNext_29 : decode cX3_readNext 29 = .ok (.ireturn, 1) := by decide +kernel
theorem dX3_skipBlanks_0 : decode cX3_skipBlanks 0 = .ok (.aload_n 0, 1) := by decide +kernel
theorem dX3_skipBlanks_1 : decode cX3_skipBlanks 1 = .ok (.getfield 22, 3) := by decide +kernel
theorem dX3_skipBlanks_4 : decode cX3_skipBlanks 4 = .ok (.aload_n 0, 1) := by decide +kernel
theorem dX3_skipBlanks_5 : decode cX3_skipBlanks 5 = .ok (.getfield 18, 3) := by decide +kernel
theorem dX3_skipBlanks_8 : decode cX3_skipBlanks 8 = .ok (.if_icmp .ge 30, 3) := by decide +kernel
theorem dX3_skipBlanks_11 : decode cX3_skipBlanks 11 = .ok (.aload_n 0, 1) := by decide +kernel
theorem dX3_skipBlanks_12 : decode cX3_skipBlanks 12 = .ok (.getfield 9, 3) := by decide +kernel
theorem dX3_skipBlanks_15 : decode cX3_skipBlanks 15 = .ok (.aload_n 0, 1) := by decide +kernel
theorem dX3_skipBlanks_16 : decode cX3_skipBlanks 16 = .ok (.getfield 22, 3) := by decide +kernel
theorem dX3_skipBlanks_19 : decode cX3_skipBlanks 19 = .ok (.iaload, 1) := by decide +kernel
theorem dX3_skipBlanks_20 : decode cX3_skipBlanks 20 = .ok (.bipush 32, 2) := by decide +kernel
theorem dX3_skipBlanks_22 : decode cX3_skipBlanks 22 = .ok (.if_icmp .ne 16, 3) := by decide +kernel
theorem dX3_skipBlanks_25 : decode cX3_skipBlanks 25 = .ok (.aload_n 0, 1) := by decide +kernel
theorem dX3_skipBlanks_26 : decode cX3_skipBlanks 26 = .ok (.dup, 1) := by decide +kernel
theorem dX3_skipBlanks_27 : decode cX3_skipBlanks 27 = .ok (.getfield 22, 3) := by decide +kernel
theorem dX3_skipBlanks_30 : decode cX3_skipBlanks 30 = .ok (.iconst 1, 1) := by decide +kernel
theorem dX3_skipBlanks_31 : decode cX3_skipBlanks 31 = .ok (.iadd, 1) := by decide +kernel
theorem dX3_skipBlanks_32 : decode cX3_skipBlanks 32 = .ok (.putfield 22, 3) := by decide +kernel
theorem dX3_skipBlanks_35 : decode cX3_skipBlanks 35 = .ok (.goto (-35), 3) := by decide +kernel
theorem dX3_skipBlanks_38 : decode cX3_skipBlanks 38 = .ok (.return_, 1) := by decide +kernel
theorem dX3_takeSign_0 : decode cX3_takeSign 0 = .ok (.aload_n 0, 1) := by decide +kernel
theorem dX3_takeSign_1 : decode cX3_takeSign 1 = .ok (.getfield 22, 3) := by decide +kernel
theorem dX3_takeSign_4 : decode cX3_takeSign 4 = .ok (.aload_n 0, 1) := by decide +kernel
theorem dX3_takeSign_5 : decode cX3_takeSign 5 = .ok (.getfield 18, 3) := by decide +kernel
theorem dX3_takeSign_8 : decode cX3_takeSign 8 = .ok (.if_icmp .ge 16, 3) := by decide +kernel
theorem dX3_takeSign_11 : decode cX3_takeSign 11 = .ok (.aload_n 0, 1) := by decide +kernel
theorem dX3_takeSign_12 : decode cX3_takeSign 12 = .ok (.getfield 9, 3) := by decide +kernel
theorem dX3_takeSign_15 : decode cX3_takeSign 15 = .ok (.aload_n 0, 1) := by decide +kernel
theorem dX3_takeSign_16 : decode cX3_takeSign 16 = .ok (.getfield 22, 3) := by decide +kernel
theorem dX3_takeSign_19 : decode cX3_takeSign 19 = .ok (.iaload, 1) := by decide +kernel
theorem dX3_takeSign_20 : decode cX3_takeSign 20 = .ok (.iload_n 1, 1) := by decide +kernel
theorem dX3_takeSign_21 : decode cX3_takeSign 21 = .ok (.if_icmp .eq 5, 3) := by decide +kernel
theorem dX3_takeSign_24 : decode cX3_takeSign 24 = .ok (.iconst 0, 1) := by decide +kernel
theorem dX3_takeSign_25 : decode cX3_takeSign 25 = .ok (.ireturn, 1) := by decide +kernel
theorem dX3_takeSign_26 : decode cX3_takeSign 26 = .ok (.aload_n 0, 1) := by decide +kernel
theorem dX3_takeSign_27 : decode cX3_takeSign 27 = .ok (.dup, 1) := by decide +kernel
theorem dX3_takeSign_28 : decode cX3_takeSign 28 = .ok (.getfield 22, 3) := by decide +kernel
theorem dX3_takeSign_31 : decode cX3_takeSign 31 = .ok (.iconst 1, 1) := by decide +kernel
theorem dX3_takeSign_32 : decode cX3_takeSign 32 = .ok (.iadd, 1) := by decide +kernel
theorem dX3_takeSign_33 : decode cX3_takeSign 33 = .ok (.putfield 22, 3) := by decide +kernel
theorem dX3_takeSign_36 : decode cX3_takeSign 36 = .ok (.aload_n 0, 1) := by decide +kernel
theorem dX3_takeSign_37 : decode cX3_takeSign 37 = .ok (.invokevirtual 37, 3) := by decide +kernel
theorem dX3_takeSign_40 : decode cX3_takeSign 40 = .ok (.iconst 1, 1) := by decide +kernel
theorem dX3_takeSign_41 : decode cX3_takeSign 41 = .ok (.ireturn, 1) := by decide +kernel
theorem dX3_readWord_0 : decode cX3_readWord 0 = .ok (.aload_n 0, 1) := by decide +kernel
theorem dX3_readWord_1 : decode cX3_readWord 1 = .ok (.getfield 22, 3) := by decide +kernel
theorem dX3_readWord_4 : decode cX3_readWord 4 = .ok (.istore_n 1, 1) := by decide +kernel
theorem dX3_readWord_5 : decode cX3_readWord 5 = .ok (.aload_n 0, 1) := by decide +kernel
theorem dX3_readWord_6 : decode cX3_readWord 6 = .ok (.getfield 22, 3) := by decide +kernel
theorem dX3_readWord_9 : decode cX3_readWord 9 = .ok (.aload_n 0, 1) := by decide +kernel
theorem dX3_readWord_10 : decode cX3_readWord 10 = .ok (.getfield 18, 3) := by decide +kernel
theorem dX3_readWord_13 : decode cX3_readWord 13 = .ok (.if_icmp .ge 44, 3) := by decide +kernel
theorem dX3_readWord_16 : decode cX3_readWord 16 = .ok (.aload_n 0, 1) := by decide +kernel
theorem dX3_readWord_17 : decode cX3_readWord 17 = .ok (.getfield 9, 3) := by decide +kernel
theorem dX3_readWord_20 : decode cX3_readWord 20 = .ok (.aload_n 0, 1) := by decide +kernel
theorem dX3_readWord_21 : decode cX3_readWord 21 = .ok (.getfield 22, 3) := by decide +kernel
theorem dX3_readWord_24 : decode cX3_readWord 24 = .ok (.iaload, 1) := by decide +kernel
theorem dX3_readWord_25 : decode cX3_readWord 25 = .ok (.bipush 97, 2) := by decide +kernel
theorem dX3_readWord_27 : decode cX3_readWord 27 = .ok (.if_icmp .lt 30, 3) := by decide +kernel
theorem dX3_readWord_30 : decode cX3_readWord 30 = .ok (.aload_n 0, 1) := by decide +kernel
theorem dX3_readWord_31 : decode cX3_readWord 31 = .ok (.getfield 9, 3) := by decide +kernel
theorem dX3_readWord_34 : decode cX3_readWord 34 = .ok (.aload_n 0, 1) := by decide +kernel
theorem dX3_readWord_35 : decode cX3_readWord 35 = .ok (.getfield 22, 3) := by decide +kernel
theorem dX3_readWord_38 : decode cX3_readWord 38 = .ok (.iaload, 1) := by decide +kernel
theorem dX3_readWord_39 : decode cX3_readWord 39 = .ok (.bipush 122, 2) := by decide +kernel
theorem dX3_readWord_41 : decode cX3_readWord 41 = .ok (.if_icmp .gt 16, 3) := by decide +kernel
theorem dX3_readWord_44 : decode cX3_readWord 44 = .ok (.aload_n 0, 1) := by decide +kernel
theorem dX3_readWord_45 : decode cX3_readWord 45 = .ok (.dup, 1) := by decide +kernel
theorem dX3_readWord_46 : decode cX3_readWord 46 = .ok (.getfield 22, 3) := by decide +kernel
theorem dX3_readWord_49 : decode cX3_readWord 49 = .ok (.iconst 1, 1) := by decide +kernel
theorem dX3_readWord_50 : decode cX3_readWord 50 = .ok (.iadd, 1) := by decide +kernel
theorem dX3_readWord_51 : decode cX3_readWord 51 = .ok (.putfield 22, 3) := by decide +kernel
theorem dX3_readWord_54 : decode cX3_readWord 54 = .ok (.goto (-49), 3) := by decide +kernel
theorem dX3_readWord_57 : decode cX3_readWord 57 = .ok (.iconst 0, 1) := by decide +kernel
theorem dX3_readWord_58 : decode cX3_readWord 58 = .ok (.istore_n 2, 1) := by decide +kernel
theorem dX3_readWord_59 : decode cX3_readWord 59 = .ok (.iload_n 2, 1) := by decide +kernel
theorem dX3_readWord_60 : decode cX3_readWord 60 = .ok (.bipush 7, 2) := by decide +kernel
theorem dX3_readWord_62 : decode cX3_readWord 62 = .ok (.if_icmp .ge 32, 3) := by decide +kernel
theorem dX3_readWord_65 : decode cX3_readWord 65 = .ok (.aload_n 0, 1) := by decide +kernel
theorem dX3_readWord_66 : decode cX3_readWord 66 = .ok (.aload_n 0, 1) := by decide +kernel
theorem dX3_readWord_67 : decode cX3_readWord 67 = .ok (.iload_n 2, 1) := by decide +kernel
theorem dX3_readWord_68 : decode cX3_readWord 68 = .ok (.invokevirtual 59, 3) := by decide +kernel
theorem dX3_readWord_71 : decode cX3_readWord 71 = .ok (.iload_n 1, 1) := by decide +kernel
theorem dX3_readWord_72 : decode cX3_readWord 72 = .ok (.aload_n 0, 1) := by decide +kernel
theorem dX3_readWord_73 : decode cX3_readWord 73 = .ok (.getfield 22, 3) := by decide +kernel
theorem dX3_readWord_76 : decode cX3_readWord 76 = .ok (.invokevirtual 63, 3) := by decide +kernel
theorem dX3_readWord_79 : decode cX3_readWord 79 = .ok (.ifCond .eq 9, 3) := by decide +kernel
theorem dX3_readWord_82 : decode cX3_readWord 82 = .ok (.aload_n 0, 1) := by decide +kernel
theorem dX3_readWord_83 : decode cX3_readWord 83 = .ok (.invokevirtual 37, 3) := by decide +kernel
theorem dX3_readWord_86 : decode cX3_readWord 86 = .ok (.iload_n 2, 1) := by decide +kernel
theorem dX3_readWord_87 : decode cX3_readWord 87 = .ok (.ireturn, 1) := by decide +kernel
theorem dX3_readWord_88 : decode cX3_readWord 88 = .ok (.iinc 2 1, 3) := by decide +kernel
theorem dX3_readWord_91 : decode cX3_readWord 91 = .ok (.goto (-32), 3) := by decide +kernel
theorem dX3_readWord_94 : decode cX3_readWord 94 = .ok (.aload_n 0, 1) := by decide +kernel
theorem dX3_readWord_95 : decode cX3_readWord 95 = .ok (.iload_n 1, 1) := by decide +kernel
theorem dX3_readWord_96 : decode cX3_readWord 96 = .ok (.putfield 25, 3) := by decide +kernel
theorem dX3_readWord_99 : decode cX3_readWord 99 = .ok (.iconst (-1), 1) := by decide +kernel
theorem dX3_readWord_100 : decode cX3_readWord 100 = .ok (.ireturn, 1) := by decide +kernel
theorem dX3_wordOf_0 : decode cX3_wordOf 0 = .ok (.iload_n 1, 1) := by decide +kernel
theorem dX3_wordOf_1 : decode cX3_wordOf 1 = .ok (.tableswitch 57 0 5 #[39, 42, 45, 48, 51, 54], 39) := by decide +kernel
theorem dX3_wordOf_40 : decode cX3_wordOf 40 = .ok (.ldc 67, 2) := by decide +kernel
theorem dX3_wordOf_42 : decode cX3_wordOf 42 = .ok (.areturn, 1) := by decide +kernel
theorem dX3_wordOf_43 : decode cX3_wordOf 43 = .ok (.ldc 69, 2) := by decide +kernel
theorem dX3_wordOf_45 : decode cX3_wordOf 45 = .ok (.areturn, 1) := by decide +kernel
theorem dX3_wordOf_46 : decode cX3_wordOf 46 = .ok (.ldc 71, 2) := by decide +kernel
theorem dX3_wordOf_48 : decode cX3_wordOf 48 = .ok (.areturn, 1) := by decide +kernel
theorem dX3_wordOf_49 : decode cX3_wordOf 49 = .ok (.ldc 73, 2) := by decide +kernel
theorem dX3_wordOf_51 : decode cX3_wordOf 51 = .ok (.areturn, 1) := by decide +kernel
theorem dX3_wordOf_52 : decode cX3_wordOf 52 = .ok (.ldc 75, 2) := by decide +kernel
theorem dX3_wordOf_54 : decode cX3_wordOf 54 = .ok (.areturn, 1) := by decide +kernel
theorem dX3_wordOf_55 : decode cX3_wordOf 55 = .ok (.ldc 77, 2) := by decide +kernel
theorem dX3_wordOf_57 : decode cX3_wordOf 57 = .ok (.areturn, 1) := by decide +kernel
theorem dX3_wordOf_58 : decode cX3_wordOf 58 = .ok (.ldc 79, 2) := by decide +kernel
theorem dX3_wordOf_60 : decode cX3_wordOf 60 = .ok (.areturn, 1) := by decide +kernel
theorem dX3_isWord_0 : decode cX3_isWord 0 = .ok (.iload_n 3, 1) := by decide +kernel
theorem dX3_isWord_1 : decode cX3_isWord 1 = .ok (.iload_n 2, 1) := by decide +kernel
theorem dX3_isWord_2 : decode cX3_isWord 2 = .ok (.isub, 1) := by decide +kernel
theorem dX3_isWord_3 : decode cX3_isWord 3 = .ok (.aload_n 1, 1) := by decide +kernel
theorem dX3_isWord_4 : decode cX3_isWord 4 = .ok (.invokevirtual 81, 3) := by decide +kernel
theorem dX3_isWord_7 : decode cX3_isWord 7 = .ok (.if_icmp .eq 5, 3) := by decide +kernel
theorem dX3_isWord_10 : decode cX3_isWord 10 = .ok (.iconst 0, 1) := by decide +kernel
theorem dX3_isWord_11 : decode cX3_isWord 11 = .ok (.ireturn, 1) := by decide +kernel
theorem dX3_isWord_12 : decode cX3_isWord 12 = .ok (.iload_n 2, 1) := by decide +kernel
theorem dX3_isWord_13 : decode cX3_isWord 13 = .ok (.istore 4, 2) := by decide +kernel
theorem dX3_isWord_15 : decode cX3_isWord 15 = .ok (.iload 4, 2) := by decide +kernel
theorem dX3_isWord_17 : decode cX3_isWord 17 = .ok (.iload_n 3, 1) := by decide +kernel
theorem dX3_isWord_18 : decode cX3_isWord 18 = .ok (.if_icmp .ge 29, 3) := by decide +kernel
theorem dX3_isWord_21 : decode cX3_isWord 21 = .ok (.aload_n 0, 1) := by decide +kernel
theorem dX3_isWord_22 : decode cX3_isWord 22 = .ok (.getfield 9, 3) := by decide +kernel
theorem dX3_isWord_25 : decode cX3_isWord 25 = .ok (.iload 4, 2) := by decide +kernel
theorem dX3_isWord_27 : decode cX3_isWord 27 = .ok (.iaload, 1) := by decide +kernel
theorem dX3_isWord_28 : decode cX3_isWord 28 = .ok (.aload_n 1, 1) := by decide +kernel
theorem dX3_isWord_29 : decode cX3_isWord 29 = .ok (.iload 4, 2) := by decide +kernel
theorem dX3_isWord_31 : decode cX3_isWord 31 = .ok (.iload_n 2, 1) := by decide +kernel
theorem dX3_isWord_32 : decode cX3_isWord 32 = .ok (.isub, 1) := by decide +kernel
theorem dX3_isWord_33 : decode cX3_isWord 33 = .ok (.invokevirtual 85, 3) := by decide +kernel
theorem dX3_isWord_36 : decode cX3_isWord 36 = .ok (.if_icmp .eq 5, 3) := by decide +kernel
theorem dX3_isWord_39 : decode cX3_isWord 39 = .ok (.iconst 0, 1) := by decide +kernel
theorem dX3_isWord_40 : decode cX3_isWord 40 = .ok (.ireturn, 1) := by decide +kernel
theorem dX3_isWord_41 : decode cX3_isWord 41 = .ok (.iinc 4 1, 3) := by decide +kernel
theorem dX3_isWord_44 : decode cX3_isWord 44 = .ok (.goto (-29), 3) := by decide +kernel
theorem dX3_isWord_47 : decode cX3_isWord 47 = .ok (.iconst 1, 1) := by decide +kernel
theorem dX3_isWord_48 : decode cX3_isWord 48 = .ok (.ireturn, 1) := by decide +kernel
theorem dX3_readNumber_0 : decode cX3_readNumber 0 = .ok (.aload_n 0, 1) := by decide +kernel
theorem dX3_readNumber_1 : decode cX3_readNumber 1 = .ok (.getfield 22, 3) := by decide +kernel
theorem dX3_readNumber_4 : decode cX3_readNumber 4 = .ok (.istore_n 2, 1) := by decide +kernel
theorem dX3_readNumber_5 : decode cX3_readNumber 5 = .ok (.iconst 0, 1) := by decide +kernel
theorem dX3_readNumber_6 : decode cX3_readNumber 6 = .ok (.istore_n 3, 1) := by decide +kernel
theorem dX3_readNumber_7 : decode cX3_readNumber 7 = .ok (.aload_n 0, 1) := by decide +kernel
theorem dX3_readNumber_8 : decode cX3_readNumber 8 = .ok (.getfield 22, 3) := by decide +kernel
theorem dX3_readNumber_11 : decode cX3_readNumber 11 = .ok (.aload_n 0, 1) := by decide +kernel
theorem dX3_readNumber_12 : decode cX3_readNumber 12 = .ok (.getfield 18, 3) := by decide +kernel
theorem dX3_readNumber_15 : decode cX3_readNumber 15 = .ok (.if_icmp .ge 68, 3) := by decide +kernel
theorem dX3_readNumber_18 : decode cX3_readNumber 18 = .ok (.aload_n 0, 1) := by decide +kernel
theorem dX3_readNumber_19 : decode cX3_readNumber 19 = .ok (.getfield 9, 3) := by decide +kernel
theorem dX3_readNumber_22 : decode cX3_readNumber 22 = .ok (.aload_n 0, 1) := by decide +kernel
theorem dX3_readNumber_23 : decode cX3_readNumber 23 = .ok (.getfield 22, 3) := by decide +kernel
theorem dX3_readNumber_26 : decode cX3_readNumber 26 = .ok (.iaload, 1) := by decide +kernel
theorem dX3_readNumber_27 : decode cX3_readNumber 27 = .ok (.bipush 48, 2) := by decide +kernel
theorem dX3_readNumber_29 : decode cX3_readNumber 29 = .ok (.if_icmp .lt 54, 3) := by decide +kernel
theorem dX3_readNumber_32 : decode cX3_readNumber 32 = .ok (.aload_n 0, 1) := by decide +kernel
theorem dX3_readNumber_33 : decode cX3_readNumber 33 = .ok (.getfield 9, 3) := by decide +kernel
theorem dX3_readNumber_36 : decode cX3_readNumber 36 = .ok (.aload_n 0, 1) := by decide +kernel
theorem dX3_readNumber_37 : decode cX3_readNumber 37 = .ok (.getfield 22, 3) := by decide +kernel
theorem dX3_readNumber_40 : decode cX3_readNumber 40 = .ok (.iaload, 1) := by decide +kernel
theorem dX3_readNumber_41 : decode cX3_readNumber 41 = .ok (.bipush 57, 2) := by decide +kernel
theorem dX3_readNumber_43 : decode cX3_readNumber 43 = .ok (.if_icmp .gt 40, 3) := by decide +kernel
theorem dX3_readNumber_46 : decode cX3_readNumber 46 = .ok (.iload_n 3, 1) := by decide +kernel
theorem dX3_readNumber_47 : decode cX3_readNumber 47 = .ok (.bipush 10, 2) := by decide +kernel
theorem dX3_readNumber_49 : decode cX3_readNumber 49 = .ok (.imul, 1) := by decide +kernel
theorem dX3_readNumber_50 : decode cX3_readNumber 50 = .ok (.aload_n 0, 1) := by decide +kernel
theorem dX3_readNumber_51 : decode cX3_readNumber 51 = .ok (.getfield 9, 3) := by decide +kernel
theorem dX3_readNumber_54 : decode cX3_readNumber 54 = .ok (.aload_n 0, 1) := by decide +kernel
theorem dX3_readNumber_55 : decode cX3_readNumber 55 = .ok (.getfield 22, 3) := by decide +kernel
theorem dX3_readNumber_58 : decode cX3_readNumber 58 = .ok (.iaload, 1) := by decide +kernel
theorem dX3_readNumber_59 : decode cX3_readNumber 59 = .ok (.iadd, 1) := by decide +kernel
theorem dX3_readNumber_60 : decode cX3_readNumber 60 = .ok (.bipush 48, 2) := by decide +kernel
theorem dX3_readNumber_62 : decode cX3_readNumber 62 = .ok (.isub, 1) := by decide +kernel
theorem dX3_readNumber_63 : decode cX3_readNumber 63 = .ok (.sipush 1000, 3) := by decide +kernel
theorem dX3_readNumber_66 : decode cX3_readNumber 66 = .ok (.invokestatic 89, 3) := by decide +kernel
theorem dX3_readNumber_69 : decode cX3_readNumber 69 = .ok (.istore_n 3, 1) := by decide +kernel
theorem dX3_readNumber_70 : decode cX3_readNumber 70 = .ok (.aload_n 0, 1) := by decide +kernel
theorem dX3_readNumber_71 : decode cX3_readNumber 71 = .ok (.dup, 1) := by decide +kernel
theorem dX3_readNumber_72 : decode cX3_readNumber 72 = .ok (.getfield 22, 3) := by decide +kernel
theorem dX3_readNumber_75 : decode cX3_readNumber 75 = .ok (.iconst 1, 1) := by decide +kernel
theorem dX3_readNumber_76 : decode cX3_readNumber 76 = .ok (.iadd, 1) := by decide +kernel
theorem dX3_readNumber_77 : decode cX3_readNumber 77 = .ok (.putfield 22, 3) := by decide +kernel
theorem dX3_readNumber_80 : decode cX3_readNumber 80 = .ok (.goto (-73), 3) := by decide +kernel
theorem dX3_readNumber_83 : decode cX3_readNumber 83 = .ok (.aload_n 0, 1) := by decide +kernel
theorem dX3_readNumber_84 : decode cX3_readNumber 84 = .ok (.getfield 22, 3) := by decide +kernel
theorem dX3_readNumber_87 : decode cX3_readNumber 87 = .ok (.iload_n 2, 1) := by decide +kernel
theorem dX3_readNumber_88 : decode cX3_readNumber 88 = .ok (.isub, 1) := by decide +kernel
theorem dX3_readNumber_89 : decode cX3_readNumber 89 = .ok (.istore 4, 2) := by decide +kernel
theorem dX3_readNumber_91 : decode cX3_readNumber 91 = .ok (.iload 4, 2) := by decide +kernel
theorem dX3_readNumber_93 : decode cX3_readNumber 93 = .ok (.iconst 1, 1) := by decide +kernel
theorem dX3_readNumber_94 : decode cX3_readNumber 94 = .ok (.if_icmp .lt 38, 3) := by decide +kernel
theorem dX3_readNumber_97 : decode cX3_readNumber 97 = .ok (.iload 4, 2) := by decide +kernel
theorem dX3_readNumber_99 : decode cX3_readNumber 99 = .ok (.iconst 2, 1) := by decide +kernel
theorem dX3_readNumber_100 : decode cX3_readNumber 100 = .ok (.if_icmp .gt 32, 3) := by decide +kernel
theorem dX3_readNumber_103 : decode cX3_readNumber 103 = .ok (.iload_n 3, 1) := by decide +kernel
theorem dX3_readNumber_104 : decode cX3_readNumber 104 = .ok (.aload_n 0, 1) := by decide +kernel
theorem dX3_readNumber_105 : decode cX3_readNumber 105 = .ok (.getfield 28, 3) := by decide +kernel
theorem dX3_readNumber_108 : decode cX3_readNumber 108 = .ok (.ifCond .ne 7, 3) := by decide +kernel
theorem dX3_readNumber_111 : decode cX3_readNumber 111 = .ok (.iconst 2, 1) := by decide +kernel
theorem dX3_readNumber_112 : decode cX3_readNumber 112 = .ok (.goto 4, 3) := by decide +kernel
theorem dX3_readNumber_115 : decode cX3_readNumber 115 = .ok (.iconst 0, 1) := by decide +kernel
theorem dX3_readNumber_116 : decode cX3_readNumber 116 = .ok (.if_icmp .lt 16, 3) := by decide +kernel
theorem dX3_readNumber_119 : decode cX3_readNumber 119 = .ok (.iload_n 3, 1) := by decide +kernel
theorem dX3_readNumber_120 : decode cX3_readNumber 120 = .ok (.aload_n 0, 1) := by decide +kernel
theorem dX3_readNumber_121 : decode cX3_readNumber 121 = .ok (.iload_n 1, 1) := by decide +kernel
theorem dX3_readNumber_122 : decode cX3_readNumber 122 = .ok (.invokevirtual 95, 3) := by decide +kernel
theorem dX3_readNumber_125 : decode cX3_readNumber 125 = .ok (.if_icmp .gt 7, 3) := by decide +kernel
theorem dX3_readNumber_128 : decode cX3_readNumber 128 = .ok (.iconst 1, 1) := by decide +kernel
theorem dX3_readNumber_129 : decode cX3_readNumber 129 = .ok (.goto 4, 3) := by decide +kernel
theorem dX3_readNumber_132 : decode cX3_readNumber 132 = .ok (.iconst 0, 1) := by decide +kernel
theorem dX3_readNumber_133 : decode cX3_readNumber 133 = .ok (.istore 5, 2) := by decide +kernel
theorem dX3_readNumber_135 : decode cX3_readNumber 135 = .ok (.iload 5, 2) := by decide +kernel
theorem dX3_readNumber_137 : decode cX3_readNumber 137 = .ok (.ifCond .eq 13, 3) := by decide +kernel
theorem dX3_readNumber_140 : decode cX3_readNumber 140 = .ok (.aload_n 0, 1) := by decide +kernel
theorem dX3_readNumber_141 : decode cX3_readNumber 141 = .ok (.getfield 31, 3) := by decide +kernel
theorem dX3_readNumber_144 : decode cX3_readNumber 144 = .ok (.sipush 201, 3) := by decide +kernel
theorem dX3_readNumber_147 : decode cX3_readNumber 147 = .ok (.if_icmp .lt 10, 3) := by decide +kernel
theorem dX3_readNumber_150 : decode cX3_readNumber 150 = .ok (.aload_n 0, 1) := by decide +kernel
theorem dX3_readNumber_151 : decode cX3_readNumber 151 = .ok (.iload_n 2, 1) := by decide +kernel
theorem dX3_readNumber_152 : decode cX3_readNumber 152 = .ok (.putfield 25, 3) := by decide +kernel
theorem dX3_readNumber_155 : decode cX3_readNumber 155 = .ok (.iconst 0, 1) := by decide +kernel
theorem dX3_readNumber_156 : decode cX3_readNumber 156 = .ok (.ireturn, 1) := by decide +kernel
theorem dX3_readNumber_157 : decode cX3_readNumber 157 = .ok (.aload_n 0, 1) := by decide +kernel
theorem dX3_readNumber_158 : decode cX3_readNumber 158 = .ok (.getfield 15, 3) := by decide +kernel
theorem dX3_readNumber_161 : decode cX3_readNumber 161 = .ok (.aload_n 0, 1) := by decide +kernel
theorem dX3_readNumber_162 : decode cX3_readNumber 162 = .ok (.getfield 31, 3) := by decide +kernel
theorem dX3_readNumber_165 : decode cX3_readNumber 165 = .ok (.iload_n 3, 1) := by decide +kernel
theorem dX3_readNumber_166 : decode cX3_readNumber 166 = .ok (.iastore, 1) := by decide +kernel
theorem dX3_readNumber_167 : decode cX3_readNumber 167 = .ok (.aload_n 0, 1) := by decide +kernel
theorem dX3_readNumber_168 : decode cX3_readNumber 168 = .ok (.dup, 1) := by decide +kernel
theorem dX3_readNumber_169 : decode cX3_readNumber 169 = .ok (.getfield 31, 3) := by decide +kernel
theorem dX3_readNumber_172 : decode cX3_readNumber 172 = .ok (.iconst 1, 1) := by decide +kernel
theorem dX3_readNumber_173 : decode cX3_readNumber 173 = .ok (.iadd, 1) := by decide +kernel
theorem dX3_readNumber_174 : decode cX3_readNumber 174 = .ok (.putfield 31, 3) := by decide +kernel
theorem dX3_readNumber_177 : decode cX3_readNumber 177 = .ok (.aload_n 0, 1) := by decide +kernel
theorem dX3_readNumber_178 : decode cX3_readNumber 178 = .ok (.invokevirtual 37, 3) := by decide +kernel
theorem dX3_readNumber_181 : decode cX3_readNumber 181 = .ok (.iconst 1, 1) := by decide +kernel
theorem dX3_readNumber_182 : decode cX3_readNumber 182 = .ok (.ireturn, 1) := by decide +kernel
theorem dX3_operands_0 : decode cX3_operands 0 = .ok (.aload_n 0, 1) := by decide +kernel
theorem dX3_operands_1 : decode cX3_operands 1 = .ok (.getfield 28, 3) := by decide +kernel
theorem dX3_operands_4 : decode cX3_operands 4 = .ok (.tableswitch 44 0 5 #[42, 44, 42, 44, 42, 40], 40) := by decide +kernel
theorem dX3_operands_44 : decode cX3_operands 44 = .ok (.iconst 0, 1) := by decide +kernel
theorem dX3_operands_45 : decode cX3_operands 45 = .ok (.ireturn, 1) := by decide +kernel
theorem dX3_operands_46 : decode cX3_operands 46 = .ok (.iconst 1, 1) := by decide +kernel
theorem dX3_operands_47 : decode cX3_operands 47 = .ok (.ireturn, 1) := by decide +kernel
theorem dX3_operands_48 : decode cX3_operands 48 = .ok (.iconst 2, 1) := by decide +kernel
theorem dX3_operands_49 : decode cX3_operands 49 = .ok (.ireturn, 1) := by decide +kernel
theorem dX3_mostOf_0 : decode cX3_mostOf 0 = .ok (.aload_n 0, 1) := by decide +kernel
theorem dX3_mostOf_1 : decode cX3_mostOf 1 = .ok (.getfield 28, 3) := by decide +kernel
theorem dX3_mostOf_4 : decode cX3_mostOf 4 = .ok (.tableswitch 62 0 6 #[44, 47, 62, 62, 47, 62, 50], 44) := by decide +kernel
theorem dX3_mostOf_48 : decode cX3_mostOf 48 = .ok (.bipush 16, 2) := by decide +kernel
theorem dX3_mostOf_50 : decode cX3_mostOf 50 = .ok (.ireturn, 1) := by decide +kernel
theorem dX3_mostOf_51 : decode cX3_mostOf 51 = .ok (.bipush 15, 2) := by decide +kernel
theorem dX3_mostOf_53 : decode cX3_mostOf 53 = .ok (.ireturn, 1) := by decide +kernel
theorem dX3_mostOf_54 : decode cX3_mostOf 54 = .ok (.iload_n 1, 1) := by decide +kernel
theorem dX3_mostOf_55 : decode cX3_mostOf 55 = .ok (.ifCond .ne 8, 3) := by decide +kernel
theorem dX3_mostOf_58 : decode cX3_mostOf 58 = .ok (.bipush 59, 2) := by decide +kernel
theorem dX3_mostOf_60 : decode cX3_mostOf 60 = .ok (.goto 5, 3) := by decide +kernel
theorem dX3_mostOf_63 : decode cX3_mostOf 63 = .ok (.bipush 99, 2) := by decide +kernel
theorem dX3_mostOf_65 : decode cX3_mostOf 65 = .ok (.ireturn, 1) := by decide +kernel
theorem dX3_mostOf_66 : decode cX3_mostOf 66 = .ok (.bipush 59, 2) := by decide +kernel
theorem dX3_mostOf_68 : decode cX3_mostOf 68 = .ok (.ireturn, 1) := by decide +kernel

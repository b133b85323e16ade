theorem dX5_init_0 : decode cX5_init 0 = .ok (.aload_n 0, 1) := by decide +kernel
theorem dX5_init_1 : decode cX5_init 1 = .ok (.invokespecial 1, 3) := by decide +kernel
theorem dX5_init_4 : decode cX5_init 4 = .ok (.aload_n 0, 1) := by decide +kernel
theorem dX5_init_5 : decode cX5_init 5 = .ok (.sipush 4341, 3) := by decide +kernel
theorem dX5_init_8 : decode cX5_init 8 = .ok (.newarray .int, 2) := by decide +kernel
theorem dX5_init_10 : decode cX5_init 10 = .ok (.putfield 7, 3) := by decide +kernel
theorem dX5_init_13 : decode cX5_init 13 = .ok (.aload_n 0, 1) := by decide +kernel
theorem dX5_init_14 : decode cX5_init 14 = .ok (.sipush 4341, 3) := by decide +kernel
theorem dX5_init_17 : decode cX5_init 17 = .ok (.newarray .int, 2) := by decide +kernel
theorem dX5_init_19 : decode cX5_init 19 = .ok (.putfield 13, 3) := by decide +kernel
theorem dX5_init_22 : decode cX5_init 22 = .ok (.aload_n 0, 1) := by decide +kernel
theorem dX5_init_23 : decode cX5_init 23 = .ok (.sipush 4341, 3) := by decide +kernel
theorem dX5_init_26 : decode cX5_init 26 = .ok (.newarray .int, 2) := by decide +kernel
theorem dX5_init_28 : decode cX5_init 28 = .ok (.putfield 16, 3) := by decide +kernel
theorem dX5_init_31 : decode cX5_init 31 = .ok (.aload_n 0, 1) := by decide +kernel
theorem dX5_init_32 : decode cX5_init 32 = .ok (.sipush 4341, 3) := by decide +kernel
theorem dX5_init_35 : decode cX5_init 35 = .ok (.newarray .int, 2) := by decide +kernel
theorem dX5_init_37 : decode cX5_init 37 = .ok (.putfield 19, 3) := by decide +kernel
theorem dX5_init_40 : decode cX5_init 40 = .ok (.aload_n 0, 1) := by decide +kernel
theorem dX5_init_41 : decode cX5_init 41 = .ok (.ldc 22, 2) := by decide +kernel
theorem dX5_init_43 : decode cX5_init 43 = .ok (.newarray .int, 2) := by decide +kernel
theorem dX5_init_45 : decode cX5_init 45 = .ok (.putfield 23, 3) := by decide +kernel
theorem dX5_init_48 : decode cX5_init 48 = .ok (.aload_n 0, 1) := by decide +kernel
theorem dX5_init_49 : decode cX5_init 49 = .ok (.sipush 400, 3) := by decide +kernel
theorem dX5_init_52 : decode cX5_init 52 = .ok (.newarray .int, 2) := by decide +kernel
theorem dX5_init_54 : decode cX5_init 54 = .ok (.putfield 26, 3) := by decide +kernel
theorem dX5_init_57 : decode cX5_init 57 = .ok (.aload_n 0, 1) := by decide +kernel
theorem dX5_init_58 : decode cX5_init 58 = .ok (.iconst (-1), 1) := by decide +kernel
theorem dX5_init_59 : decode cX5_init 59 = .ok (.putfield 29, 3) := by decide +kernel
theorem dX5_init_62 : decode cX5_init 62 = .ok (.aload_n 0, 1) := by decide +kernel
theorem dX5_init_63 : decode cX5_init 63 = .ok (.bipush 46, 2) := by decide +kernel
theorem dX5_init_65 : decode cX5_init 65 = .ok (.newarray .int, 2) := by decide +kernel
theorem dX5_init_67 : decode cX5_init 67 = .ok (.putfield 33, 3) := by decide +kernel
theorem dX5_init_70 : decode cX5_init 70 = .ok (.aload_n 0, 1) := by decide +kernel
theorem dX5_init_71 : decode cX5_init 71 = .ok (.bipush 46, 2) := by decide +kernel
theorem dX5_init_73 : decode cX5_init 73 = .ok (.newarray .int, 2) := by decide +kernel
theorem dX5_init_75 : decode cX5_init 75 = .ok (.putfield 36, 3) := by decide +kernel
theorem dX5_init_78 : decode cX5_init 78 = .ok (.aload_n 0, 1) := by decide +kernel
theorem dX5_init_79 : decode cX5_init 79 = .ok (.bipush 16, 2) := by decide +kernel
theorem dX5_init_81 : decode cX5_init 81 = .ok (.newarray .int, 2) := by decide +kernel
theorem dX5_init_83 : decode cX5_init 83 = .ok (.putfield 39, 3) := by decide +kernel
theorem dX5_init_86 : decode cX5_init 86 = .ok (.aload_n 0, 1) := by decide +kernel
theorem dX5_init_87 : decode cX5_init 87 = .ok (.bipush 16, 2) := by decide +kernel
theorem dX5_init_89 : decode cX5_init 89 = .ok (.newarray .int, 2) := by decide +kernel
theorem dX5_init_91 : decode cX5_init 91 = .ok (.putfield 42, 3) := by decide +kernel
theorem dX5_init_94 : decode cX5_init 94 = .ok (.aload_n 0, 1) := by decide +kernel
theorem dX5_init_95 : decode cX5_init 95 = .ok (.bipush 60, 2) := by decide +kernel
theorem dX5_init_97 : decode cX5_init 97 = .ok (.newarray .int, 2) := by decide +kernel
theorem dX5_init_99 : decode cX5_init 99 = .ok (.putfield 45, 3) := by decide +kernel
theorem dX5_init_102 : decode cX5_init 102 = .ok (.aload_n 0, 1) := by decide +kernel
theorem dX5_init_103 : decode cX5_init 103 = .ok (.sipush 200, 3) := by decide +kernel
theorem dX5_init_106 : decode cX5_init 106 = .ok (.newarray .int, 2) := by decide +kernel
theorem dX5_init_108 : decode cX5_init 108 = .ok (.putfield 48, 3) := by decide +kernel
theorem dX5_init_111 : decode cX5_init 111 = .ok (.aload_n 0, 1) := by decide +kernel
theorem dX5_init_112 : decode cX5_init 112 = .ok (.sipush 200, 3) := by decide +kernel
theorem dX5_init_115 : decode cX5_init 115 = .ok (.newarray .int, 2) := by decide +kernel
theorem dX5_init_117 : decode cX5_init 117 = .ok (.putfield 51, 3) := by decide +kernel
theorem dX5_init_120 : decode cX5_init 120 = .ok (.aload_n 0, 1) := by decide +kernel
theorem dX5_init_121 : decode cX5_init 121 = .ok (.iconst 4, 1) := by decide +kernel
theorem dX5_init_122 : decode cX5_init 122 = .ok (.invokevirtual 54, 3) := by decide +kernel
theorem dX5_init_125 : decode cX5_init 125 = .ok (.return_, 1) := by decide +kernel
theorem dX5_thrown_0 : decode cX5_thrown 0 = .ok (.aload_n 0, 1) := by decide +kernel
theorem dX5_thrown_1 : decode cX5_thrown 1 = .ok (.getfield 58, 3) := by decide +kernel
theorem dX5_thrown_4 : decode cX5_thrown 4 = .ok (.ireturn, 1) := by decide +kernel
theorem dX5_isIn_0 : decode cX5_isIn 0 = .ok (.iload_n 0, 1) := by decide +kernel
theorem dX5_isIn_1 : decode cX5_isIn 1 = .ok (.iload_n 1, 1) := by decide +kernel
theorem dX5_isIn_2 : decode cX5_isIn 2 = .ok (.if_icmp .lt 12, 3) := by decide +kernel
theorem dX5_isIn_5 : decode cX5_isIn 5 = .ok (.iload_n 0, 1) := by decide +kernel
theorem dX5_isIn_6 : decode cX5_isIn 6 = .ok (.iload_n 2, 1) := by decide +kernel
theorem dX5_isIn_7 : decode cX5_isIn 7 = .ok (.if_icmp .gt 7, 3) := by decide +kernel
theorem dX5_isIn_10 : decode cX5_isIn 10 = .ok (.iconst 1, 1) := by decide +kernel
theorem dX5_isIn_11 : decode cX5_isIn 11 = .ok (.goto 4, 3) := by decide +kernel
theorem dX5_isIn_14 : decode cX5_isIn 14 = .ok (.iconst 0, 1) := by decide +kernel
theorem dX5_isIn_15 : decode cX5_isIn 15 = .ok (.ireturn, 1) := by decide +kernel
theorem dX5_height_0 : decode cX5_height 0 = .ok (.iconst 0, 1) := by decide +kernel
theorem dX5_height_1 : decode cX5_height 1 = .ok (.istore_n 1, 1) := by decide +kernel
theorem dX5_height_2 : decode cX5_height 2 = .ok (.iconst 1, 1) := by decide +kernel
theorem dX5_height_3 : decode cX5_height 3 = .ok (.iload_n 1, 1) := by decide +kernel
theorem dX5_height_4 : decode cX5_height 4 = .ok (.iconst 1, 1) := by decide +kernel
theorem dX5_height_5 : decode cX5_height 5 = .ok (.iadd, 1) := by decide +kernel
theorem dX5_height_6 : decode cX5_height 6 = .ok (.ishl, 1) := by decide +kernel
theorem dX5_height_7 : decode cX5_height 7 = .ok (.aload_n 0, 1) := by decide +kernel
theorem dX5_height_8 : decode cX5_height 8 = .ok (.getfield 7, 3) := by decide +kernel
theorem dX5_height_11 : decode cX5_height 11 = .ok (.iconst 0, 1) := by decide +kernel
theorem dX5_height_12 : decode cX5_height 12 = .ok (.iaload, 1) := by decide +kernel
theorem dX5_height_13 : decode cX5_height 13 = .ok (.if_icmp .gt 9, 3) := by decide +kernel
theorem dX5_height_16 : decode cX5_height 16 = .ok (.iinc 1 1, 3) := by decide +kernel
theorem dX5_height_19 : decode cX5_height 19 = .ok (.goto (-17), 3) := by decide +kernel
theorem dX5_height_22 : decode cX5_height 22 = .ok (.iload_n 1, 1) := by decide +kernel
theorem dX5_height_23 : decode cX5_height 23 = .ok (.ireturn, 1) := by decide +kernel
theorem dX5_isNode_0 : decode cX5_isNode 0 = .ok (.iload_n 1, 1) := by decide +kernel
theorem dX5_isNode_1 : decode cX5_isNode 1 = .ok (.iconst 0, 1) := by decide +kernel
theorem dX5_isNode_2 : decode cX5_isNode 2 = .ok (.aload_n 0, 1) := by decide +kernel
theorem dX5_isNode_3 : decode cX5_isNode 3 = .ok (.getfield 7, 3) := by decide +kernel
theorem dX5_isNode_6 : decode cX5_isNode 6 = .ok (.iconst 0, 1) := by decide +kernel
theorem dX5_isNode_7 : decode cX5_isNode 7 = .ok (.iaload, 1) := by decide +kernel
theorem dX5_isNode_8 : decode cX5_isNode 8 = .ok (.iconst 1, 1) := by decide +kernel
theorem dX5_isNode_9 : decode cX5_isNode 9 = .ok (.isub, 1) := by decide +kernel
theorem dX5_isNode_10 : decode cX5_isNode 10 = .ok (.invokestatic 61, 3) := by decide +kernel
theorem dX5_isNode_13 : decode cX5_isNode 13 = .ok (.ireturn, 1) := by decide +kernel
theorem dX5_isLaid_0 : decode cX5_isLaid 0 = .ok (.iload_n 1, 1) := by decide +kernel
theorem dX5_isLaid_1 : decode cX5_isLaid 1 = .ok (.iconst 0, 1) := by decide +kernel
theorem dX5_isLaid_2 : decode cX5_isLaid 2 = .ok (.aload_n 0, 1) := by decide +kernel
theorem dX5_isLaid_3 : decode cX5_isLaid 3 = .ok (.getfield 7, 3) := by decide +kernel
theorem dX5_isLaid_6 : decode cX5_isLaid 6 = .ok (.iconst 1, 1) := by decide +kernel
theorem dX5_isLaid_7 : decode cX5_isLaid 7 = .ok (.iaload, 1) := by decide +kernel
theorem dX5_isLaid_8 : decode cX5_isLaid 8 = .ok (.iconst 1, 1) := by decide +kernel
theorem dX5_isLaid_9 : decode cX5_isLaid 9 = .ok (.isub, 1) := by decide +kernel
theorem dX5_isLaid_10 : decode cX5_isLaid 10 = .ok (.invokestatic 61, 3) := by decide +kernel
theorem dX5_isLaid_13 : decode cX5_isLaid 13 = .ok (.ireturn, 1) := by decide +kernel
theorem dX5_of_0 : decode cX5_of 0 = .ok (.aload_n 0, 1) := by decide +kernel
theorem dX5_of_1 : decode cX5_of 1 = .ok (.getfield 7, 3) := by decide +kernel
theorem dX5_of_4 : decode cX5_of 4 = .ok (.bipush 20, 2) := by decide +kernel
theorem dX5_of_6 : decode cX5_of 6 = .ok (.bipush 6, 2) := by decide +kernel
theorem dX5_of_8 : decode cX5_of 8 = .ok (.iload_n 1, 1) := by decide +kernel
theorem dX5_of_9 : decode cX5_of 9 = .ok (.imul, 1) := by decide +kernel
theorem dX5_of_10 : decode cX5_of 10 = .ok (.iadd, 1) := by decide +kernel
theorem dX5_of_11 : decode cX5_of 11 = .ok (.iload_n 2, 1) := by decide +kernel
theorem dX5_of_12 : decode cX5_of 12 = .ok (.iadd, 1) := by decide +kernel
theorem dX5_of_13 : decode cX5_of 13 = .ok (.iaload, 1) := by decide +kernel
theorem dX5_of_14 : decode cX5_of 14 = .ok (.ireturn, 1) := by decide +kernel
theorem dX5_sets_0 : decode cX5_sets 0 = .ok (.aload_n 0, 1) := by decide +kernel
theorem dX5_sets_1 : decode cX5_sets 1 = .ok (.getfield 7, 3) := by decide +kernel
theorem dX5_sets_4 : decode cX5_sets 4 = .ok (.bipush 20, 2) := by decide +kernel
theorem dX5_sets_6 : decode cX5_sets 6 = .ok (.bipush 6, 2) := by decide +kernel
theorem dX5_sets_8 : decode cX5_sets 8 = .ok (.iload_n 1, 1) := by decide +kernel
theorem dX5_sets_9 : decode cX5_sets 9 = .ok (.imul, 1) := by decide +kernel
theorem dX5_sets_10 : decode cX5_sets 10 = .ok (.iadd, 1) := by decide +kernel
theorem dX5_sets_11 : decode cX5_sets 11 = .ok (.iload_n 2, 1) := by decide +kernel
theorem dX5_sets_12 : decode cX5_sets 12 = .ok (.iadd, 1) := by decide +kernel
theorem dX5_sets_13 : decode cX5_sets 13 = .ok (.iload_n 3, 1) := by decide +kernel
theorem dX5_sets_14 : decode cX5_sets 14 = .ok (.iastore, 1) := by decide +kernel
theorem dX5_sets_15 : decode cX5_sets 15 = .ok (.return_, 1) := by decide +kernel
theorem dX5_isThere_0 : decode cX5_isThere 0 = .ok (.aload_n 0, 1) := by decide +kernel
theorem dX5_isThere_1 : decode cX5_isThere 1 = .ok (.iload_n 1, 1) := by decide +kernel
theorem dX5_isThere_2 : decode cX5_isThere 2 = .ok (.invokevirtual 65, 3) := by decide +kernel
theorem dX5_isThere_5 : decode cX5_isThere 5 = .ok (.ifCond .eq 17, 3) := by decide +kernel
theorem dX5_isThere_8 : decode cX5_isThere 8 = .ok (.aload_n 0, 1) := by decide +kernel
theorem dX5_isThere_9 : decode cX5_isThere 9 = .ok (.iload_n 1, 1) := by decide +kernel
theorem dX5_isThere_10 : decode cX5_isThere 10 = .ok (.iconst 2, 1) := by decide +kernel
theorem dX5_isThere_11 : decode cX5_isThere 11 = .ok (.invokevirtual 69, 3) := by decide +kernel
theorem dX5_isThere_14 : decode cX5_isThere 14 = .ok (.iconst 2, 1) := by decide +kernel
theorem dX5_isThere_15 : decode cX5_isThere 15 = .ok (.if_icmp .eq 7, 3) := by decide +kernel
theorem dX5_isThere_18 : decode cX5_isThere 18 = .ok (.iconst 1, 1) := by decide +kernel
theorem dX5_isThere_19 : decode cX5_isThere 19 = .ok (.goto 4, 3) := by decide +kernel
theorem dX5_isThere_22 : decode cX5_isThere 22 = .ok (.iconst 0, 1) := by decide +kernel
theorem dX5_isThere_23 : decode cX5_isThere 23 = .ok (.ireturn, 1) := by decide +kernel
theorem dX5_isTree_0 : decode cX5_isTree 0 = .ok (.aload_n 0, 1) := by decide +kernel
theorem dX5_isTree_1 : decode cX5_isTree 1 = .ok (.iload_n 1, 1) := by decide +kernel
theorem dX5_isTree_2 : decode cX5_isTree 2 = .ok (.invokevirtual 65, 3) := by decide +kernel
theorem dX5_isTree_5 : decode cX5_isTree 5 = .ok (.ifCond .eq 16, 3) := by decide +kernel
theorem dX5_isTree_8 : decode cX5_isTree 8 = .ok (.aload_n 0, 1) := by decide +kernel
theorem dX5_isTree_9 : decode cX5_isTree 9 = .ok (.iload_n 1, 1) := by decide +kernel
theorem dX5_isTree_10 : decode cX5_isTree 10 = .ok (.iconst 2, 1) := by decide +kernel
theorem dX5_isTree_11 : decode cX5_isTree 11 = .ok (.invokevirtual 69, 3) := by decide +kernel
theorem dX5_isTree_14 : decode cX5_isTree 14 = .ok (.ifCond .ne 7, 3) := by decide +kernel
theorem dX5_isTree_17 : decode cX5_isTree 17 = .ok (.iconst 1, 1) := by decide +kernel
theorem dX5_isTree_18 : decode cX5_isTree 18 = .ok (.goto 4, 3) := by decide +kernel
theorem dX5_isTree_21 : decode cX5_isTree 21 = .ok (.iconst 0, 1) := by decide +kernel
theorem dX5_isTree_22 : decode cX5_isTree 22 = .ok (.ireturn, 1) := by decide +kernel
theorem dX5_slotOf_0 : decode cX5_slotOf 0 = .ok (.aload_n 0, 1) := by decide +kernel
theorem dX5_slotOf_1 : decode cX5_slotOf 1 = .ok (.getfield 7, 3) := by decide +kernel
theorem dX5_slotOf_4 : decode cX5_slotOf 4 = .ok (.sipush 380, 3) := by decide +kernel
theorem dX5_slotOf_7 : decode cX5_slotOf 7 = .ok (.bipush 16, 2) := by decide +kernel
theorem dX5_slotOf_9 : decode cX5_slotOf 9 = .ok (.iload_n 1, 1) := by decide +kernel
theorem dX5_slotOf_10 : decode cX5_slotOf 10 = .ok (.imul, 1) := by decide +kernel
theorem dX5_slotOf_11 : decode cX5_slotOf 11 = .ok (.iadd, 1) := by decide +kernel
theorem dX5_slotOf_12 : decode cX5_slotOf 12 = .ok (.iload_n 2, 1) := by decide +kernel
theorem dX5_slotOf_13 : decode cX5_slotOf 13 = .ok (.iadd, 1) := by decide +kernel
theorem dX5_slotOf_14 : decode cX5_slotOf 14 = .ok (.iaload, 1) := by decide +kernel
theorem dX5_slotOf_15 : decode cX5_slotOf 15 = .ok (.ireturn, 1) := by decide +kernel
theorem dX5_longOf_0 : decode cX5_longOf 0 = .ok (.aload_n 0, 1) := by decide +kernel
theorem dX5_longOf_1 : decode cX5_longOf 1 = .ok (.getfield 7, 3) := by decide +kernel
theorem dX5_longOf_4 : decode cX5_longOf 4 = .ok (.sipush 460, 3) := by decide +kernel
theorem dX5_longOf_7 : decode cX5_longOf 7 = .ok (.bipush 16, 2) := by decide +kernel
theorem dX5_longOf_9 : decode cX5_longOf 9 = .ok (.iload_n 1, 1) := by decide +kernel
theorem dX5_longOf_10 : decode cX5_longOf 10 = .ok (.imul, 1) := by decide +kernel
theorem dX5_longOf_11 : decode cX5_longOf 11 = .ok (.iadd, 1) := by decide +kernel
theorem dX5_longOf_12 : decode cX5_longOf 12 = .ok (.iload_n 2, 1) := by decide +kernel
theorem dX5_longOf_13 : decode cX5_longOf 13 = .ok (.iadd, 1) := by decide +kernel
theorem dX5_longOf_14 : decode cX5_longOf 14 = .ok (.iaload, 1) := by decide +kernel
theorem dX5_longOf_15 : decode cX5_longOf 15 = .ok (.ireturn, 1) := by decide +kernel
theorem dX5_placeOf_0 : decode cX5_placeOf 0 = .ok (.sipush 540, 3) := by decide +kernel
theorem dX5_placeOf_3 : decode cX5_placeOf 3 = .ok (.bipush 46, 2) := by decide +kernel
theorem dX5_placeOf_5 : decode cX5_placeOf 5 = .ok (.bipush 16, 2) := by decide +kernel
theorem dX5_placeOf_7 : decode cX5_placeOf 7 = .ok (.iload_n 0, 1) := by decide +kernel
theorem dX5_placeOf_8 : decode cX5_placeOf 8 = .ok (.imul, 1) := by decide +kernel
theorem dX5_placeOf_9 : decode cX5_placeOf 9 = .ok (.iload_n 1, 1) := by decide +kernel
theorem dX5_placeOf_10 : decode cX5_placeOf 10 = .ok (.iadd, 1) := by decide +kernel
theorem dX5_placeOf_11 : decode cX5_placeOf 11 = .ok (.imul, 1) := by decide +kernel
theorem dX5_placeOf_12 : decode cX5_placeOf 12 = .ok (.iadd, 1) := by decide +kernel
theorem dX5_placeOf_13 : decode cX5_placeOf 13 = .ok (.iload_n 2, 1) := by decide +kernel
theorem dX5_placeOf_14 : decode cX5_placeOf 14 = .ok (.iadd, 1) := by decide +kernel
theorem dX5_placeOf_15 : decode cX5_placeOf 15 = .ok (.ireturn, 1) := by decide +kernel
theorem dX5_nets_0 : decode cX5_nets 0 = .ok (.iconst 0, 1) := by decide +kernel
theorem dX5_nets_1 : decode cX5_nets 1 = .ok (.istore_n 2, 1) := by decide +kernel
theorem dX5_nets_2 : decode cX5_nets 2 = .ok (.iload_n 2, 1) := by decide +kernel
theorem dX5_nets_3 : decode cX5_nets 3 = .ok (.sipush 4341, 3) := by decide +kernel
theorem dX5_nets_6 : decode cX5_nets 6 = .ok (.if_icmp .ge 16, 3) := by decide +kernel
theorem dX5_nets_9 : decode cX5_nets 9 = .ok (.aload_n 0, 1) := by decide +kernel
theorem dX5_nets_10 : decode cX5_nets 10 = .ok (.getfield 7, 3) := by decide +kernel
theorem dX5_nets_13 : decode cX5_nets 13 = .ok (.iload_n 2, 1) := by decide +kernel
theorem dX5_nets_14 : decode cX5_nets 14 = .ok (.iconst 0, 1) := by decide +kernel
theorem dX5_nets_15 : decode cX5_nets 15 = .ok (.iastore, 1) := by decide +kernel
theorem dX5_nets_16 : decode cX5_nets 16 = .ok (.iinc 2 1, 3) := by decide +kernel
theorem dX5_nets_19 : decode cX5_nets 19 = .ok (.goto (-17), 3) := by decide +kernel
theorem dX5_nets_22 : decode cX5_nets 22 = .ok (.aload_n 0, 1) := by decide +kernel
theorem dX5_nets_23 : decode cX5_nets 23 = .ok (.getfield 7, 3) := by decide +kernel
theorem dX5_nets_26 : decode cX5_nets 26 = .ok (.iconst 0, 1) := by decide +kernel
theorem dX5_nets_27 : decode cX5_nets 27 = .ok (.iload_n 1, 1) := by decide +kernel
theorem dX5_nets_28 : decode cX5_nets 28 = .ok (.iastore, 1) := by decide +kernel
theorem dX5_nets_29 : decode cX5_nets 29 = .ok (.iconst 0, 1) := by decide +kernel
theorem dX5_nets_30 : decode cX5_nets 30 = .ok (.istore_n 2, 1) := by decide +kernel
theorem dX5_nets_31 : decode cX5_nets 31 = .ok (.iload_n 2, 1) := by decide +kernel
theorem dX5_nets_32 : decode cX5_nets 32 = .ok (.bipush 16, 2) := by decide +kernel
theorem dX5_nets_34 : decode cX5_nets 34 = .ok (.if_icmp .ge 18, 3) := by decide +kernel
theorem dX5_nets_37 : decode cX5_nets 37 = .ok (.aload_n 0, 1) := by decide +kernel
theorem dX5_nets_38 : decode cX5_nets 38 = .ok (.getfield 7, 3) := by decide +kernel
theorem dX5_nets_41 : decode cX5_nets 41 = .ok (.iconst 4, 1) := by decide +kernel
theorem dX5_nets_42 : decode cX5_nets 42 = .ok (.iload_n 2, 1) := by decide +kernel
theorem dX5_nets_43 : decode cX5_nets 43 = .ok (.iadd, 1) := by decide +kernel
theorem dX5_nets_44 : decode cX5_nets 44 = .ok (.iload_n 2, 1) := by decide +kernel
theorem dX5_nets_45 : decode cX5_nets 45 = .ok (.iastore, 1) := by decide +kernel
theorem dX5_nets_46 : decode cX5_nets 46 = .ok (.iinc 2 1, 3) := by decide +kernel
theorem dX5_nets_49 : decode cX5_nets 49 = .ok (.goto (-18), 3) := by decide +kernel
theorem dX5_nets_52 : decode cX5_nets 52 = .ok (.aload_n 0, 1) := by decide +kernel
theorem dX5_nets_53 : decode cX5_nets 53 = .ok (.invokevirtual 73, 3) := by decide +kernel
theorem dX5_nets_56 : decode cX5_nets 56 = .ok (.return_, 1) := by decide +kernel
theorem dX5_singles_0 : decode cX5_singles 0 = .ok (.iconst 0, 1) := by decide +kernel
theorem dX5_singles_1 : decode cX5_singles 1 = .ok (.istore_n 1, 1) := by decide +kernel
theorem dX5_singles_2 : decode cX5_singles 2 = .ok (.iload_n 1, 1) := by decide +kernel
theorem dX5_singles_3 : decode cX5_singles 3 = .ok (.iconst 5, 1) := by decide +kernel
theorem dX5_singles_4 : decode cX5_singles 4 = .ok (.if_icmp .ge 67, 3) := by decide +kernel
theorem dX5_singles_7 : decode cX5_singles 7 = .ok (.iconst 0, 1) := by decide +kernel
theorem dX5_singles_8 : decode cX5_singles 8 = .ok (.istore_n 2, 1) := by decide +kernel
theorem dX5_singles_9 : decode cX5_singles 9 = .ok (.iload_n 2, 1) := by decide +kernel
theorem dX5_singles_10 : decode cX5_singles 10 = .ok (.bipush 16, 2) := by decide +kernel
theorem dX5_singles_12 : decode cX5_singles 12 = .ok (.if_icmp .ge 53, 3) := by decide +kernel
theorem dX5_singles_15 : decode cX5_singles 15 = .ok (.aload_n 0, 1) := by decide +kernel
theorem dX5_singles_16 : decode cX5_singles 16 = .ok (.getfield 7, 3) := by decide +kernel
theorem dX5_singles_19 : decode cX5_singles 19 = .ok (.sipush 380, 3) := by decide +kernel
theorem dX5_singles_22 : decode cX5_singles 22 = .ok (.bipush 16, 2) := by decide +kernel
theorem dX5_singles_24 : decode cX5_singles 24 = .ok (.iload_n 1, 1) := by decide +kernel
theorem dX5_singles_25 : decode cX5_singles 25 = .ok (.imul, 1) := by decide +kernel
theorem dX5_singles_26 : decode cX5_singles 26 = .ok (.iadd, 1) := by decide +kernel
theorem dX5_singles_27 : decode cX5_singles 27 = .ok (.iload_n 2, 1) := by decide +kernel
theorem dX5_singles_28 : decode cX5_singles 28 = .ok (.iadd, 1) := by decide +kernel
theorem dX5_singles_29 : decode cX5_singles 29 = .ok (.iload_n 2, 1) := by decide +kernel
theorem dX5_singles_30 : decode cX5_singles 30 = .ok (.iastore, 1) := by decide +kernel
theorem dX5_singles_31 : decode cX5_singles 31 = .ok (.aload_n 0, 1) := by decide +kernel
theorem dX5_singles_32 : decode cX5_singles 32 = .ok (.getfield 7, 3) := by decide +kernel
theorem dX5_singles_35 : decode cX5_singles 35 = .ok (.sipush 460, 3) := by decide +kernel
theorem dX5_singles_38 : decode cX5_singles 38 = .ok (.bipush 16, 2) := by decide +kernel
theorem dX5_singles_40 : decode cX5_singles 40 = .ok (.iload_n 1, 1) := by decide +kernel
theorem dX5_singles_41 : decode cX5_singles 41 = .ok (.imul, 1) := by decide +kernel
theorem dX5_singles_42 : decode cX5_singles 42 = .ok (.iadd, 1) := by decide +kernel
theorem dX5_singles_43 : decode cX5_singles 43 = .ok (.iload_n 2, 1) := by decide +kernel
theorem dX5_singles_44 : decode cX5_singles 44 = .ok (.iadd, 1) := by decide +kernel
theorem dX5_singles_45 : decode cX5_singles 45 = .ok (.iconst 1, 1) := by decide +kernel
theorem dX5_singles_46 : decode cX5_singles 46 = .ok (.iastore, 1) := by decide +kernel
theorem dX5_singles_47 : decode cX5_singles 47 = .ok (.aload_n 0, 1) := by decide +kernel
theorem dX5_singles_48 : decode cX5_singles 48 = .ok (.getfield 7, 3) := by decide +kernel
theorem dX5_singles_51 : decode cX5_singles 51 = .ok (.iload_n 1, 1) := by decide +kernel
theorem dX5_singles_52 : decode cX5_singles 52 = .ok (.iload_n 2, 1) := by decide +kernel
theorem dX5_singles_53 : decode cX5_singles 53 = .ok (.iconst 0, 1) := by decide +kernel
theorem dX5_singles_54 : decode cX5_singles 54 = .ok (.invokestatic 76, 3) := by decide +kernel
theorem dX5_singles_57 : decode cX5_singles 57 = .ok (.iload_n 2, 1) := by decide +kernel
theorem dX5_singles_58 : decode cX5_singles 58 = .ok (.iastore, 1) := by decide +kernel
theorem dX5_singles_59 : decode cX5_singles 59 = .ok (.iinc 2 1, 3) := by decide +kernel
theorem dX5_singles_62 : decode cX5_singles 62 = .ok (.goto (-53), 3) := by decide +kernel
theorem dX5_singles_65 : decode cX5_singles 65 = .ok (.iinc 1 1, 3) := by decide +kernel
theorem dX5_singles_68 : decode cX5_singles 68 = .ok (.goto (-66), 3) := by decide +kernel
theorem dX5_singles_71 : decode cX5_singles 71 = .ok (.return_, 1) := by decide +kernel
theorem dX5_turns_0 : decode cX5_turns 0 = .ok (.aload_n 0, 1) := by decide +kernel
theorem dX5_turns_1 : decode cX5_turns 1 = .ok (.iload_n 1, 1) := by decide +kernel
theorem dX5_turns_2 : decode cX5_turns 2 = .ok (.iload_n 2, 1) := by decide +kernel
theorem dX5_turns_3 : decode cX5_turns 3 = .ok (.invokevirtual 80, 3) := by decide +kernel
theorem dX5_turns_6 : decode cX5_turns 6 = .ok (.istore 4, 2) := by decide +kernel
theorem dX5_turns_8 : decode cX5_turns 8 = .ok (.aload_n 0, 1) := by decide +kernel
theorem dX5_turns_9 : decode cX5_turns 9 = .ok (.iload_n 1, 1) := by decide +kernel
theorem dX5_turns_10 : decode cX5_turns 10 = .ok (.iload 4, 2) := by decide +kernel
theorem dX5_turns_12 : decode cX5_turns 12 = .ok (.invokevirtual 83, 3) := by decide +kernel
theorem dX5_turns_15 : decode cX5_turns 15 = .ok (.istore 5, 2) := by decide +kernel
theorem dX5_turns_17 : decode cX5_turns 17 = .ok (.iconst 0, 1) := by decide +kernel
theorem dX5_turns_18 : decode cX5_turns 18 = .ok (.istore 6, 2) := by decide +kernel
theorem dX5_turns_20 : decode cX5_turns 20 = .ok (.aload_n 0, 1) := by decide +kernel
theorem dX5_turns_21 : decode cX5_turns 21 = .ok (.getfield 7, 3) := by decide +kernel
theorem dX5_turns_24 : decode cX5_turns 24 = .ok (.iload_n 1, 1) := by decide +kernel
theorem dX5_turns_25 : decode cX5_turns 25 = .ok (.iload 4, 2) := by decide +kernel
theorem dX5_turns_27 : decode cX5_turns 27 = .ok (.iload 6, 2) := by decide +kernel
theorem dX5_turns_29 : decode cX5_turns 29 = .ok (.invokestatic 76, 3) := by decide +kernel
theorem dX5_turns_32 : decode cX5_turns 32 = .ok (.iaload, 1) := by decide +kernel
theorem dX5_turns_33 : decode cX5_turns 33 = .ok (.iload_n 2, 1) := by decide +kernel
theorem dX5_turns_34 : decode cX5_turns 34 = .ok (.if_icmp .eq 9, 3) := by decide +kernel
theorem dX5_turns_37 : decode cX5_turns 37 = .ok (.iinc 6 1, 3) := by decide +kernel
theorem dX5_turns_40 : decode cX5_turns 40 = .ok (.goto (-20), 3) := by decide +kernel
theorem dX5_turns_43 : decode cX5_turns 43 = .ok (.iconst 0, 1) := by decide +kernel
theorem dX5_turns_44 : decode cX5_turns 44 = .ok (.istore 7, 2) := by decide +kernel
theorem dX5_turns_46 : decode cX5_turns 46 = .ok (.iload 7, 2) := by decide +kernel
theorem dX5_turns_48 : decode cX5_turns 48 = .ok (.iload 5, 2) := by decide +kernel
theorem dX5_turns_50 : decode cX5_turns 50 = .ok (.if_icmp .ge 32, 3) := by decide +kernel
theorem dX5_turns_53 : decode cX5_turns 53 = .ok (.aload_n 3, 1) := by decide +kernel
theorem dX5_turns_54 : decode cX5_turns 54 = .ok (.iload 7, 2) := by decide +kernel
theorem dX5_turns_56 : decode cX5_turns 56 = .ok (.aload_n 0, 1) := by decide +kernel
theorem dX5_turns_57 : decode cX5_turns 57 = .ok (.getfield 7, 3) := by decide +kernel
theorem dX5_turns_60 : decode cX5_turns 60 = .ok (.iload_n 1, 1) := by decide +kernel
theorem dX5_turns_61 : decode cX5_turns 61 = .ok (.iload 4, 2) := by decide +kernel
theorem dX5_turns_63 : decode cX5_turns 63 = .ok (.iload 6, 2) := by decide +kernel
theorem dX5_turns_65 : decode cX5_turns 65 = .ok (.iload 7, 2) := by decide +kernel
theorem dX5_turns_67 : decode cX5_turns 67 = .ok (.iadd, 1) := by decide +kernel
theorem dX5_turns_68 : decode cX5_turns 68 = .ok (.iload 5, 2) := by decide +kernel
theorem dX5_turns_70 : decode cX5_turns 70 = .ok (.irem, 1) := by decide +kernel
theorem dX5_turns_71 : decode cX5_turns 71 = .ok (.invokestatic 76, 3) := by decide +kernel
theorem dX5_turns_74 : decode cX5_turns 74 = .ok (.iaload, 1) := by decide +kernel
theorem dX5_turns_75 : decode cX5_turns 75 = .ok (.iastore, 1) := by decide +kernel
theorem dX5_turns_76 : decode cX5_turns 76 = .ok (.iinc 7 1, 3) := by decide +kernel
theorem dX5_turns_79 : decode cX5_turns 79 = .ok (.goto (-33), 3) := by decide +kernel
theorem dX5_turns_82 : decode cX5_turns 82 = .ok (.iload 5, 2) := by decide +kernel
theorem dX5_turns_84 : decode cX5_turns 84 = .ok (.ireturn, 1) := by decide +kernel
theorem dX5_lays_0 : decode cX5_lays 0 = .ok (.aload_n 0, 1) := by decide +kernel
theorem dX5_lays_1 : decode cX5_lays 1 = .ok (.getfield 7, 3) := by decide +kernel
theorem dX5_lays_4 : decode cX5_lays 4 = .ok (.sipush 460, 3) := by decide +kernel
theorem dX5_lays_7 : decode cX5_lays 7 = .ok (.bipush 16, 2) := by decide +kernel
theorem dX5_lays_9 : decode cX5_lays 9 = .ok (.iload_n 1, 1) := by decide +kernel
theorem dX5_lays_10 : decode cX5_lays 10 = .ok (.imul, 1) := by decide +kernel
theorem dX5_lays_11 : decode cX5_lays 11 = .ok (.iadd, 1) := by decide +kernel
theorem dX5_lays_12 : decode cX5_lays 12 = .ok (.iload_n 2, 1) := by decide +kernel
theorem dX5_lays_13 : decode cX5_lays 13 = .ok (.iadd, 1) := by decide +kernel
theorem dX5_lays_14 : decode cX5_lays 14 = .ok (.iload 5, 2) := by decide +kernel
theorem dX5_lays_16 : decode cX5_lays 16 = .ok (.iastore, 1) := by decide +kernel
theorem dX5_lays_17 : decode cX5_lays 17 = .ok (.iconst 0, 1) := by decide +kernel
theorem dX5_lays_18 : decode cX5_lays 18 = .ok (.istore 6, 2) := by decide +kernel
theorem dX5_lays_20 : decode cX5_lays 20 = .ok (.iload 6, 2) := by decide +kernel
theorem dX5_lays_22 : decode cX5_lays 22 = .ok (.iload 5, 2) := by decide +kernel
theorem dX5_lays_24 : decode cX5_lays 24 = .ok (.if_icmp .ge 62, 3) := by decide +kernel
theorem dX5_lays_27 : decode cX5_lays 27 = .ok (.aload_n 0, 1) := by decide +kernel
theorem dX5_lays_28 : decode cX5_lays 28 = .ok (.getfield 7, 3) := by decide +kernel
theorem dX5_lays_31 : decode cX5_lays 31 = .ok (.iload_n 1, 1) := by decide +kernel
theorem dX5_lays_32 : decode cX5_lays 32 = .ok (.iload_n 2, 1) := by decide +kernel
theorem dX5_lays_33 : decode cX5_lays 33 = .ok (.iload 6, 2) := by decide +kernel
theorem dX5_lays_35 : decode cX5_lays 35 = .ok (.invokestatic 76, 3) := by decide +kernel
theorem dX5_lays_38 : decode cX5_lays 38 = .ok (.aload_n 3, 1) := by decide +kernel
theorem dX5_lays_39 : decode cX5_lays 39 = .ok (.iload 4, 2) := by decide +kernel
theorem dX5_lays_41 : decode cX5_lays 41 = .ok (.iload 6, 2) := by decide +kernel
theorem dX5_lays_43 : decode cX5_lays 43 = .ok (.iadd, 1) := by decide +kernel
theorem dX5_lays_44 : decode cX5_lays 44 = .ok (.iaload, 1) := by decide +kernel
theorem dX5_lays_45 : decode cX5_lays 45 = .ok (.iastore, 1) := by decide +kernel
theorem dX5_lays_46 : decode cX5_lays 46 = .ok (.aload_n 3, 1) := by decide +kernel
theorem dX5_lays_47 : decode cX5_lays 47 = .ok (.iload 4, 2) := by decide +kernel
theorem dX5_lays_49 : decode cX5_lays 49 = .ok (.iload 6, 2) := by decide +kernel
theorem dX5_lays_51 : decode cX5_lays 51 = .ok (.iadd, 1) := by decide +kernel
theorem dX5_lays_52 : decode cX5_lays 52 = .ok (.iaload, 1) := by decide +kernel
theorem dX5_lays_53 : decode cX5_lays 53 = .ok (.bipush 100, 2) := by decide +kernel
theorem dX5_lays_55 : decode cX5_lays 55 = .ok (.if_icmp .ge 25, 3) := by decide +kernel
theorem dX5_lays_58 : decode cX5_lays 58 = .ok (.aload_n 0, 1) := by decide +kernel
theorem dX5_lays_59 : decode cX5_lays 59 = .ok (.getfield 7, 3) := by decide +kernel
theorem dX5_lays_62 : decode cX5_lays 62 = .ok (.sipush 380, 3) := by decide +kernel
theorem dX5_lays_65 : decode cX5_lays 65 = .ok (.bipush 16, 2) := by decide +kernel
theorem dX5_lays_67 : decode cX5_lays 67 = .ok (.iload_n 1, 1) := by decide +kernel
theorem dX5_lays_68 : decode cX5_lays 68 = .ok (.imul, 1) := by decide +kernel
theorem dX5_lays_69 : decode cX5_lays 69 = .ok (.iadd, 1) := by decide +kernel
theorem dX5_lays_70 : decode cX5_lays 70 = .ok (.aload_n 3, 1) := by decide +kernel
theorem dX5_lays_71 : decode cX5_lays 71 = .ok (.iload 4, 2) := by decide +kernel
theorem dX5_lays_73 : decode cX5_lays 73 = .ok (.iload 6, 2) := by decide +kernel
theorem dX5_lays_75 : decode cX5_lays 75 = .ok (.iadd, 1) := by decide +kernel
theorem dX5_lays_76 : decode cX5_lays 76 = .ok (.iaload, 1) := by decide +kernel
theorem dX5_lays_77 : decode cX5_lays 77 = .ok (.iadd, 1) := by decide +kernel
theorem dX5_lays_78 : decode cX5_lays 78 = .ok (.iload_n 2, 1) := by decide +kernel
theorem dX5_lays_79 : decode cX5_lays 79 = .ok (.iastore, 1) := by decide +kernel
theorem dX5_lays_80 : decode cX5_lays 80 = .ok (.iinc 6 1, 3) := by decide +kernel
theorem dX5_lays_83 : decode cX5_lays 83 = .ok (.goto (-63), 3) := by decide +kernel
theorem dX5_lays_86 : decode cX5_lays 86 = .ok (.return_, 1) := by decide +kernel
theorem dX5_joins_0 : decode cX5_joins 0 = .ok (.aload_n 0, 1) := by decide +kernel
theorem dX5_joins_1 : decode cX5_joins 1 = .ok (.iload_n 1, 1) := by decide +kernel
theorem dX5_joins_2 : decode cX5_joins 2 = .ok (.aload_n 0, 1) := by decide +kernel
theorem dX5_joins_3 : decode cX5_joins 3 = .ok (.iload_n 2, 1) := by decide +kernel
theorem dX5_joins_4 : decode cX5_joins 4 = .ok (.iconst 0, 1) := by decide +kernel
theorem dX5_joins_5 : decode cX5_joins 5 = .ok (.invokevirtual 69, 3) := by decide +kernel
theorem dX5_joins_8 : decode cX5_joins 8 = .ok (.invokevirtual 80, 3) := by decide +kernel
theorem dX5_joins_11 : decode cX5_joins 11 = .ok (.istore_n 3, 1) := by decide +kernel
theorem dX5_joins_12 : decode cX5_joins 12 = .ok (.aload_n 0, 1) := by decide +kernel
theorem dX5_joins_13 : decode cX5_joins 13 = .ok (.iload_n 1, 1) := by decide +kernel
theorem dX5_joins_14 : decode cX5_joins 14 = .ok (.aload_n 0, 1) := by decide +kernel
theorem dX5_joins_15 : decode cX5_joins 15 = .ok (.iload_n 2, 1) := by decide +kernel
theorem dX5_joins_16 : decode cX5_joins 16 = .ok (.iconst 0, 1) := by decide +kernel
theorem dX5_joins_17 : decode cX5_joins 17 = .ok (.invokevirtual 69, 3) := by decide +kernel
theorem dX5_joins_20 : decode cX5_joins 20 = .ok (.aload_n 0, 1) := by decide +kernel
theorem dX5_joins_21 : decode cX5_joins 21 = .ok (.getfield 33, 3) := by decide +kernel
theorem dX5_joins_24 : decode cX5_joins 24 = .ok (.invokevirtual 86, 3) := by decide +kernel
theorem dX5_joins_27 : decode cX5_joins 27 = .ok (.istore 4, 2) := by decide +kernel
theorem dX5_joins_29 : decode cX5_joins 29 = .ok (.aload_n 0, 1) := by decide +kernel
theorem dX5_joins_30 : decode cX5_joins 30 = .ok (.iload_n 1, 1) := by decide +kernel
theorem dX5_joins_31 : decode cX5_joins 31 = .ok (.aload_n 0, 1) := by decide +kernel
theorem dX5_joins_32 : decode cX5_joins 32 = .ok (.iload_n 2, 1) := by decide +kernel
theorem dX5_joins_33 : decode cX5_joins 33 = .ok (.iconst 1, 1) := by decide +kernel
theorem dX5_joins_34 : decode cX5_joins 34 = .ok (.invokevirtual 69, 3) := by decide +kernel
theorem dX5_joins_37 : decode cX5_joins 37 = .ok (.aload_n 0, 1) := by decide +kernel
theorem dX5_joins_38 : decode cX5_joins 38 = .ok (.getfield 36, 3) := by decide +kernel
theorem dX5_joins_41 : decode cX5_joins 41 = .ok (.invokevirtual 86, 3) := by decide +kernel
theorem dX5_joins_44 : decode cX5_joins 44 = .ok (.istore 5, 2) := by decide +kernel
theorem dX5_joins_46 : decode cX5_joins 46 = .ok (.aload_n 0, 1) := by decide +kernel
theorem dX5_joins_47 : decode cX5_joins 47 = .ok (.getfield 33, 3) := by decide +kernel
theorem dX5_joins_50 : decode cX5_joins 50 = .ok (.iload 4, 2) := by decide +kernel
theorem dX5_joins_52 : decode cX5_joins 52 = .ok (.bipush 100, 2) := by decide +kernel
theorem dX5_joins_54 : decode cX5_joins 54 = .ok (.iload_n 2, 1) := by decide +kernel
theorem dX5_joins_55 : decode cX5_joins 55 = .ok (.iadd, 1) := by decide +kernel
theorem dX5_joins_56 : decode cX5_joins 56 = .ok (.iastore, 1) := by decide +kernel
theorem dX5_joins_57 : decode cX5_joins 57 = .ok (.iconst 0, 1) := by decide +kernel
theorem dX5_joins_58 : decode cX5_joins 58 = .ok (.istore 6, 2) := by decide +kernel
theorem dX5_joins_60 : decode cX5_joins 60 = .ok (.iload 6, 2) := by decide +kernel
theorem dX5_joins_62 : decode cX5_joins 62 = .ok (.iload 5, 2) := by decide +kernel
theorem dX5_joins_64 : decode cX5_joins 64 = .ok (.if_icmp .ge 28, 3) := by decide +kernel
theorem dX5_joins_67 : decode cX5_joins 67 = .ok (.aload_n 0, 1) := by decide +kernel
theorem dX5_joins_68 : decode cX5_joins 68 = .ok (.getfield 33, 3) := by decide +kernel
theorem dX5_joins_71 : decode cX5_joins 71 = .ok (.iload 4, 2) := by decide +kernel
theorem dX5_joins_73 : decode cX5_joins 73 = .ok (.iconst 1, 1) := by decide +kernel
theorem dX5_joins_74 : decode cX5_joins 74 = .ok (.iadd, 1) := by decide +kernel
theorem dX5_joins_75 : decode cX5_joins 75 = .ok (.iload 6, 2) := by decide +kernel
theorem dX5_joins_77 : decode cX5_joins 77 = .ok (.iadd, 1) := by decide +kernel
theorem dX5_joins_78 : decode cX5_joins 78 = .ok (.aload_n 0, 1) := by decide +kernel
theorem dX5_joins_79 : decode cX5_joins 79 = .ok (.getfield 36, 3) := by decide +kernel
theorem dX5_joins_82 : decode cX5_joins 82 = .ok (.iload 6, 2) := by decide +kernel
theorem dX5_joins_84 : decode cX5_joins 84 = .ok (.iaload, 1) := by decide +kernel
theorem dX5_joins_85 : decode cX5_joins 85 = .ok (.iastore, 1) := by decide +kernel
theorem dX5_joins_86 : decode cX5_joins 86 = .ok (.iinc 6 1, 3) := by decide +kernel
theorem dX5_joins_89 : decode cX5_joins 89 = .ok (.goto (-29), 3) := by decide +kernel
theorem dX5_joins_92 : decode cX5_joins 92 = .ok (.aload_n 0, 1) := by decide +kernel
theorem dX5_joins_93 : decode cX5_joins 93 = .ok (.getfield 33, 3) := by decide +kernel
theorem dX5_joins_96 : decode cX5_joins 96 = .ok (.iload 4, 2) := by decide +kernel
theorem dX5_joins_98 : decode cX5_joins 98 = .ok (.iconst 1, 1) := by decide +kernel
theorem dX5_joins_99 : decode cX5_joins 99 = .ok (.iadd, 1) := by decide +kernel
theorem dX5_joins_100 : decode cX5_joins 100 = .ok (.iload 5, 2) := by decide +kernel
theorem dX5_joins_102 : decode cX5_joins 102 = .ok (.iadd, 1) := by decide +kernel
theorem dX5_joins_103 : decode cX5_joins 103 = .ok (.bipush 100, 2) := by decide +kernel
theorem dX5_joins_105 : decode cX5_joins 105 = .ok (.iload_n 2, 1) := by decide +kernel
theorem dX5_joins_106 : decode cX5_joins 106 = .ok (.iadd, 1) := by decide +kernel
theorem dX5_joins_107 : decode cX5_joins 107 = .ok (.iastore, 1) := by decide +kernel
theorem dX5_joins_108 : decode cX5_joins 108 = .ok (.aload_n 0, 1) := by decide +kernel
theorem dX5_joins_109 : decode cX5_joins 109 = .ok (.iload_n 1, 1) := by decide +kernel
theorem dX5_joins_110 : decode cX5_joins 110 = .ok (.iload_n 3, 1) := by decide +kernel
theorem dX5_joins_111 : decode cX5_joins 111 = .ok (.aload_n 0, 1) := by decide +kernel
theorem dX5_joins_112 : decode cX5_joins 112 = .ok (.getfield 33, 3) := by decide +kernel
theorem dX5_joins_115 : decode cX5_joins 115 = .ok (.iconst 0, 1) := by decide +kernel
theorem dX5_joins_116 : decode cX5_joins 116 = .ok (.iload 4, 2) := by decide +kernel
theorem dX5_joins_118 : decode cX5_joins 118 = .ok (.iload 5, 2) := by decide +kernel
theorem dX5_joins_120 : decode cX5_joins 120 = .ok (.iadd, 1) := by decide +kernel
theorem dX5_joins_121 : decode cX5_joins 121 = .ok (.iconst 2, 1) := by decide +kernel
theorem dX5_joins_122 : decode cX5_joins 122 = .ok (.iadd, 1) := by decide +kernel
theorem dX5_joins_123 : decode cX5_joins 123 = .ok (.invokevirtual 90, 3) := by decide +kernel
theorem dX5_joins_126 : decode cX5_joins 126 = .ok (.return_, 1) := by decide +kernel
theorem dX5_splits_0 : decode cX5_splits 0 = .ok (.aload_n 0, 1) := by decide +kernel
theorem dX5_splits_1 : decode cX5_splits 1 = .ok (.iload_n 1, 1) := by decide +kernel
theorem dX5_splits_2 : decode cX5_splits 2 = .ok (.aload_n 0, 1) := by decide +kernel
theorem dX5_splits_3 : decode cX5_splits 3 = .ok (.iload_n 2, 1) := by decide +kernel
theorem dX5_splits_4 : decode cX5_splits 4 = .ok (.iconst 0, 1) := by decide +kernel
theorem dX5_splits_5 : decode cX5_splits 5 = .ok (.invokevirtual 69, 3) := by decide +kernel
theorem dX5_splits_8 : decode cX5_splits 8 = .ok (.invokevirtual 80, 3) := by decide +kernel
theorem dX5_splits_11 : decode cX5_splits 11 = .ok (.istore_n 3, 1) := by decide +kernel
theorem dX5_splits_12 : decode cX5_splits 12 = .ok (.aload_n 0, 1) := by decide +kernel
theorem dX5_splits_13 : decode cX5_splits 13 = .ok (.iload_n 1, 1) := by decide +kernel
theorem dX5_splits_14 : decode cX5_splits 14 = .ok (.iload_n 3, 1) := by decide +kernel
theorem dX5_splits_15 : decode cX5_splits 15 = .ok (.invokevirtual 83, 3) := by decide +kernel
theorem dX5_splits_18 : decode cX5_splits 18 = .ok (.istore 4, 2) := by decide +kernel
theorem dX5_splits_20 : decode cX5_splits 20 = .ok (.iconst 0, 1) := by decide +kernel
theorem dX5_splits_21 : decode cX5_splits 21 = .ok (.istore 5, 2) := by decide +kernel
theorem dX5_splits_23 : decode cX5_splits 23 = .ok (.iconst 0, 1) := by decide +kernel
theorem dX5_splits_24 : decode cX5_splits 24 = .ok (.istore 6, 2) := by decide +kernel
theorem dX5_splits_26 : decode cX5_splits 26 = .ok (.iconst 0, 1) := by decide +kernel
theorem dX5_splits_27 : decode cX5_splits 27 = .ok (.istore 7, 2) := by decide +kernel
theorem dX5_splits_29 : decode cX5_splits 29 = .ok (.iconst 0, 1) := by decide +kernel
theorem dX5_splits_30 : decode cX5_splits 30 = .ok (.istore 8, 2) := by decide +kernel
theorem dX5_splits_32 : decode cX5_splits 32 = .ok (.iload 8, 2) := by decide +kernel
theorem dX5_splits_34 : decode cX5_splits 34 = .ok (.iload 4, 2) := by decide +kernel
theorem dX5_splits_36 : decode cX5_splits 36 = .ok (.if_icmp .ge 79, 3) := by decide +kernel
theorem dX5_splits_39 : decode cX5_splits 39 = .ok (.aload_n 0, 1) := by decide +kernel
theorem dX5_splits_40 : decode cX5_splits 40 = .ok (.getfield 7, 3) := by decide +kernel
theorem dX5_splits_43 : decode cX5_splits 43 = .ok (.iload_n 1, 1) := by decide +kernel
theorem dX5_splits_44 : decode cX5_splits 44 = .ok (.iload_n 3, 1) := by decide +kernel
theorem dX5_splits_45 : decode cX5_splits 45 = .ok (.iload 8, 2) := by decide +kernel
theorem dX5_splits_47 : decode cX5_splits 47 = .ok (.invokestatic 76, 3) := by decide +kernel
theorem dX5_splits_50 : decode cX5_splits 50 = .ok (.iaload, 1) := by decide +kernel
theorem dX5_splits_51 : decode cX5_splits 51 = .ok (.istore 9, 2) := by decide +kernel
theorem dX5_splits_53 : decode cX5_splits 53 = .ok (.iload 9, 2) := by decide +kernel
theorem dX5_splits_55 : decode cX5_splits 55 = .ok (.bipush 100, 2) := by decide +kernel
theorem dX5_splits_57 : decode cX5_splits 57 = .ok (.iload_n 2, 1) := by decide +kernel
theorem dX5_splits_58 : decode cX5_splits 58 = .ok (.iadd, 1) := by decide +kernel
theorem dX5_splits_59 : decode cX5_splits 59 = .ok (.if_icmp .ne 18, 3) := by decide +kernel
theorem dX5_splits_62 : decode cX5_splits 62 = .ok (.iload 7, 2) := by decide +kernel
theorem dX5_splits_64 : decode cX5_splits 64 = .ok (.ifCond .ne 7, 3) := by decide +kernel
theorem dX5_splits_67 : decode cX5_splits 67 = .ok (.iconst 1, 1) := by decide +kernel
theorem dX5_splits_68 : decode cX5_splits 68 = .ok (.goto 4, 3) := by decide +kernel
theorem dX5_splits_71 : decode cX5_splits 71 = .ok (.iconst 0, 1) := by decide +kernel
theorem dX5_splits_72 : decode cX5_splits 72 = .ok (.istore 7, 2) := by decide +kernel
theorem dX5_splits_74 : decode cX5_splits 74 = .ok (.goto 35, 3) := by decide +kernel
theorem dX5_splits_77 : decode cX5_splits 77 = .ok (.iload 7, 2) := by decide +kernel
theorem dX5_splits_79 : decode cX5_splits 79 = .ok (.ifCond .eq 18, 3) := by decide +kernel
theorem dX5_splits_82 : decode cX5_splits 82 = .ok (.aload_n 0, 1) := by decide +kernel
theorem dX5_splits_83 : decode cX5_splits 83 = .ok (.getfield 33, 3) := by decide +kernel
theorem dX5_splits_86 : decode cX5_splits 86 = .ok (.iload 5, 2) := by decide +kernel
theorem dX5_splits_88 : decode cX5_splits 88 = .ok (.iload 9, 2) := by decide +kernel
theorem dX5_splits_90 : decode cX5_splits 90 = .ok (.iastore, 1) := by decide +kernel
theorem dX5_splits_91 : decode cX5_splits 91 = .ok (.iinc 5 1, 3) := by decide +kernel
theorem dX5_splits_94 : decode cX5_splits 94 = .ok (.goto 15, 3) := by decide +kernel
theorem dX5_splits_97 : decode cX5_splits 97 = .ok (.aload_n 0, 1) := by decide +kernel
theorem dX5_splits_98 : decode cX5_splits 98 = .ok (.getfield 36, 3) := by decide +kernel
theorem dX5_splits_101 : decode cX5_splits 101 = .ok (.iload 6, 2) := by decide +kernel
theorem dX5_splits_103 : decode cX5_splits 103 = .ok (.iload 9, 2) := by decide +kernel
theorem dX5_splits_105 : decode cX5_splits 105 = .ok (.iastore, 1) := by decide +kernel
theorem dX5_splits_106 : decode cX5_splits 106 = .ok (.iinc 6 1, 3) := by decide +kernel
theorem dX5_splits_109 : decode cX5_splits 109 = .ok (.iinc 8 1, 3) := by decide +kernel
theorem dX5_splits_112 : decode cX5_splits 112 = .ok (.goto (-80), 3) := by decide +kernel
theorem dX5_splits_115 : decode cX5_splits 115 = .ok (.aload_n 0, 1) := by decide +kernel
theorem dX5_splits_116 : decode cX5_splits 116 = .ok (.iload_n 1, 1) := by decide +kernel
theorem dX5_splits_117 : decode cX5_splits 117 = .ok (.aload_n 0, 1) := by decide +kernel
theorem dX5_splits_118 : decode cX5_splits 118 = .ok (.getfield 36, 3) := by decide +kernel
theorem dX5_splits_121 : decode cX5_splits 121 = .ok (.iload 6, 2) := by decide +kernel
theorem dX5_splits_123 : decode cX5_splits 123 = .ok (.invokestatic 94, 3) := by decide +kernel
theorem dX5_splits_126 : decode cX5_splits 126 = .ok (.aload_n 0, 1) := by decide +kernel
theorem dX5_splits_127 : decode cX5_splits 127 = .ok (.getfield 36, 3) := by decide +kernel
theorem dX5_splits_130 : decode cX5_splits 130 = .ok (.iconst 0, 1) := by decide +kernel
theorem dX5_splits_131 : decode cX5_splits 131 = .ok (.iload 6, 2) := by decide +kernel
theorem dX5_splits_133 : decode cX5_splits 133 = .ok (.invokevirtual 90, 3) := by decide +kernel
theorem dX5_splits_136 : decode cX5_splits 136 = .ok (.aload_n 0, 1) := by decide +kernel
theorem dX5_splits_137 : decode cX5_splits 137 = .ok (.iload_n 1, 1) := by decide +kernel
theorem dX5_splits_138 : decode cX5_splits 138 = .ok (.aload_n 0, 1) := by decide +kernel
theorem dX5_splits_139 : decode cX5_splits 139 = .ok (.getfield 33, 3) := by decide +kernel
theorem dX5_splits_142 : decode cX5_splits 142 = .ok (.iload 5, 2) := by decide +kernel
theorem dX5_splits_144 : decode cX5_splits 144 = .ok (.invokestatic 94, 3) := by decide +kernel
theorem dX5_splits_147 : decode cX5_splits 147 = .ok (.aload_n 0, 1) := by decide +kernel
theorem dX5_splits_148 : decode cX5_splits 148 = .ok (.getfield 33, 3) := by decide +kernel
theorem dX5_splits_151 : decode cX5_splits 151 = .ok (.iconst 0, 1) := by decide +kernel
theorem dX5_splits_152 : decode cX5_splits 152 = .ok (.iload 5, 2) := by decide +kernel
theorem dX5_splits_154 : decode cX5_splits 154 = .ok (.invokevirtual 90, 3) := by decide +kernel
theorem dX5_splits_157 : decode cX5_splits 157 = .ok (.return_, 1) := by decide +kernel
theorem dX5_slotIn_0 : decode cX5_slotIn 0 = .ok (.bipush 16, 2) := by decide +kernel
theorem dX5_slotIn_2 : decode cX5_slotIn 2 = .ok (.istore_n 2, 1) := by decide +kernel
theorem dX5_slotIn_3 : decode cX5_slotIn 3 = .ok (.iconst 0, 1) := by decide +kernel
theorem dX5_slotIn_4 : decode cX5_slotIn 4 = .ok (.istore_n 3, 1) := by decide +kernel
theorem dX5_slotIn_5 : decode cX5_slotIn 5 = .ok (.iload_n 3, 1) := by decide +kernel
theorem dX5_slotIn_6 : decode cX5_slotIn 6 = .ok (.iload_n 1, 1) := by decide +kernel
theorem dX5_slotIn_7 : decode cX5_slotIn 7 = .ok (.if_icmp .ge 20, 3) := by decide +kernel
theorem dX5_slotIn_10 : decode cX5_slotIn 10 = .ok (.aload_n 0, 1) := by decide +kernel
theorem dX5_slotIn_11 : decode cX5_slotIn 11 = .ok (.iload_n 3, 1) := by decide +kernel
theorem dX5_slotIn_12 : decode cX5_slotIn 12 = .ok (.iaload, 1) := by decide +kernel
theorem dX5_slotIn_13 : decode cX5_slotIn 13 = .ok (.iload_n 2, 1) := by decide +kernel
theorem dX5_slotIn_14 : decode cX5_slotIn 14 = .ok (.if_icmp .ge 7, 3) := by decide +kernel
theorem dX5_slotIn_17 : decode cX5_slotIn 17 = .ok (.aload_n 0, 1) := by decide +kernel
theorem dX5_slotIn_18 : decode cX5_slotIn 18 = .ok (.iload_n 3, 1) := by decide +kernel
theorem dX5_slotIn_19 : decode cX5_slotIn 19 = .ok (.iaload, 1) := by decide +kernel
theorem dX5_slotIn_20 : decode cX5_slotIn 20 = .ok (.istore_n 2, 1) := by decide +kernel
theorem dX5_slotIn_21 : decode cX5_slotIn 21 = .ok (.iinc 3 1, 3) := by decide +kernel
theorem dX5_slotIn_24 : decode cX5_slotIn 24 = .ok (.goto (-19), 3) := by decide +kernel
theorem dX5_slotIn_27 : decode cX5_slotIn 27 = .ok (.iload_n 2, 1) := by decide +kernel
theorem dX5_slotIn_28 : decode cX5_slotIn 28 = .ok (.ireturn, 1) := by decide +kernel
theorem dX5_areOne_0 : decode cX5_areOne 0 = .ok (.aload_n 0, 1) := by decide +kernel
theorem dX5_areOne_1 : decode cX5_areOne 1 = .ok (.iload_n 1, 1) := by decide +kernel
theorem dX5_areOne_2 : decode cX5_areOne 2 = .ok (.iload_n 2, 1) := by decide +kernel
theorem dX5_areOne_3 : decode cX5_areOne 3 = .ok (.invokevirtual 80, 3) := by decide +kernel
theorem dX5_areOne_6 : decode cX5_areOne 6 = .ok (.aload_n 0, 1) := by decide +kernel
theorem dX5_areOne_7 : decode cX5_areOne 7 = .ok (.iload_n 1, 1) := by decide +kernel
theorem dX5_areOne_8 : decode cX5_areOne 8 = .ok (.iload_n 3, 1) := by decide +kernel
theorem dX5_areOne_9 : decode cX5_areOne 9 = .ok (.invokevirtual 80, 3) := by decide +kernel
theorem dX5_areOne_12 : decode cX5_areOne 12 = .ok (.if_icmp .ne 7, 3) := by decide +kernel
theorem dX5_areOne_15 : decode cX5_areOne 15 = .ok (.iconst 1, 1) := by decide +kernel
theorem dX5_areOne_16 : decode cX5_areOne 16 = .ok (.goto 4, 3) := by decide +kernel
theorem dX5_areOne_19 : decode cX5_areOne 19 = .ok (.iconst 0, 1) := by decide +kernel
theorem dX5_areOne_20 : decode cX5_areOne 20 = .ok (.ireturn, 1) := by decide +kernel
theorem dX5_partOf_0 : decode cX5_partOf 0 = .ok (.iconst 0, 1) := by decide +kernel
theorem dX5_partOf_1 : decode cX5_partOf 1 = .ok (.istore_n 3, 1) := by decide +kernel
theorem dX5_partOf_2 : decode cX5_partOf 2 = .ok (.iconst 0, 1) := by decide +kernel
theorem dX5_partOf_3 : decode cX5_partOf 3 = .ok (.istore 4, 2) := by decide +kernel
theorem dX5_partOf_5 : decode cX5_partOf 5 = .ok (.iload 4, 2) := by decide +kernel
theorem dX5_partOf_7 : decode cX5_partOf 7 = .ok (.aload_n 0, 1) := by decide +kernel
theorem dX5_partOf_8 : decode cX5_partOf 8 = .ok (.getfield 7, 3) := by decide +kernel
theorem dX5_partOf_11 : decode cX5_partOf 11 = .ok (.iconst 0, 1) := by decide +kernel
theorem dX5_partOf_12 : decode cX5_partOf 12 = .ok (.iaload, 1) := by decide +kernel
theorem dX5_partOf_13 : decode cX5_partOf 13 = .ok (.if_icmp .ge 31, 3) := by decide +kernel
theorem dX5_partOf_16 : decode cX5_partOf 16 = .ok (.iload_n 3, 1) := by decide +kernel
theorem dX5_partOf_17 : decode cX5_partOf 17 = .ok (.aload_n 0, 1) := by decide +kernel
theorem dX5_partOf_18 : decode cX5_partOf 18 = .ok (.iload_n 1, 1) := by decide +kernel
theorem dX5_partOf_19 : decode cX5_partOf 19 = .ok (.iload 4, 2) := by decide +kernel
theorem dX5_partOf_21 : decode cX5_partOf 21 = .ok (.iload_n 2, 1) := by decide +kernel
theorem dX5_partOf_22 : decode cX5_partOf 22 = .ok (.invokevirtual 98, 3) := by decide +kernel
theorem dX5_partOf_25 : decode cX5_partOf 25 = .ok (.ifCond .eq 10, 3) := by decide +kernel
theorem dX5_partOf_28 : decode cX5_partOf 28 = .ok (.iconst 1, 1) := by decide +kernel
theorem dX5_partOf_29 : decode cX5_partOf 29 = .ok (.iload 4, 2) := by decide +kernel
theorem dX5_partOf_31 : decode cX5_partOf 31 = .ok (.ishl, 1) := by decide +kernel
theorem dX5_partOf_32 : decode cX5_partOf 32 = .ok (.goto 4, 3) := by decide +kernel
theorem dX5_partOf_35 : decode cX5_partOf 35 = .ok (.iconst 0, 1) := by decide +kernel
theorem dX5_partOf_36 : decode cX5_partOf 36 = .ok (.ior, 1) := by decide +kernel
theorem dX5_partOf_37 : decode cX5_partOf 37 = .ok (.istore_n 3, 1) := by decide +kernel
theorem dX5_partOf_38 : decode cX5_partOf 38 = .ok (.iinc 4 1, 3) := by decide +kernel
theorem dX5_partOf_41 : decode cX5_partOf 41 = .ok (.goto (-36), 3) := by decide +kernel
theorem dX5_partOf_44 : decode cX5_partOf 44 = .ok (.iload_n 3, 1) := by decide +kernel
theorem dX5_partOf_45 : decode cX5_partOf 45 = .ok (.ireturn, 1) := by decide +kernel
theorem dX5_members_0 : decode cX5_members 0 = .ok (.iconst 0, 1) := by decide +kernel
theorem dX5_members_1 : decode cX5_members 1 = .ok (.istore_n 1, 1) := by decide +kernel
theorem dX5_members_2 : decode cX5_members 2 = .ok (.iconst 0, 1) := by decide +kernel
theorem dX5_members_3 : decode cX5_members 3 = .ok (.istore_n 2, 1) := by decide +kernel
theorem dX5_members_4 : decode cX5_members 4 = .ok (.iload_n 2, 1) := by decide +kernel
theorem dX5_members_5 : decode cX5_members 5 = .ok (.bipush 16, 2) := by decide +kernel
theorem dX5_members_7 : decode cX5_members 7 = .ok (.if_icmp .ge 17, 3) := by decide +kernel
theorem dX5_members_10 : decode cX5_members 10 = .ok (.iload_n 1, 1) := by decide +kernel
theorem dX5_members_11 : decode cX5_members 11 = .ok (.iload_n 0, 1) := by decide +kernel
theorem dX5_members_12 : decode cX5_members 12 = .ok (.iload_n 2, 1) := by decide +kernel
theorem dX5_members_13 : decode cX5_members 13 = .ok (.ishr, 1) := by decide +kernel
theorem dX5_members_14 : decode cX5_members 14 = .ok (.iconst 1, 1) := by decide +kernel
theorem dX5_members_15 : decode cX5_members 15 = .ok (.iand, 1) := by decide +kernel
theorem dX5_members_16 : decode cX5_members 16 = .ok (.iadd, 1) := by decide +kernel
theorem dX5_members_17 : decode cX5_members 17 = .ok (.istore_n 1, 1) := by decide +kernel
theorem dX5_members_18 : decode cX5_members 18 = .ok (.iinc 2 1, 3) := by decide +kernel
theorem dX5_members_21 : decode cX5_members 21 = .ok (.goto (-17), 3) := by decide +kernel
theorem dX5_members_24 : decode cX5_members 24 = .ok (.iload_n 1, 1) := by decide +kernel
theorem dX5_members_25 : decode cX5_members 25 = .ok (.ireturn, 1) := by decide +kernel
theorem dX5_isOf_0 : decode cX5_isOf 0 = .ok (.iload_n 0, 1) := by decide +kernel
theorem dX5_isOf_1 : decode cX5_isOf 1 = .ok (.iload_n 1, 1) := by decide +kernel
theorem dX5_isOf_2 : decode cX5_isOf 2 = .ok (.ishr, 1) := by decide +kernel
theorem dX5_isOf_3 : decode cX5_isOf 3 = .ok (.iconst 1, 1) := by decide +kernel
theorem dX5_isOf_4 : decode cX5_isOf 4 = .ok (.iand, 1) := by decide +kernel
theorem dX5_isOf_5 : decode cX5_isOf 5 = .ok (.iconst 1, 1) := by decide +kernel
theorem dX5_isOf_6 : decode cX5_isOf 6 = .ok (.if_icmp .ne 7, 3) := by decide +kernel
theorem dX5_isOf_9 : decode cX5_isOf 9 = .ok (.iconst 1, 1) := by decide +kernel
theorem dX5_isOf_10 : decode cX5_isOf 10 = .ok (.goto 4, 3) := by decide +kernel
theorem dX5_isOf_13 : decode cX5_isOf 13 = .ok (.iconst 0, 1) := by decide +kernel
theorem dX5_isOf_14 : decode cX5_isOf 14 = .ok (.ireturn, 1) := by decide +kernel
theorem dX5_names_0 : decode cX5_names 0 = .ok (.iconst 0, 1) := by decide +kernel
theorem dX5_names_1 : decode cX5_names 1 = .ok (.istore_n 3, 1) := by decide +kernel
theorem dX5_names_2 : decode cX5_names 2 = .ok (.iload_n 3, 1) := by decide +kernel
theorem dX5_names_3 : decode cX5_names 3 = .ok (.aload_n 0, 1) := by decide +kernel
theorem dX5_names_4 : decode cX5_names 4 = .ok (.getfield 7, 3) := by decide +kernel
theorem dX5_names_7 : decode cX5_names 7 = .ok (.iconst 0, 1) := by decide +kernel
theorem dX5_names_8 : decode cX5_names 8 = .ok (.iaload, 1) := by decide +kernel
theorem dX5_names_9 : decode cX5_names 9 = .ok (.if_icmp .ge 26, 3) := by decide +kernel
theorem dX5_names_12 : decode cX5_names 12 = .ok (.iload_n 1, 1) := by decide +kernel
theorem dX5_names_13 : decode cX5_names 13 = .ok (.iload_n 3, 1) := by decide +kernel
theorem dX5_names_14 : decode cX5_names 14 = .ok (.invokestatic 101, 3) := by decide +kernel
theorem dX5_names_17 : decode cX5_names 17 = .ok (.ifCond .eq 12, 3) := by decide +kernel
theorem dX5_names_20 : decode cX5_names 20 = .ok (.aload_n 0, 1) := by decide +kernel
theorem dX5_names_21 : decode cX5_names 21 = .ok (.getfield 7, 3) := by decide +kernel
theorem dX5_names_24 : decode cX5_names 24 = .ok (.iconst 4, 1) := by decide +kernel
theorem dX5_names_25 : decode cX5_names 25 = .ok (.iload_n 3, 1) := by decide +kernel
theorem dX5_names_26 : decode cX5_names 26 = .ok (.iadd, 1) := by decide +kernel
theorem dX5_names_27 : decode cX5_names 27 = .ok (.iload_n 2, 1) := by decide +kernel
theorem dX5_names_28 : decode cX5_names 28 = .ok (.iastore, 1) := by decide +kernel
theorem dX5_names_29 : decode cX5_names 29 = .ok (.iinc 3 1, 3) := by decide +kernel
theorem dX5_names_32 : decode cX5_names 32 = .ok (.goto (-30), 3) := by decide +kernel
theorem dX5_names_35 : decode cX5_names 35 = .ok (.return_, 1) := by decide +kernel
theorem dX5_logs_0 : decode cX5_logs 0 = .ok (.aload_n 0, 1) := by decide +kernel
theorem dX5_logs_1 : decode cX5_logs 1 = .ok (.getfield 7, 3) := by decide +kernel
theorem dX5_logs_4 : decode cX5_logs 4 = .ok (.sipush 4340, 3) := by decide +kernel
theorem dX5_logs_7 : decode cX5_logs 7 = .ok (.iaload, 1) := by decide +kernel
theorem dX5_logs_8 : decode cX5_logs 8 = .ok (.bipush 40, 2) := by decide +kernel
theorem dX5_logs_10 : decode cX5_logs 10 = .ok (.if_icmp .ne 46, 3) := by decide +kernel
theorem dX5_logs_13 : decode cX5_logs 13 = .ok (.sipush 4220, 3) := by decide +kernel
theorem dX5_logs_16 : decode cX5_logs 16 = .ok (.istore_n 3, 1) := by decide +kernel
theorem dX5_logs_17 : decode cX5_logs 17 = .ok (.iload_n 3, 1) := by decide +kernel
theorem dX5_logs_18 : decode cX5_logs 18 = .ok (.sipush 4337, 3) := by decide +kernel
theorem dX5_logs_21 : decode cX5_logs 21 = .ok (.if_icmp .ge 23, 3) := by decide +kernel
theorem dX5_logs_24 : decode cX5_logs 24 = .ok (.aload_n 0, 1) := by decide +kernel
theorem dX5_logs_25 : decode cX5_logs 25 = .ok (.getfield 7, 3) := by decide +kernel
theorem dX5_logs_28 : decode cX5_logs 28 = .ok (.iload_n 3, 1) := by decide +kernel
theorem dX5_logs_29 : decode cX5_logs 29 = .ok (.aload_n 0, 1) := by decide +kernel
theorem dX5_logs_30 : decode cX5_logs 30 = .ok (.getfield 7, 3) := by decide +kernel
theorem dX5_logs_33 : decode cX5_logs 33 = .ok (.iload_n 3, 1) := by decide +kernel
theorem dX5_logs_34 : decode cX5_logs 34 = .ok (.iconst 3, 1) := by decide +kernel
theorem dX5_logs_35 : decode cX5_logs 35 = .ok (.iadd, 1) := by decide +kernel
theorem dX5_logs_36 : decode cX5_logs 36 = .ok (.iaload, 1) := by decide +kernel
theorem dX5_logs_37 : decode cX5_logs 37 = .ok (.iastore, 1) := by decide +kernel
theorem dX5_logs_38 : decode cX5_logs 38 = .ok (.iinc 3 1, 3) := by decide +kernel
theorem dX5_logs_41 : decode cX5_logs 41 = .ok (.goto (-24), 3) := by decide +kernel
theorem dX5_logs_44 : decode cX5_logs 44 = .ok (.aload_n 0, 1) := by decide +kernel
theorem dX5_logs_45 : decode cX5_logs 45 = .ok (.getfield 7, 3) := by decide +kernel
theorem dX5_logs_48 : decode cX5_logs 48 = .ok (.sipush 4340, 3) := by decide +kernel
theorem dX5_logs_51 : decode cX5_logs 51 = .ok (.dup2, 1) := by decide +kernel
theorem dX5_logs_52 : decode cX5_logs 52 = .ok (.iaload, 1) := by decide +kernel
theorem dX5_logs_53 : decode cX5_logs 53 = .ok (.iconst 1, 1) := by decide +kernel
theorem dX5_logs_54 : decode cX5_logs 54 = .ok (.isub, 1) := by decide +kernel
theorem dX5_logs_55 : decode cX5_logs 55 = .ok (.iastore, 1) := by decide +kernel
theorem dX5_logs_56 : decode cX5_logs 56 = .ok (.sipush 4220, 3) := by decide +kernel
theorem dX5_logs_59 : decode cX5_logs 59 = .ok (.iconst 3, 1) := by decide +kernel
theorem dX5_logs_60 : decode cX5_logs 60 = .ok (.aload_n 0, 1) := by decide +kernel
theorem dX5_logs_61 : decode cX5_logs 61 = .ok (.getfield 7, 3) := by decide +kernel
theorem dX5_logs_64 : decode cX5_logs 64 = .ok (.sipush 4340, 3) := by decide +kernel
theorem dX5_logs_67 : decode cX5_logs 67 = .ok (.iaload, 1) := by decide +kernel
theorem dX5_logs_68 : decode cX5_logs 68 = .ok (.imul, 1) := by decide +kernel
theorem dX5_logs_69 : decode cX5_logs 69 = .ok (.iadd, 1) := by decide +kernel
theorem dX5_logs_70 : decode cX5_logs 70 = .ok (.istore_n 3, 1) := by decide +kernel
theorem dX5_logs_71 : decode cX5_logs 71 = .ok (.aload_n 0, 1) := by decide +kernel
theorem dX5_logs_72 : decode cX5_logs 72 = .ok (.getfield 7, 3) := by decide +kernel
theorem dX5_logs_75 : decode cX5_logs 75 = .ok (.iload_n 3, 1) := by decide +kernel
theorem dX5_logs_76 : decode cX5_logs 76 = .ok (.iload_n 1, 1) := by decide +kernel
theorem dX5_logs_77 : decode cX5_logs 77 = .ok (.iastore, 1) := by decide +kernel
theorem dX5_logs_78 : decode cX5_logs 78 = .ok (.aload_n 0, 1) := by decide +kernel
theorem dX5_logs_79 : decode cX5_logs 79 = .ok (.getfield 7, 3) := by decide +kernel
theorem dX5_logs_82 : decode cX5_logs 82 = .ok (.iload_n 3, 1) := by decide +kernel
theorem dX5_logs_83 : decode cX5_logs 83 = .ok (.iconst 1, 1) := by decide +kernel
theorem dX5_logs_84 : decode cX5_logs 84 = .ok (.iadd, 1) := by decide +kernel
theorem dX5_logs_85 : decode cX5_logs 85 = .ok (.iload_n 2, 1) := by decide +kernel
theorem dX5_logs_86 : decode cX5_logs 86 = .ok (.iastore, 1) := by decide +kernel
theorem dX5_logs_87 : decode cX5_logs 87 = .ok (.aload_n 0, 1) := by decide +kernel
theorem dX5_logs_88 : decode cX5_logs 88 = .ok (.getfield 7, 3) := by decide +kernel
theorem dX5_logs_91 : decode cX5_logs 91 = .ok (.iload_n 3, 1) := by decide +kernel
theorem dX5_logs_92 : decode cX5_logs 92 = .ok (.iconst 2, 1) := by decide +kernel
theorem dX5_logs_93 : decode cX5_logs 93 = .ok (.iadd, 1) := by decide +kernel
theorem dX5_logs_94 : decode cX5_logs 94 = .ok (.aload_n 0, 1) := by decide +kernel
theorem dX5_logs_95 : decode cX5_logs 95 = .ok (.iload_n 1, 1) := by decide +kernel
theorem dX5_logs_96 : decode cX5_logs 96 = .ok (.iconst 3, 1) := by decide +kernel
theorem dX5_logs_97 : decode cX5_logs 97 = .ok (.invokevirtual 69, 3) := by decide +kernel
theorem dX5_logs_100 : decode cX5_logs 100 = .ok (.iastore, 1) := by decide +kernel
theorem dX5_logs_101 : decode cX5_logs 101 = .ok (.aload_n 0, 1) := by decide +kernel
theorem dX5_logs_102 : decode cX5_logs 102 = .ok (.getfield 7, 3) := by decide +kernel
theorem dX5_logs_105 : decode cX5_logs 105 = .ok (.sipush 4340, 3) := by decide +kernel
theorem dX5_logs_108 : decode cX5_logs 108 = .ok (.dup2, 1) := by decide +kernel
theorem dX5_logs_109 : decode cX5_logs 109 = .ok (.iaload, 1) := by decide +kernel
theorem dX5_logs_110 : decode cX5_logs 110 = .ok (.iconst 1, 1) := by decide +kernel
theorem dX5_logs_111 : decode cX5_logs 111 = .ok (.iadd, 1) := by decide +kernel
theorem dX5_logs_112 : decode cX5_logs 112 = .ok (.iastore, 1) := by decide +kernel
theorem dX5_logs_113 : decode cX5_logs 113 = .ok (.return_, 1) := by decide +kernel
theorem dX5_lay0_0 : decode cX5_lay0 0 = .ok (.aload_n 0, 1) := by decide +kernel
theorem dX5_lay0_1 : decode cX5_lay0 1 = .ok (.iload_n 1, 1) := by decide +kernel
theorem dX5_lay0_2 : decode cX5_lay0 2 = .ok (.invokevirtual 105, 3) := by decide +kernel
theorem dX5_lay0_5 : decode cX5_lay0 5 = .ok (.ifCond .eq 11, 3) := by decide +kernel
theorem dX5_lay0_8 : decode cX5_lay0 8 = .ok (.aload_n 0, 1) := by decide +kernel
theorem dX5_lay0_9 : decode cX5_lay0 9 = .ok (.iload_n 2, 1) := by decide +kernel
theorem dX5_lay0_10 : decode cX5_lay0 10 = .ok (.invokevirtual 105, 3) := by decide +kernel
theorem dX5_lay0_13 : decode cX5_lay0 13 = .ok (.ifCond .ne 5, 3) := by decide +kernel
theorem dX5_lay0_16 : decode cX5_lay0 16 = .ok (.iconst 1, 1) := by decide +kernel
theorem dX5_lay0_17 : decode cX5_lay0 17 = .ok (.ireturn, 1) := by decide +kernel
theorem dX5_lay0_18 : decode cX5_lay0 18 = .ok (.iload_n 1, 1) := by decide +kernel
theorem dX5_lay0_19 : decode cX5_lay0 19 = .ok (.iload_n 2, 1) := by decide +kernel
theorem dX5_lay0_20 : decode cX5_lay0 20 = .ok (.if_icmp .ne 5, 3) := by decide +kernel
theorem dX5_lay0_23 : decode cX5_lay0 23 = .ok (.iconst 2, 1) := by decide +kernel
theorem dX5_lay0_24 : decode cX5_lay0 24 = .ok (.ireturn, 1) := by decide +kernel
theorem dX5_lay0_25 : decode cX5_lay0 25 = .ok (.aload_n 0, 1) := by decide +kernel
theorem dX5_lay0_26 : decode cX5_lay0 26 = .ok (.getfield 7, 3) := by decide +kernel
theorem dX5_lay0_29 : decode cX5_lay0 29 = .ok (.iconst 1, 1) := by decide +kernel
theorem dX5_lay0_30 : decode cX5_lay0 30 = .ok (.iaload, 1) := by decide +kernel
theorem dX5_lay0_31 : decode cX5_lay0 31 = .ok (.bipush 60, 2) := by decide +kernel
theorem dX5_lay0_33 : decode cX5_lay0 33 = .ok (.if_icmp .ne 5, 3) := by decide +kernel
theorem dX5_lay0_36 : decode cX5_lay0 36 = .ok (.iconst 3, 1) := by decide +kernel
theorem dX5_lay0_37 : decode cX5_lay0 37 = .ok (.ireturn, 1) := by decide +kernel
theorem dX5_lay0_38 : decode cX5_lay0 38 = .ok (.aload_n 0, 1) := by decide +kernel
theorem dX5_lay0_39 : decode cX5_lay0 39 = .ok (.getfield 7, 3) := by decide +kernel
theorem dX5_lay0_42 : decode cX5_lay0 42 = .ok (.iconst 1, 1) := by decide +kernel
theorem dX5_lay0_43 : decode cX5_lay0 43 = .ok (.iaload, 1) := by decide +kernel
theorem dX5_lay0_44 : decode cX5_lay0 44 = .ok (.istore_n 3, 1) := by decide +kernel
theorem dX5_lay0_45 : decode cX5_lay0 45 = .ok (.aload_n 0, 1) := by decide +kernel
theorem dX5_lay0_46 : decode cX5_lay0 46 = .ok (.getfield 7, 3) := by decide +kernel
theorem dX5_lay0_49 : decode cX5_lay0 49 = .ok (.iconst 1, 1) := by decide +kernel
theorem dX5_lay0_50 : decode cX5_lay0 50 = .ok (.dup2, 1) := by decide +kernel
theorem dX5_lay0_51 : decode cX5_lay0 51 = .ok (.iaload, 1) := by decide +kernel
theorem dX5_lay0_52 : decode cX5_lay0 52 = .ok (.iconst 1, 1) := by decide +kernel
theorem dX5_lay0_53 : decode cX5_lay0 53 = .ok (.iadd, 1) := by decide +kernel
theorem dX5_lay0_54 : decode cX5_lay0 54 = .ok (.iastore, 1) := by decide +kernel
theorem dX5_lay0_55 : decode cX5_lay0 55 = .ok (.aload_n 0, 1) := by decide +kernel
theorem dX5_lay0_56 : decode cX5_lay0 56 = .ok (.iload_n 3, 1) := by decide +kernel
theorem dX5_lay0_57 : decode cX5_lay0 57 = .ok (.iconst 0, 1) := by decide +kernel
theorem dX5_lay0_58 : decode cX5_lay0 58 = .ok (.iload_n 1, 1) := by decide +kernel
theorem dX5_lay0_59 : decode cX5_lay0 59 = .ok (.invokevirtual 108, 3) := by decide +kernel
theorem dX5_lay0_62 : decode cX5_lay0 62 = .ok (.aload_n 0, 1) := by decide +kernel
theorem dX5_lay0_63 : decode cX5_lay0 63 = .ok (.iload_n 3, 1) := by decide +kernel
theorem dX5_lay0_64 : decode cX5_lay0 64 = .ok (.iconst 1, 1) := by decide +kernel
theorem dX5_lay0_65 : decode cX5_lay0 65 = .ok (.iload_n 2, 1) := by decide +kernel
theorem dX5_lay0_66 : decode cX5_lay0 66 = .ok (.invokevirtual 108, 3) := by decide +kernel
theorem dX5_lay0_69 : decode cX5_lay0 69 = .ok (.aload_n 0, 1) := by decide +kernel
theorem dX5_lay0_70 : decode cX5_lay0 70 = .ok (.iload_n 3, 1) := by decide +kernel
theorem dX5_lay0_71 : decode cX5_lay0 71 = .ok (.iconst 3, 1) := by decide +kernel
theorem dX5_lay0_72 : decode cX5_lay0 72 = .ok (.iconst 0, 1) := by decide +kernel
theorem dX5_lay0_73 : decode cX5_lay0 73 = .ok (.invokevirtual 108, 3) := by decide +kernel
theorem dX5_lay0_76 : decode cX5_lay0 76 = .ok (.aload_n 0, 1) := by decide +kernel
theorem dX5_lay0_77 : decode cX5_lay0 77 = .ok (.iload_n 3, 1) := by decide +kernel
theorem dX5_lay0_78 : decode cX5_lay0 78 = .ok (.iconst 4, 1) := by decide +kernel
theorem dX5_lay0_79 : decode cX5_lay0 79 = .ok (.iconst 0, 1) := by decide +kernel
theorem dX5_lay0_80 : decode cX5_lay0 80 = .ok (.invokevirtual 108, 3) := by decide +kernel
theorem dX5_lay0_83 : decode cX5_lay0 83 = .ok (.aload_n 0, 1) := by decide +kernel
theorem dX5_lay0_84 : decode cX5_lay0 84 = .ok (.iload_n 3, 1) := by decide +kernel
theorem dX5_lay0_85 : decode cX5_lay0 85 = .ok (.iconst 5, 1) := by decide +kernel
theorem dX5_lay0_86 : decode cX5_lay0 86 = .ok (.iconst 1, 1) := by decide +kernel
theorem dX5_lay0_87 : decode cX5_lay0 87 = .ok (.invokevirtual 108, 3) := by decide +kernel
theorem dX5_lay0_90 : decode cX5_lay0 90 = .ok (.aload_n 0, 1) := by decide +kernel
theorem dX5_lay0_91 : decode cX5_lay0 91 = .ok (.iload_n 3, 1) := by decide +kernel
theorem dX5_lay0_92 : decode cX5_lay0 92 = .ok (.iconst 2, 1) := by decide +kernel
theorem dX5_lay0_93 : decode cX5_lay0 93 = .ok (.aload_n 0, 1) := by decide +kernel
theorem dX5_lay0_94 : decode cX5_lay0 94 = .ok (.iconst 0, 1) := by decide +kernel
theorem dX5_lay0_95 : decode cX5_lay0 95 = .ok (.iload_n 1, 1) := by decide +kernel
theorem dX5_lay0_96 : decode cX5_lay0 96 = .ok (.iload_n 2, 1) := by decide +kernel
theorem dX5_lay0_97 : decode cX5_lay0 97 = .ok (.invokevirtual 98, 3) := by decide +kernel
theorem dX5_lay0_100 : decode cX5_lay0 100 = .ok (.ifCond .eq 7, 3) := by decide +kernel
theorem dX5_lay0_103 : decode cX5_lay0 103 = .ok (.iconst 1, 1) := by decide +kernel
theorem dX5_lay0_104 : decode cX5_lay0 104 = .ok (.goto 4, 3) := by decide +kernel
theorem dX5_lay0_107 : decode cX5_lay0 107 = .ok (.iconst 0, 1) := by decide +kernel
theorem dX5_lay0_108 : decode cX5_lay0 108 = .ok (.invokevirtual 108, 3) := by decide +kernel
theorem dX5_lay0_111 : decode cX5_lay0 111 = .ok (.aload_n 0, 1) := by decide +kernel
theorem dX5_lay0_112 : decode cX5_lay0 112 = .ok (.iload_n 3, 1) := by decide +kernel
theorem dX5_lay0_113 : decode cX5_lay0 113 = .ok (.aload_n 0, 1) := by decide +kernel
theorem dX5_lay0_114 : decode cX5_lay0 114 = .ok (.iload_n 3, 1) := by decide +kernel
theorem dX5_lay0_115 : decode cX5_lay0 115 = .ok (.iconst 2, 1) := by decide +kernel
theorem dX5_lay0_116 : decode cX5_lay0 116 = .ok (.invokevirtual 69, 3) := by decide +kernel
theorem dX5_lay0_119 : decode cX5_lay0 119 = .ok (.invokevirtual 112, 3) := by decide +kernel
theorem dX5_lay0_122 : decode cX5_lay0 122 = .ok (.aload_n 0, 1) := by decide +kernel
theorem dX5_lay0_123 : decode cX5_lay0 123 = .ok (.iload_n 3, 1) := by decide +kernel
theorem dX5_lay0_124 : decode cX5_lay0 124 = .ok (.iconst 2, 1) := by decide +kernel
theorem dX5_lay0_125 : decode cX5_lay0 125 = .ok (.invokevirtual 69, 3) := by decide +kernel
theorem dX5_lay0_128 : decode cX5_lay0 128 = .ok (.iconst 1, 1) := by decide +kernel
theorem dX5_lay0_129 : decode cX5_lay0 129 = .ok (.if_icmp .ne 5, 3) := by decide +kernel
theorem dX5_lay0_132 : decode cX5_lay0 132 = .ok (.iconst 0, 1) := by decide +kernel
theorem dX5_lay0_133 : decode cX5_lay0 133 = .ok (.ireturn, 1) := by decide +kernel
theorem dX5_lay0_134 : decode cX5_lay0 134 = .ok (.aload_n 0, 1) := by decide +kernel
theorem dX5_lay0_135 : decode cX5_lay0 135 = .ok (.iconst 0, 1) := by decide +kernel
theorem dX5_lay0_136 : decode cX5_lay0 136 = .ok (.iload_n 1, 1) := by decide +kernel
theorem dX5_lay0_137 : decode cX5_lay0 137 = .ok (.invokevirtual 116, 3) := by decide +kernel
theorem dX5_lay0_140 : decode cX5_lay0 140 = .ok (.invokestatic 119, 3) := by decide +kernel
theorem dX5_lay0_143 : decode cX5_lay0 143 = .ok (.istore 4, 2) := by decide +kernel
theorem dX5_lay0_145 : decode cX5_lay0 145 = .ok (.aload_n 0, 1) := by decide +kernel
theorem dX5_lay0_146 : decode cX5_lay0 146 = .ok (.iconst 0, 1) := by decide +kernel
theorem dX5_lay0_147 : decode cX5_lay0 147 = .ok (.iload_n 2, 1) := by decide +kernel
theorem dX5_lay0_148 : decode cX5_lay0 148 = .ok (.invokevirtual 116, 3) := by decide +kernel
theorem dX5_lay0_151 : decode cX5_lay0 151 = .ok (.invokestatic 119, 3) := by decide +kernel
theorem dX5_lay0_154 : decode cX5_lay0 154 = .ok (.istore 5, 2) := by decide +kernel
theorem dX5_lay0_156 : decode cX5_lay0 156 = .ok (.aload_n 0, 1) := by decide +kernel
theorem dX5_lay0_157 : decode cX5_lay0 157 = .ok (.getfield 7, 3) := by decide +kernel
theorem dX5_lay0_160 : decode cX5_lay0 160 = .ok (.iconst 4, 1) := by decide +kernel
theorem dX5_lay0_161 : decode cX5_lay0 161 = .ok (.iload_n 1, 1) := by decide +kernel
theorem dX5_lay0_162 : decode cX5_lay0 162 = .ok (.iadd, 1) := by decide +kernel
theorem dX5_lay0_163 : decode cX5_lay0 163 = .ok (.iaload, 1) := by decide +kernel
theorem dX5_lay0_164 : decode cX5_lay0 164 = .ok (.aload_n 0, 1) := by decide +kernel
theorem dX5_lay0_165 : decode cX5_lay0 165 = .ok (.getfield 7, 3) := by decide +kernel
theorem dX5_lay0_168 : decode cX5_lay0 168 = .ok (.iconst 4, 1) := by decide +kernel
theorem dX5_lay0_169 : decode cX5_lay0 169 = .ok (.iload_n 2, 1) := by decide +kernel
theorem dX5_lay0_170 : decode cX5_lay0 170 = .ok (.iadd, 1) := by decide +kernel
theorem dX5_lay0_171 : decode cX5_lay0 171 = .ok (.iaload, 1) := by decide +kernel
theorem dX5_lay0_172 : decode cX5_lay0 172 = .ok (.if_icmp .ge 14, 3) := by decide +kernel
theorem dX5_lay0_175 : decode cX5_lay0 175 = .ok (.aload_n 0, 1) := by decide +kernel
theorem dX5_lay0_176 : decode cX5_lay0 176 = .ok (.getfield 7, 3) := by decide +kernel
theorem dX5_lay0_179 : decode cX5_lay0 179 = .ok (.iconst 4, 1) := by decide +kernel
theorem dX5_lay0_180 : decode cX5_lay0 180 = .ok (.iload_n 1, 1) := by decide +kernel
theorem dX5_lay0_181 : decode cX5_lay0 181 = .ok (.iadd, 1) := by decide +kernel
theorem dX5_lay0_182 : decode cX5_lay0 182 = .ok (.iaload, 1) := by decide +kernel
theorem dX5_lay0_183 : decode cX5_lay0 183 = .ok (.goto 11, 3) := by decide +kernel
theorem dX5_lay0_186 : decode cX5_lay0 186 = .ok (.aload_n 0, 1) := by decide +kernel
theorem dX5_lay0_187 : decode cX5_lay0 187 = .ok (.getfield 7, 3) := by decide +kernel
theorem dX5_lay0_190 : decode cX5_lay0 190 = .ok (.iconst 4, 1) := by decide +kernel
theorem dX5_lay0_191 : decode cX5_lay0 191 = .ok (.iload_n 2, 1) := by decide +kernel
theorem dX5_lay0_192 : decode cX5_lay0 192 = .ok (.iadd, 1) := by decide +kernel
theorem dX5_lay0_193 : decode cX5_lay0 193 = .ok (.iaload, 1) := by decide +kernel
theorem dX5_lay0_194 : decode cX5_lay0 194 = .ok (.istore 6, 2) := by decide +kernel
theorem dX5_lay0_196 : decode cX5_lay0 196 = .ok (.iload 4, 2) := by decide +kernel
theorem dX5_lay0_198 : decode cX5_lay0 198 = .ok (.iload 5, 2) := by decide +kernel
theorem dX5_lay0_200 : decode cX5_lay0 200 = .ok (.if_icmp .le 14, 3) := by decide +kernel
theorem dX5_lay0_203 : decode cX5_lay0 203 = .ok (.aload_n 0, 1) := by decide +kernel
theorem dX5_lay0_204 : decode cX5_lay0 204 = .ok (.getfield 7, 3) := by decide +kernel
theorem dX5_lay0_207 : decode cX5_lay0 207 = .ok (.iconst 4, 1) := by decide +kernel
theorem dX5_lay0_208 : decode cX5_lay0 208 = .ok (.iload_n 1, 1) := by decide +kernel
theorem dX5_lay0_209 : decode cX5_lay0 209 = .ok (.iadd, 1) := by decide +kernel
theorem dX5_lay0_210 : decode cX5_lay0 210 = .ok (.iaload, 1) := by decide +kernel
theorem dX5_lay0_211 : decode cX5_lay0 211 = .ok (.goto 23, 3) := by decide +kernel
theorem dX5_lay0_214 : decode cX5_lay0 214 = .ok (.iload 5, 2) := by decide +kernel
theorem dX5_lay0_216 : decode cX5_lay0 216 = .ok (.iload 4, 2) := by decide +kernel
theorem dX5_lay0_218 : decode cX5_lay0 218 = .ok (.if_icmp .le 14, 3) := by decide +kernel
theorem dX5_lay0_221 : decode cX5_lay0 221 = .ok (.aload_n 0, 1) := by decide +kernel
theorem dX5_lay0_222 : decode cX5_lay0 222 = .ok (.getfield 7, 3) := by decide +kernel
theorem dX5_lay0_225 : decode cX5_lay0 225 = .ok (.iconst 4, 1) := by decide +kernel
theorem dX5_lay0_226 : decode cX5_lay0 226 = .ok (.iload_n 2, 1) := by decide +kernel
theorem dX5_lay0_227 : decode cX5_lay0 227 = .ok (.iadd, 1) := by decide +kernel
theorem dX5_lay0_228 : decode cX5_lay0 228 = .ok (.iaload, 1) := by decide +kernel
theorem dX5_lay0_229 : decode cX5_lay0 229 = .ok (.goto 5, 3) := by decide +kernel
theorem dX5_lay0_232 : decode cX5_lay0 232 = .ok (.iload 6, 2) := by decide +kernel
theorem dX5_lay0_234 : decode cX5_lay0 234 = .ok (.istore 7, 2) := by decide +kernel
theorem dX5_lay0_236 : decode cX5_lay0 236 = .ok (.aload_n 0, 1) := by decide +kernel
theorem dX5_lay0_237 : decode cX5_lay0 237 = .ok (.iconst 0, 1) := by decide +kernel
theorem dX5_lay0_238 : decode cX5_lay0 238 = .ok (.iload_n 3, 1) := by decide +kernel
theorem dX5_lay0_239 : decode cX5_lay0 239 = .ok (.invokevirtual 123, 3) := by decide +kernel
theorem dX5_lay0_242 : decode cX5_lay0 242 = .ok (.aload_n 0, 1) := by decide +kernel
theorem dX5_lay0_243 : decode cX5_lay0 243 = .ok (.aload_n 0, 1) := by decide +kernel
theorem dX5_lay0_244 : decode cX5_lay0 244 = .ok (.iconst 0, 1) := by decide +kernel
theorem dX5_lay0_245 : decode cX5_lay0 245 = .ok (.iload_n 1, 1) := by decide +kernel
theorem dX5_lay0_246 : decode cX5_lay0 246 = .ok (.invokevirtual 116, 3) := by decide +kernel
theorem dX5_lay0_249 : decode cX5_lay0 249 = .ok (.iload 7, 2) := by decide +kernel
theorem dX5_lay0_251 : decode cX5_lay0 251 = .ok (.invokevirtual 126, 3) := by decide +kernel
theorem dX5_lay0_254 : decode cX5_lay0 254 = .ok (.iconst 0, 1) := by decide +kernel
theorem dX5_lay0_255 : decode cX5_lay0 255 = .ok (.ireturn, 1) := by decide +kernel
theorem dX5_rises_0 : decode cX5_rises 0 = .ok (.aload_n 0, 1) := by decide +kernel
theorem dX5_rises_1 : decode cX5_rises 1 = .ok (.iload_n 1, 1) := by decide +kernel
theorem dX5_rises_2 : decode cX5_rises 2 = .ok (.iconst 3, 1) := by decide +kernel
theorem dX5_rises_3 : decode cX5_rises 3 = .ok (.invokevirtual 69, 3) := by decide +kernel
theorem dX5_rises_6 : decode cX5_rises 6 = .ok (.iconst 1, 1) := by decide +kernel
theorem dX5_rises_7 : decode cX5_rises 7 = .ok (.iadd, 1) := by decide +kernel
theorem dX5_rises_8 : decode cX5_rises 8 = .ok (.istore_n 2, 1) := by decide +kernel
theorem dX5_rises_9 : decode cX5_rises 9 = .ok (.aload_n 0, 1) := by decide +kernel
theorem dX5_rises_10 : decode cX5_rises 10 = .ok (.iload_n 1, 1) := by decide +kernel
theorem dX5_rises_11 : decode cX5_rises 11 = .ok (.iconst 3, 1) := by decide +kernel
theorem dX5_rises_12 : decode cX5_rises 12 = .ok (.iload_n 2, 1) := by decide +kernel
theorem dX5_rises_13 : decode cX5_rises 13 = .ok (.invokevirtual 108, 3) := by decide +kernel
theorem dX5_rises_16 : decode cX5_rises 16 = .ok (.aload_n 0, 1) := by decide +kernel
theorem dX5_rises_17 : decode cX5_rises 17 = .ok (.iload_n 1, 1) := by decide +kernel
theorem dX5_rises_18 : decode cX5_rises 18 = .ok (.iconst 4, 1) := by decide +kernel
theorem dX5_rises_19 : decode cX5_rises 19 = .ok (.aload_n 0, 1) := by decide +kernel
theorem dX5_rises_20 : decode cX5_rises 20 = .ok (.iload_n 1, 1) := by decide +kernel
theorem dX5_rises_21 : decode cX5_rises 21 = .ok (.iconst 4, 1) := by decide +kernel
theorem dX5_rises_22 : decode cX5_rises 22 = .ok (.invokevirtual 69, 3) := by decide +kernel
theorem dX5_rises_25 : decode cX5_rises 25 = .ok (.iconst 1, 1) := by decide +kernel
theorem dX5_rises_26 : decode cX5_rises 26 = .ok (.iadd, 1) := by decide +kernel
theorem dX5_rises_27 : decode cX5_rises 27 = .ok (.invokevirtual 108, 3) := by decide +kernel
theorem dX5_rises_30 : decode cX5_rises 30 = .ok (.aload_n 0, 1) := by decide +kernel
theorem dX5_rises_31 : decode cX5_rises 31 = .ok (.getfield 7, 3) := by decide +kernel
theorem dX5_rises_34 : decode cX5_rises 34 = .ok (.iconst 2, 1) := by decide +kernel
theorem dX5_rises_35 : decode cX5_rises 35 = .ok (.dup2, 1) := by decide +kernel
theorem dX5_rises_36 : decode cX5_rises 36 = .ok (.iaload, 1) := by decide +kernel
theorem dX5_rises_37 : decode cX5_rises 37 = .ok (.iconst 1, 1) := by decide +kernel
theorem dX5_rises_38 : decode cX5_rises 38 = .ok (.iadd, 1) := by decide +kernel
theorem dX5_rises_39 : decode cX5_rises 39 = .ok (.iastore, 1) := by decide +kernel
theorem dX5_rises_40 : decode cX5_rises 40 = .ok (.aload_n 0, 1) := by decide +kernel
theorem dX5_rises_41 : decode cX5_rises 41 = .ok (.iload_n 1, 1) := by decide +kernel
theorem dX5_rises_42 : decode cX5_rises 42 = .ok (.iconst 4, 1) := by decide +kernel
theorem dX5_rises_43 : decode cX5_rises 43 = .ok (.invokevirtual 112, 3) := by decide +kernel
theorem dX5_rises_46 : decode cX5_rises 46 = .ok (.aload_n 0, 1) := by decide +kernel
theorem dX5_rises_47 : decode cX5_rises 47 = .ok (.iload_n 1, 1) := by decide +kernel
theorem dX5_rises_48 : decode cX5_rises 48 = .ok (.iconst 2, 1) := by decide +kernel
theorem dX5_rises_49 : decode cX5_rises 49 = .ok (.invokevirtual 69, 3) := by decide +kernel
theorem dX5_rises_52 : decode cX5_rises 52 = .ok (.ifCond .ne 9, 3) := by decide +kernel
theorem dX5_rises_55 : decode cX5_rises 55 = .ok (.aload_n 0, 1) := by decide +kernel
theorem dX5_rises_56 : decode cX5_rises 56 = .ok (.iload_n 2, 1) := by decide +kernel
theorem dX5_rises_57 : decode cX5_rises 57 = .ok (.iload_n 1, 1) := by decide +kernel
theorem dX5_rises_58 : decode cX5_rises 58 = .ok (.invokevirtual 123, 3) := by decide +kernel
theorem dX5_rises_61 : decode cX5_rises 61 = .ok (.return_, 1) := by decide +kernel
theorem dX5_searches_0 : decode cX5_searches 0 = .ok (.aload_n 0, 1) := by decide +kernel
theorem dX5_searches_1 : decode cX5_searches 1 = .ok (.iload_n 2, 1) := by decide +kernel
theorem dX5_searches_2 : decode cX5_searches 2 = .ok (.aload_n 0, 1) := by decide +kernel
theorem dX5_searches_3 : decode cX5_searches 3 = .ok (.iload_n 1, 1) := by decide +kernel
theorem dX5_searches_4 : decode cX5_searches 4 = .ok (.iconst 0, 1) := by decide +kernel
theorem dX5_searches_5 : decode cX5_searches 5 = .ok (.invokevirtual 69, 3) := by decide +kernel
theorem dX5_searches_8 : decode cX5_searches 8 = .ok (.invokevirtual 116, 3) := by decide +kernel
theorem dX5_searches_11 : decode cX5_searches 11 = .ok (.istore_n 3, 1) := by decide +kernel
theorem dX5_searches_12 : decode cX5_searches 12 = .ok (.aload_n 0, 1) := by decide +kernel
theorem dX5_searches_13 : decode cX5_searches 13 = .ok (.iload_n 2, 1) := by decide +kernel
theorem dX5_searches_14 : decode cX5_searches 14 = .ok (.aload_n 0, 1) := by decide +kernel
theorem dX5_searches_15 : decode cX5_searches 15 = .ok (.iload_n 1, 1) := by decide +kernel
theorem dX5_searches_16 : decode cX5_searches 16 = .ok (.iconst 1, 1) := by decide +kernel
theorem dX5_searches_17 : decode cX5_searches 17 = .ok (.invokevirtual 69, 3) := by decide +kernel
theorem dX5_searches_20 : decode cX5_searches 20 = .ok (.invokevirtual 116, 3) := by decide +kernel
theorem dX5_searches_23 : decode cX5_searches 23 = .ok (.istore 4, 2) := by decide +kernel
theorem dX5_searches_25 : decode cX5_searches 25 = .ok (.iload 4, 2) := by decide +kernel
theorem dX5_searches_27 : decode cX5_searches 27 = .ok (.invokestatic 119, 3) := by decide +kernel
theorem dX5_searches_30 : decode cX5_searches 30 = .ok (.iload_n 3, 1) := by decide +kernel
theorem dX5_searches_31 : decode cX5_searches 31 = .ok (.invokestatic 119, 3) := by decide +kernel
theorem dX5_searches_34 : decode cX5_searches 34 = .ok (.if_icmp .ge 8, 3) := by decide +kernel
theorem dX5_searches_37 : decode cX5_searches 37 = .ok (.iload 4, 2) := by decide +kernel
theorem dX5_searches_39 : decode cX5_searches 39 = .ok (.goto 4, 3) := by decide +kernel
theorem dX5_searches_42 : decode cX5_searches 42 = .ok (.iload_n 3, 1) := by decide +kernel
theorem dX5_searches_43 : decode cX5_searches 43 = .ok (.istore 5, 2) := by decide +kernel
theorem dX5_searches_45 : decode cX5_searches 45 = .ok (.iload_n 2, 1) := by decide +kernel
theorem dX5_searches_46 : decode cX5_searches 46 = .ok (.aload_n 0, 1) := by decide +kernel
theorem dX5_searches_47 : decode cX5_searches 47 = .ok (.invokevirtual 129, 3) := by decide +kernel
theorem dX5_searches_50 : decode cX5_searches 50 = .ok (.if_icmp .ge 7, 3) := by decide +kernel
theorem dX5_searches_53 : decode cX5_searches 53 = .ok (.iconst 1, 1) := by decide +kernel
theorem dX5_searches_54 : decode cX5_searches 54 = .ok (.goto 4, 3) := by decide +kernel
theorem dX5_searches_57 : decode cX5_searches 57 = .ok (.iconst 0, 1) := by decide +kernel
theorem dX5_searches_58 : decode cX5_searches 58 = .ok (.istore 6, 2) := by decide +kernel
theorem dX5_searches_60 : decode cX5_searches 60 = .ok (.iconst 0, 1) := by decide +kernel
theorem dX5_searches_61 : decode cX5_searches 61 = .ok (.istore 7, 2) := by decide +kernel
theorem dX5_searches_63 : decode cX5_searches 63 = .ok (.iload 7, 2) := by decide +kernel
theorem dX5_searches_65 : decode cX5_searches 65 = .ok (.aload_n 0, 1) := by decide +kernel
theorem dX5_searches_66 : decode cX5_searches 66 = .ok (.getfield 7, 3) := by decide +kernel
theorem dX5_searches_69 : decode cX5_searches 69 = .ok (.iconst 1, 1) := by decide +kernel
theorem dX5_searches_70 : decode cX5_searches 70 = .ok (.iaload, 1) := by decide +kernel
theorem dX5_searches_71 : decode cX5_searches 71 = .ok (.if_icmp .ge 70, 3) := by decide +kernel
theorem dX5_searches_74 : decode cX5_searches 74 = .ok (.iload 6, 2) := by decide +kernel
theorem dX5_searches_76 : decode cX5_searches 76 = .ok (.ifCond .eq 65, 3) := by decide +kernel
theorem dX5_searches_79 : decode cX5_searches 79 = .ok (.aload_n 0, 1) := by decide +kernel
theorem dX5_searches_80 : decode cX5_searches 80 = .ok (.iload 7, 2) := by decide +kernel
theorem dX5_searches_82 : decode cX5_searches 82 = .ok (.invokevirtual 133, 3) := by decide +kernel
theorem dX5_searches_85 : decode cX5_searches 85 = .ok (.ifCond .eq 50, 3) := by decide +kernel
theorem dX5_searches_88 : decode cX5_searches 88 = .ok (.aload_n 0, 1) := by decide +kernel
theorem dX5_searches_89 : decode cX5_searches 89 = .ok (.iload 7, 2) := by decide +kernel
theorem dX5_searches_91 : decode cX5_searches 91 = .ok (.iconst 3, 1) := by decide +kernel
theorem dX5_searches_92 : decode cX5_searches 92 = .ok (.invokevirtual 69, 3) := by decide +kernel
theorem dX5_searches_95 : decode cX5_searches 95 = .ok (.iload_n 2, 1) := by decide +kernel
theorem dX5_searches_96 : decode cX5_searches 96 = .ok (.if_icmp .ne 39, 3) := by decide +kernel
theorem dX5_searches_99 : decode cX5_searches 99 = .ok (.iload 5, 2) := by decide +kernel
theorem dX5_searches_101 : decode cX5_searches 101 = .ok (.aload_n 0, 1) := by decide +kernel
theorem dX5_searches_102 : decode cX5_searches 102 = .ok (.iload 7, 2) := by decide +kernel
theorem dX5_searches_104 : decode cX5_searches 104 = .ok (.iconst 0, 1) := by decide +kernel
theorem dX5_searches_105 : decode cX5_searches 105 = .ok (.invokevirtual 69, 3) := by decide +kernel
theorem dX5_searches_108 : decode cX5_searches 108 = .ok (.invokestatic 101, 3) := by decide +kernel
theorem dX5_searches_111 : decode cX5_searches 111 = .ok (.ifCond .eq 24, 3) := by decide +kernel
theorem dX5_searches_114 : decode cX5_searches 114 = .ok (.iload 5, 2) := by decide +kernel
theorem dX5_searches_116 : decode cX5_searches 116 = .ok (.aload_n 0, 1) := by decide +kernel
theorem dX5_searches_117 : decode cX5_searches 117 = .ok (.iload 7, 2) := by decide +kernel
theorem dX5_searches_119 : decode cX5_searches 119 = .ok (.iconst 1, 1) := by decide +kernel
theorem dX5_searches_120 : decode cX5_searches 120 = .ok (.invokevirtual 69, 3) := by decide +kernel
theorem dX5_searches_123 : decode cX5_searches 123 = .ok (.invokestatic 101, 3) := by decide +kernel
theorem dX5_searches_126 : decode cX5_searches 126 = .ok (.ifCond .eq 9, 3) := by decide +kernel
theorem dX5_searches_129 : decode cX5_searches 129 = .ok (.aload_n 0, 1) := by decide +kernel
theorem dX5_searches_130 : decode cX5_searches 130 = .ok (.iload 7, 2) := by decide +kernel
theorem dX5_searches_132 : decode cX5_searches 132 = .ok (.invokevirtual 136, 3) := by decide +kernel
theorem dX5_searches_135 : decode cX5_searches 135 = .ok (.iinc 7 1, 3) := by decide +kernel
theorem dX5_searches_138 : decode cX5_searches 138 = .ok (.goto (-75), 3) := by decide +kernel
theorem dX5_searches_141 : decode cX5_searches 141 = .ok (.iconst 0, 1) := by decide +kernel
theorem dX5_searches_142 : decode cX5_searches 142 = .ok (.istore 7, 2) := by decide +kernel
theorem dX5_searches_144 : decode cX5_searches 144 = .ok (.iload 7, 2) := by decide +kernel
theorem dX5_searches_146 : decode cX5_searches 146 = .ok (.aload_n 0, 1) := by decide +kernel
theorem dX5_searches_147 : decode cX5_searches 147 = .ok (.getfield 7, 3) := by decide +kernel
theorem dX5_searches_150 : decode cX5_searches 150 = .ok (.iconst 1, 1) := by decide +kernel
theorem dX5_searches_151 : decode cX5_searches 151 = .ok (.iaload, 1) := by decide +kernel
theorem dX5_searches_152 : decode cX5_searches 152 = .ok (.if_icmp .ge 154, 3) := by decide +kernel
theorem dX5_searches_155 : decode cX5_searches 155 = .ok (.aload_n 0, 1) := by decide +kernel
theorem dX5_searches_156 : decode cX5_searches 156 = .ok (.iload 7, 2) := by decide +kernel
theorem dX5_searches_158 : decode cX5_searches 158 = .ok (.iconst 2, 1) := by decide +kernel
theorem dX5_searches_159 : decode cX5_searches 159 = .ok (.invokevirtual 69, 3) := by decide +kernel
theorem dX5_searches_162 : decode cX5_searches 162 = .ok (.iconst 1, 1) := by decide +kernel
theorem dX5_searches_163 : decode cX5_searches 163 = .ok (.if_icmp .ne 137, 3) := by decide +kernel
theorem dX5_searches_166 : decode cX5_searches 166 = .ok (.aload_n 0, 1) := by decide +kernel
theorem dX5_searches_167 : decode cX5_searches 167 = .ok (.iload 7, 2) := by decide +kernel
theorem dX5_searches_169 : decode cX5_searches 169 = .ok (.iconst 3, 1) := by decide +kernel
theorem dX5_searches_170 : decode cX5_searches 170 = .ok (.invokevirtual 69, 3) := by decide +kernel
theorem dX5_searches_173 : decode cX5_searches 173 = .ok (.iload_n 2, 1) := by decide +kernel
theorem dX5_searches_174 : decode cX5_searches 174 = .ok (.if_icmp .eq 6, 3) := by decide +kernel
theorem dX5_searches_177 : decode cX5_searches 177 = .ok (.goto 123, 3) := by decide +kernel
theorem dX5_searches_180 : decode cX5_searches 180 = .ok (.iload 5, 2) := by decide +kernel
theorem dX5_searches_182 : decode cX5_searches 182 = .ok (.aload_n 0, 1) := by decide +kernel
theorem dX5_searches_183 : decode cX5_searches 183 = .ok (.iload 7, 2) := by decide +kernel
theorem dX5_searches_185 : decode cX5_searches 185 = .ok (.iconst 0, 1) := by decide +kernel
theorem dX5_searches_186 : decode cX5_searches 186 = .ok (.invokevirtual 69, 3) := by decide +kernel
theorem dX5_searches_189 : decode cX5_searches 189 = .ok (.invokestatic 101, 3) := by decide +kernel
theorem dX5_searches_192 : decode cX5_searches 192 = .ok (.istore 8, 2) := by decide +kernel
theorem dX5_searches_194 : decode cX5_searches 194 = .ok (.iload 5, 2) := by decide +kernel
theorem dX5_searches_196 : decode cX5_searches 196 = .ok (.aload_n 0, 1) := by decide +kernel
theorem dX5_searches_197 : decode cX5_searches 197 = .ok (.iload 7, 2) := by decide +kernel
theorem dX5_searches_199 : decode cX5_searches 199 = .ok (.iconst 1, 1) := by decide +kernel
theorem dX5_searches_200 : decode cX5_searches 200 = .ok (.invokevirtual 69, 3) := by decide +kernel
theorem dX5_searches_203 : decode cX5_searches 203 = .ok (.invokestatic 101, 3) := by decide +kernel
theorem dX5_searches_206 : decode cX5_searches 206 = .ok (.istore 9, 2) := by decide +kernel
theorem dX5_searches_208 : decode cX5_searches 208 = .ok (.iload 8, 2) := by decide +kernel
theorem dX5_searches_210 : decode cX5_searches 210 = .ok (.ifCond .ne 11, 3) := by decide +kernel
theorem dX5_searches_213 : decode cX5_searches 213 = .ok (.iload 9, 2) := by decide +kernel
theorem dX5_searches_215 : decode cX5_searches 215 = .ok (.ifCond .ne 6, 3) := by decide +kernel
theorem dX5_searches_218 : decode cX5_searches 218 = .ok (.goto 82, 3) := by decide +kernel
theorem dX5_searches_221 : decode cX5_searches 221 = .ok (.aload_n 0, 1) := by decide +kernel
theorem dX5_searches_222 : decode cX5_searches 222 = .ok (.getfield 7, 3) := by decide +kernel
theorem dX5_searches_225 : decode cX5_searches 225 = .ok (.iconst 3, 1) := by decide +kernel
theorem dX5_searches_226 : decode cX5_searches 226 = .ok (.dup2, 1) := by decide +kernel
theorem dX5_searches_227 : decode cX5_searches 227 = .ok (.iaload, 1) := by decide +kernel
theorem dX5_searches_228 : decode cX5_searches 228 = .ok (.iconst 1, 1) := by decide +kernel
theorem dX5_searches_229 : decode cX5_searches 229 = .ok (.iadd, 1) := by decide +kernel
theorem dX5_searches_230 : decode cX5_searches 230 = .ok (.iastore, 1) := by decide +kernel
theorem dX5_searches_231 : decode cX5_searches 231 = .ok (.iload 8, 2) := by decide +kernel
theorem dX5_searches_233 : decode cX5_searches 233 = .ok (.ifCond .eq 22, 3) := by decide +kernel
theorem dX5_searches_236 : decode cX5_searches 236 = .ok (.iload 9, 2) := by decide +kernel
theorem dX5_searches_238 : decode cX5_searches 238 = .ok (.ifCond .eq 17, 3) := by decide +kernel
theorem dX5_searches_241 : decode cX5_searches 241 = .ok (.iload 6, 2) := by decide +kernel
theorem dX5_searches_243 : decode cX5_searches 243 = .ok (.ifCond .eq 57, 3) := by decide +kernel
theorem dX5_searches_246 : decode cX5_searches 246 = .ok (.aload_n 0, 1) := by decide +kernel
theorem dX5_searches_247 : decode cX5_searches 247 = .ok (.iload 7, 2) := by decide +kernel
theorem dX5_searches_249 : decode cX5_searches 249 = .ok (.invokevirtual 136, 3) := by decide +kernel
theorem dX5_searches_252 : decode cX5_searches 252 = .ok (.goto 48, 3) := by decide +kernel
theorem dX5_searches_255 : decode cX5_searches 255 = .ok (.aload_n 0, 1) := by decide +kernel
theorem dX5_searches_256 : decode cX5_searches 256 = .ok (.iload 7, 2) := by decide +kernel
theorem dX5_searches_258 : decode cX5_searches 258 = .ok (.putfield 139, 3) := by decide +kernel
theorem dX5_searches_261 : decode cX5_searches 261 = .ok (.aload_n 0, 1) := by decide +kernel
theorem dX5_searches_262 : decode cX5_searches 262 = .ok (.iload 7, 2) := by decide +kernel
theorem dX5_searches_264 : decode cX5_searches 264 = .ok (.iconst 2, 1) := by decide +kernel
theorem dX5_searches_265 : decode cX5_searches 265 = .ok (.iconst 0, 1) := by decide +kernel
theorem dX5_searches_266 : decode cX5_searches 266 = .ok (.invokevirtual 108, 3) := by decide +kernel
theorem dX5_searches_269 : decode cX5_searches 269 = .ok (.aload_n 0, 1) := by decide +kernel
theorem dX5_searches_270 : decode cX5_searches 270 = .ok (.iload 7, 2) := by decide +kernel
theorem dX5_searches_272 : decode cX5_searches 272 = .ok (.iconst 5, 1) := by decide +kernel
theorem dX5_searches_273 : decode cX5_searches 273 = .ok (.invokevirtual 112, 3) := by decide +kernel
theorem dX5_searches_276 : decode cX5_searches 276 = .ok (.iload_n 2, 1) := by decide +kernel
theorem dX5_searches_277 : decode cX5_searches 277 = .ok (.istore 10, 2) := by decide +kernel
theorem dX5_searches_279 : decode cX5_searches 279 = .ok (.iload 10, 2) := by decide +kernel
theorem dX5_searches_281 : decode cX5_searches 281 = .ok (.ifCond .lt 17, 3) := by decide +kernel
theorem dX5_searches_284 : decode cX5_searches 284 = .ok (.aload_n 0, 1) := by decide +kernel
theorem dX5_searches_285 : decode cX5_searches 285 = .ok (.iload 10, 2) := by decide +kernel
theorem dX5_searches_287 : decode cX5_searches 287 = .ok (.iload 7, 2) := by decide +kernel
theorem dX5_searches_289 : decode cX5_searches 289 = .ok (.invokevirtual 123, 3) := by decide +kernel
theorem dX5_searches_292 : decode cX5_searches 292 = .ok (.iinc 10 (-1), 3) := by decide +kernel
theorem dX5_searches_295 : decode cX5_searches 295 = .ok (.goto (-16), 3) := by decide +kernel
theorem dX5_searches_298 : decode cX5_searches 298 = .ok (.iconst 1, 1) := by decide +kernel
theorem dX5_searches_299 : decode cX5_searches 299 = .ok (.ireturn, 1) := by decide +kernel
theorem dX5_searches_300 : decode cX5_searches 300 = .ok (.iinc 7 1, 3) := by decide +kernel
theorem dX5_searches_303 : decode cX5_searches 303 = .ok (.goto (-159), 3) := by decide +kernel
theorem dX5_searches_306 : decode cX5_searches 306 = .ok (.iconst 0, 1) := by decide +kernel
theorem dX5_searches_307 : decode cX5_searches 307 = .ok (.ireturn, 1) := by decide +kernel
theorem dX5_leastName_0 : decode cX5_leastName 0 = .ok (.iconst 0, 1) := by decide +kernel
theorem dX5_leastName_1 : decode cX5_leastName 1 = .ok (.istore_n 2, 1) := by decide +kernel
theorem dX5_leastName_2 : decode cX5_leastName 2 = .ok (.iconst 1, 1) := by decide +kernel
theorem dX5_leastName_3 : decode cX5_leastName 3 = .ok (.istore_n 3, 1) := by decide +kernel
theorem dX5_leastName_4 : decode cX5_leastName 4 = .ok (.iconst 0, 1) := by decide +kernel
theorem dX5_leastName_5 : decode cX5_leastName 5 = .ok (.istore 4, 2) := by decide +kernel
theorem dX5_leastName_7 : decode cX5_leastName 7 = .ok (.iload 4, 2) := by decide +kernel
theorem dX5_leastName_9 : decode cX5_leastName 9 = .ok (.aload_n 0, 1) := by decide +kernel
theorem dX5_leastName_10 : decode cX5_leastName 10 = .ok (.getfield 7, 3) := by decide +kernel
theorem dX5_leastName_13 : decode cX5_leastName 13 = .ok (.iconst 0, 1) := by decide +kernel
theorem dX5_leastName_14 : decode cX5_leastName 14 = .ok (.iaload, 1) := by decide +kernel
theorem dX5_leastName_15 : decode cX5_leastName 15 = .ok (.if_icmp .ge 41, 3) := by decide +kernel
theorem dX5_leastName_18 : decode cX5_leastName 18 = .ok (.iload_n 3, 1) := by decide +kernel
theorem dX5_leastName_19 : decode cX5_leastName 19 = .ok (.ifCond .eq 29, 3) := by decide +kernel
theorem dX5_leastName_22 : decode cX5_leastName 22 = .ok (.iload_n 1, 1) := by decide +kernel
theorem dX5_leastName_23 : decode cX5_leastName 23 = .ok (.iload 4, 2) := by decide +kernel
theorem dX5_leastName_25 : decode cX5_leastName 25 = .ok (.invokestatic 101, 3) := by decide +kernel
theorem dX5_leastName_28 : decode cX5_leastName 28 = .ok (.ifCond .ne 16, 3) := by decide +kernel
theorem dX5_leastName_31 : decode cX5_leastName 31 = .ok (.aload_n 0, 1) := by decide +kernel
theorem dX5_leastName_32 : decode cX5_leastName 32 = .ok (.getfield 7, 3) := by decide +kernel
theorem dX5_leastName_35 : decode cX5_leastName 35 = .ok (.iconst 4, 1) := by decide +kernel
theorem dX5_leastName_36 : decode cX5_leastName 36 = .ok (.iload 4, 2) := by decide +kernel
theorem dX5_leastName_38 : decode cX5_leastName 38 = .ok (.iadd, 1) := by decide +kernel
theorem dX5_leastName_39 : decode cX5_leastName 39 = .ok (.iaload, 1) := by decide +kernel
theorem dX5_leastName_40 : decode cX5_leastName 40 = .ok (.iload_n 2, 1) := by decide +kernel
theorem dX5_leastName_41 : decode cX5_leastName 41 = .ok (.if_icmp .eq 7, 3) := by decide +kernel
theorem dX5_leastName_44 : decode cX5_leastName 44 = .ok (.iconst 1, 1) := by decide +kernel
theorem dX5_leastName_45 : decode cX5_leastName 45 = .ok (.goto 4, 3) := by decide +kernel
theorem dX5_leastName_48 : decode cX5_leastName 48 = .ok (.iconst 0, 1) := by decide +kernel
theorem dX5_leastName_49 : decode cX5_leastName 49 = .ok (.istore_n 3, 1) := by decide +kernel
theorem dX5_leastName_50 : decode cX5_leastName 50 = .ok (.iinc 4 1, 3) := by decide +kernel
theorem dX5_leastName_53 : decode cX5_leastName 53 = .ok (.goto (-46), 3) := by decide +kernel
theorem dX5_leastName_56 : decode cX5_leastName 56 = .ok (.iload_n 3, 1) := by decide +kernel
theorem dX5_leastName_57 : decode cX5_leastName 57 = .ok (.ifCond .eq 5, 3) := by decide +kernel
theorem dX5_leastName_60 : decode cX5_leastName 60 = .ok (.iload_n 2, 1) := by decide +kernel
theorem dX5_leastName_61 : decode cX5_leastName 61 = .ok (.ireturn, 1) := by decide +kernel
theorem dX5_leastName_62 : decode cX5_leastName 62 = .ok (.iinc 2 1, 3) := by decide +kernel
theorem dX5_leastName_65 : decode cX5_leastName 65 = .ok (.goto (-63), 3) := by decide +kernel
theorem dX5_lift0_0 : decode cX5_lift0 0 = .ok (.aload_n 0, 1) := by decide +kernel
theorem dX5_lift0_1 : decode cX5_lift0 1 = .ok (.iconst (-1), 1) := by decide +kernel
theorem dX5_lift0_2 : decode cX5_lift0 2 = .ok (.putfield 139, 3) := by decide +kernel
theorem dX5_lift0_5 : decode cX5_lift0 5 = .ok (.aload_n 0, 1) := by decide +kernel
theorem dX5_lift0_6 : decode cX5_lift0 6 = .ok (.iload_n 1, 1) := by decide +kernel
theorem dX5_lift0_7 : decode cX5_lift0 7 = .ok (.invokevirtual 142, 3) := by decide +kernel
theorem dX5_lift0_10 : decode cX5_lift0 10 = .ok (.ifCond .ne 5, 3) := by decide +kernel
theorem dX5_lift0_13 : decode cX5_lift0 13 = .ok (.iconst 4, 1) := by decide +kernel
theorem dX5_lift0_14 : decode cX5_lift0 14 = .ok (.ireturn, 1) := by decide +kernel
theorem dX5_lift0_15 : decode cX5_lift0 15 = .ok (.aload_n 0, 1) := by decide +kernel
theorem dX5_lift0_16 : decode cX5_lift0 16 = .ok (.iload_n 1, 1) := by decide +kernel
theorem dX5_lift0_17 : decode cX5_lift0 17 = .ok (.invokevirtual 133, 3) := by decide +kernel
theorem dX5_lift0_20 : decode cX5_lift0 20 = .ok (.istore_n 2, 1) := by decide +kernel
theorem dX5_lift0_21 : decode cX5_lift0 21 = .ok (.aload_n 0, 1) := by decide +kernel
theorem dX5_lift0_22 : decode cX5_lift0 22 = .ok (.iload_n 1, 1) := by decide +kernel
theorem dX5_lift0_23 : decode cX5_lift0 23 = .ok (.iconst 2, 1) := by decide +kernel
theorem dX5_lift0_24 : decode cX5_lift0 24 = .ok (.iconst 2, 1) := by decide +kernel
theorem dX5_lift0_25 : decode cX5_lift0 25 = .ok (.invokevirtual 108, 3) := by decide +kernel
theorem dX5_lift0_28 : decode cX5_lift0 28 = .ok (.aload_n 0, 1) := by decide +kernel
theorem dX5_lift0_29 : decode cX5_lift0 29 = .ok (.iload_n 1, 1) := by decide +kernel
theorem dX5_lift0_30 : decode cX5_lift0 30 = .ok (.iload_n 2, 1) := by decide +kernel
theorem dX5_lift0_31 : decode cX5_lift0 31 = .ok (.ifCond .eq 7, 3) := by decide +kernel
theorem dX5_lift0_34 : decode cX5_lift0 34 = .ok (.iconst 3, 1) := by decide +kernel
theorem dX5_lift0_35 : decode cX5_lift0 35 = .ok (.goto 4, 3) := by decide +kernel
theorem dX5_lift0_38 : decode cX5_lift0 38 = .ok (.iconst 2, 1) := by decide +kernel
theorem dX5_lift0_39 : decode cX5_lift0 39 = .ok (.invokevirtual 112, 3) := by decide +kernel
theorem dX5_lift0_42 : decode cX5_lift0 42 = .ok (.iload_n 2, 1) := by decide +kernel
theorem dX5_lift0_43 : decode cX5_lift0 43 = .ok (.ifCond .ne 5, 3) := by decide +kernel
theorem dX5_lift0_46 : decode cX5_lift0 46 = .ok (.iconst 0, 1) := by decide +kernel
theorem dX5_lift0_47 : decode cX5_lift0 47 = .ok (.ireturn, 1) := by decide +kernel
theorem dX5_lift0_48 : decode cX5_lift0 48 = .ok (.aload_n 0, 1) := by decide +kernel
theorem dX5_lift0_49 : decode cX5_lift0 49 = .ok (.iload_n 1, 1) := by decide +kernel
theorem dX5_lift0_50 : decode cX5_lift0 50 = .ok (.iconst 3, 1) := by decide +kernel
theorem dX5_lift0_51 : decode cX5_lift0 51 = .ok (.invokevirtual 69, 3) := by decide +kernel
theorem dX5_lift0_54 : decode cX5_lift0 54 = .ok (.istore_n 3, 1) := by decide +kernel
theorem dX5_lift0_55 : decode cX5_lift0 55 = .ok (.iload_n 3, 1) := by decide +kernel
theorem dX5_lift0_56 : decode cX5_lift0 56 = .ok (.istore 4, 2) := by decide +kernel
theorem dX5_lift0_58 : decode cX5_lift0 58 = .ok (.iload 4, 2) := by decide +kernel
theorem dX5_lift0_60 : decode cX5_lift0 60 = .ok (.ifCond .lt 16, 3) := by decide +kernel
theorem dX5_lift0_63 : decode cX5_lift0 63 = .ok (.aload_n 0, 1) := by decide +kernel
theorem dX5_lift0_64 : decode cX5_lift0 64 = .ok (.iload 4, 2) := by decide +kernel
theorem dX5_lift0_66 : decode cX5_lift0 66 = .ok (.iload_n 1, 1) := by decide +kernel
theorem dX5_lift0_67 : decode cX5_lift0 67 = .ok (.invokevirtual 145, 3) := by decide +kernel
theorem dX5_lift0_70 : decode cX5_lift0 70 = .ok (.iinc 4 (-1), 3) := by decide +kernel
theorem dX5_lift0_73 : decode cX5_lift0 73 = .ok (.goto (-15), 3) := by decide +kernel
theorem dX5_lift0_76 : decode cX5_lift0 76 = .ok (.iconst 0, 1) := by decide +kernel
theorem dX5_lift0_77 : decode cX5_lift0 77 = .ok (.istore 4, 2) := by decide +kernel
theorem dX5_lift0_79 : decode cX5_lift0 79 = .ok (.iload_n 3, 1) := by decide +kernel
theorem dX5_lift0_80 : decode cX5_lift0 80 = .ok (.istore 5, 2) := by decide +kernel
theorem dX5_lift0_82 : decode cX5_lift0 82 = .ok (.iload 5, 2) := by decide +kernel
theorem dX5_lift0_84 : decode cX5_lift0 84 = .ok (.ifCond .lt 23, 3) := by decide +kernel
theorem dX5_lift0_87 : decode cX5_lift0 87 = .ok (.iload 4, 2) := by decide +kernel
theorem dX5_lift0_89 : decode cX5_lift0 89 = .ok (.ifCond .ne 18, 3) := by decide +kernel
theorem dX5_lift0_92 : decode cX5_lift0 92 = .ok (.aload_n 0, 1) := by decide +kernel
theorem dX5_lift0_93 : decode cX5_lift0 93 = .ok (.iload_n 1, 1) := by decide +kernel
theorem dX5_lift0_94 : decode cX5_lift0 94 = .ok (.iload 5, 2) := by decide +kernel
theorem dX5_lift0_96 : decode cX5_lift0 96 = .ok (.invokevirtual 148, 3) := by decide +kernel
theorem dX5_lift0_99 : decode cX5_lift0 99 = .ok (.istore 4, 2) := by decide +kernel
theorem dX5_lift0_101 : decode cX5_lift0 101 = .ok (.iinc 5 (-1), 3) := by decide +kernel
theorem dX5_lift0_104 : decode cX5_lift0 104 = .ok (.goto (-22), 3) := by decide +kernel
theorem dX5_lift0_107 : decode cX5_lift0 107 = .ok (.iload 4, 2) := by decide +kernel
theorem dX5_lift0_109 : decode cX5_lift0 109 = .ok (.ifCond .eq 5, 3) := by decide +kernel
theorem dX5_lift0_112 : decode cX5_lift0 112 = .ok (.iconst 0, 1) := by decide +kernel
theorem dX5_lift0_113 : decode cX5_lift0 113 = .ok (.ireturn, 1) := by decide +kernel
theorem dX5_lift0_114 : decode cX5_lift0 114 = .ok (.aload_n 0, 1) := by decide +kernel
theorem dX5_lift0_115 : decode cX5_lift0 115 = .ok (.iconst 0, 1) := by decide +kernel
theorem dX5_lift0_116 : decode cX5_lift0 116 = .ok (.aload_n 0, 1) := by decide +kernel
theorem dX5_lift0_117 : decode cX5_lift0 117 = .ok (.iload_n 1, 1) := by decide +kernel
theorem dX5_lift0_118 : decode cX5_lift0 118 = .ok (.iconst 0, 1) := by decide +kernel
theorem dX5_lift0_119 : decode cX5_lift0 119 = .ok (.invokevirtual 69, 3) := by decide +kernel
theorem dX5_lift0_122 : decode cX5_lift0 122 = .ok (.invokevirtual 116, 3) := by decide +kernel
theorem dX5_lift0_125 : decode cX5_lift0 125 = .ok (.istore 5, 2) := by decide +kernel
theorem dX5_lift0_127 : decode cX5_lift0 127 = .ok (.aload_n 0, 1) := by decide +kernel
theorem dX5_lift0_128 : decode cX5_lift0 128 = .ok (.iconst 0, 1) := by decide +kernel
theorem dX5_lift0_129 : decode cX5_lift0 129 = .ok (.aload_n 0, 1) := by decide +kernel
theorem dX5_lift0_130 : decode cX5_lift0 130 = .ok (.iload_n 1, 1) := by decide +kernel
theorem dX5_lift0_131 : decode cX5_lift0 131 = .ok (.iconst 1, 1) := by decide +kernel
theorem dX5_lift0_132 : decode cX5_lift0 132 = .ok (.invokevirtual 69, 3) := by decide +kernel
theorem dX5_lift0_135 : decode cX5_lift0 135 = .ok (.invokevirtual 116, 3) := by decide +kernel
theorem dX5_lift0_138 : decode cX5_lift0 138 = .ok (.istore 6, 2) := by decide +kernel
theorem dX5_lift0_140 : decode cX5_lift0 140 = .ok (.iload 6, 2) := by decide +kernel
theorem dX5_lift0_142 : decode cX5_lift0 142 = .ok (.invokestatic 119, 3) := by decide +kernel
theorem dX5_lift0_145 : decode cX5_lift0 145 = .ok (.iload 5, 2) := by decide +kernel
theorem dX5_lift0_147 : decode cX5_lift0 147 = .ok (.invokestatic 119, 3) := by decide +kernel
theorem dX5_lift0_150 : decode cX5_lift0 150 = .ok (.if_icmp .le 8, 3) := by decide +kernel
theorem dX5_lift0_153 : decode cX5_lift0 153 = .ok (.iload 5, 2) := by decide +kernel
theorem dX5_lift0_155 : decode cX5_lift0 155 = .ok (.goto 5, 3) := by decide +kernel
theorem dX5_lift0_158 : decode cX5_lift0 158 = .ok (.iload 6, 2) := by decide +kernel
theorem dX5_lift0_160 : decode cX5_lift0 160 = .ok (.istore 7, 2) := by decide +kernel
theorem dX5_lift0_162 : decode cX5_lift0 162 = .ok (.aload_n 0, 1) := by decide +kernel
theorem dX5_lift0_163 : decode cX5_lift0 163 = .ok (.iload 7, 2) := by decide +kernel
theorem dX5_lift0_165 : decode cX5_lift0 165 = .ok (.aload_n 0, 1) := by decide +kernel
theorem dX5_lift0_166 : decode cX5_lift0 166 = .ok (.iload 7, 2) := by decide +kernel
theorem dX5_lift0_168 : decode cX5_lift0 168 = .ok (.invokevirtual 151, 3) := by decide +kernel
theorem dX5_lift0_171 : decode cX5_lift0 171 = .ok (.invokevirtual 126, 3) := by decide +kernel
theorem dX5_lift0_174 : decode cX5_lift0 174 = .ok (.iconst 0, 1) := by decide +kernel
theorem dX5_lift0_175 : decode cX5_lift0 175 = .ok (.ireturn, 1) := by decide +kernel
theorem dX5_isOnWay_0 : decode cX5_isOnWay 0 = .ok (.aload_n 0, 1) := by decide +kernel
theorem dX5_isOnWay_1 : decode cX5_isOnWay 1 = .ok (.iload_n 1, 1) := by decide +kernel
theorem dX5_isOnWay_2 : decode cX5_isOnWay 2 = .ok (.iload_n 2, 1) := by decide +kernel
theorem dX5_isOnWay_3 : decode cX5_isOnWay 3 = .ok (.invokevirtual 154, 3) := by decide +kernel
theorem dX5_isOnWay_6 : decode cX5_isOnWay 6 = .ok (.iload_n 3, 1) := by decide +kernel
theorem dX5_isOnWay_7 : decode cX5_isOnWay 7 = .ok (.invokestatic 101, 3) := by decide +kernel
theorem dX5_isOnWay_10 : decode cX5_isOnWay 10 = .ok (.ifCond .ne 7, 3) := by decide +kernel
theorem dX5_isOnWay_13 : decode cX5_isOnWay 13 = .ok (.iconst 1, 1) := by decide +kernel
theorem dX5_isOnWay_14 : decode cX5_isOnWay 14 = .ok (.goto 4, 3) := by decide +kernel
theorem dX5_isOnWay_17 : decode cX5_isOnWay 17 = .ok (.iconst 0, 1) := by decide +kernel
theorem dX5_isOnWay_18 : decode cX5_isOnWay 18 = .ok (.ireturn, 1) := by decide +kernel
theorem dX5_tiedWithout_0 : decode cX5_tiedWithout 0 = .ok (.iconst 1, 1) := by decide +kernel
theorem dX5_tiedWithout_1 : decode cX5_tiedWithout 1 = .ok (.iload_n 2, 1) := by decide +kernel
theorem dX5_tiedWithout_2 : decode cX5_tiedWithout 2 = .ok (.ishl, 1) := by decide +kernel
theorem dX5_tiedWithout_3 : decode cX5_tiedWithout 3 = .ok (.istore_n 3, 1) := by decide +kernel
theorem dX5_tiedWithout_4 : decode cX5_tiedWithout 4 = .ok (.iconst 0, 1) := by decide +kernel
theorem dX5_tiedWithout_5 : decode cX5_tiedWithout 5 = .ok (.istore 4, 2) := by decide +kernel
theorem dX5_tiedWithout_7 : decode cX5_tiedWithout 7 = .ok (.iload 4, 2) := by decide +kernel
theorem dX5_tiedWithout_9 : decode cX5_tiedWithout 9 = .ok (.iload_n 3, 1) := by decide +kernel
theorem dX5_tiedWithout_10 : decode cX5_tiedWithout 10 = .ok (.if_icmp .eq 94, 3) := by decide +kernel
theorem dX5_tiedWithout_13 : decode cX5_tiedWithout 13 = .ok (.iload_n 3, 1) := by decide +kernel
theorem dX5_tiedWithout_14 : decode cX5_tiedWithout 14 = .ok (.istore 4, 2) := by decide +kernel
theorem dX5_tiedWithout_16 : decode cX5_tiedWithout 16 = .ok (.iconst 0, 1) := by decide +kernel
theorem dX5_tiedWithout_17 : decode cX5_tiedWithout 17 = .ok (.istore 5, 2) := by decide +kernel
theorem dX5_tiedWithout_19 : decode cX5_tiedWithout 19 = .ok (.iload 5, 2) := by decide +kernel
theorem dX5_tiedWithout_21 : decode cX5_tiedWithout 21 = .ok (.aload_n 0, 1) := by decide +kernel
theorem dX5_tiedWithout_22 : decode cX5_tiedWithout 22 = .ok (.getfield 7, 3) := by decide +kernel
theorem dX5_tiedWithout_25 : decode cX5_tiedWithout 25 = .ok (.iconst 1, 1) := by decide +kernel
theorem dX5_tiedWithout_26 : decode cX5_tiedWithout 26 = .ok (.iaload, 1) := by decide +kernel
theorem dX5_tiedWithout_27 : decode cX5_tiedWithout 27 = .ok (.if_icmp .ge 74, 3) := by decide +kernel
theorem dX5_tiedWithout_30 : decode cX5_tiedWithout 30 = .ok (.aload_n 0, 1) := by decide +kernel
theorem dX5_tiedWithout_31 : decode cX5_tiedWithout 31 = .ok (.iload 5, 2) := by decide +kernel
theorem dX5_tiedWithout_33 : decode cX5_tiedWithout 33 = .ok (.invokevirtual 133, 3) := by decide +kernel
theorem dX5_tiedWithout_36 : decode cX5_tiedWithout 36 = .ok (.ifCond .eq 59, 3) := by decide +kernel
theorem dX5_tiedWithout_39 : decode cX5_tiedWithout 39 = .ok (.iload 5, 2) := by decide +kernel
theorem dX5_tiedWithout_41 : decode cX5_tiedWithout 41 = .ok (.iload_n 1, 1) := by decide +kernel
theorem dX5_tiedWithout_42 : decode cX5_tiedWithout 42 = .ok (.if_icmp .eq 53, 3) := by decide +kernel
theorem dX5_tiedWithout_45 : decode cX5_tiedWithout 45 = .ok (.iload_n 3, 1) := by decide +kernel
theorem dX5_tiedWithout_46 : decode cX5_tiedWithout 46 = .ok (.aload_n 0, 1) := by decide +kernel
theorem dX5_tiedWithout_47 : decode cX5_tiedWithout 47 = .ok (.iload 5, 2) := by decide +kernel
theorem dX5_tiedWithout_49 : decode cX5_tiedWithout 49 = .ok (.iconst 0, 1) := by decide +kernel
theorem dX5_tiedWithout_50 : decode cX5_tiedWithout 50 = .ok (.invokevirtual 69, 3) := by decide +kernel
theorem dX5_tiedWithout_53 : decode cX5_tiedWithout 53 = .ok (.invokestatic 101, 3) := by decide +kernel
theorem dX5_tiedWithout_56 : decode cX5_tiedWithout 56 = .ok (.ifCond .ne 17, 3) := by decide +kernel
theorem dX5_tiedWithout_59 : decode cX5_tiedWithout 59 = .ok (.iload_n 3, 1) := by decide +kernel
theorem dX5_tiedWithout_60 : decode cX5_tiedWithout 60 = .ok (.aload_n 0, 1) := by decide +kernel
theorem dX5_tiedWithout_61 : decode cX5_tiedWithout 61 = .ok (.iload 5, 2) := by decide +kernel
theorem dX5_tiedWithout_63 : decode cX5_tiedWithout 63 = .ok (.iconst 1, 1) := by decide +kernel
theorem dX5_tiedWithout_64 : decode cX5_tiedWithout 64 = .ok (.invokevirtual 69, 3) := by decide +kernel
theorem dX5_tiedWithout_67 : decode cX5_tiedWithout 67 = .ok (.invokestatic 101, 3) := by decide +kernel
theorem dX5_tiedWithout_70 : decode cX5_tiedWithout 70 = .ok (.ifCond .eq 25, 3) := by decide +kernel
theorem dX5_tiedWithout_73 : decode cX5_tiedWithout 73 = .ok (.iload_n 3, 1) := by decide +kernel
theorem dX5_tiedWithout_74 : decode cX5_tiedWithout 74 = .ok (.iconst 1, 1) := by decide +kernel
theorem dX5_tiedWithout_75 : decode cX5_tiedWithout 75 = .ok (.aload_n 0, 1) := by decide +kernel
theorem dX5_tiedWithout_76 : decode cX5_tiedWithout 76 = .ok (.iload 5, 2) := by decide +kernel
theorem dX5_tiedWithout_78 : decode cX5_tiedWithout 78 = .ok (.iconst 0, 1) := by decide +kernel
theorem dX5_tiedWithout_79 : decode cX5_tiedWithout 79 = .ok (.invokevirtual 69, 3) := by decide +kernel
theorem dX5_tiedWithout_82 : decode cX5_tiedWithout 82 = .ok (.ishl, 1) := by decide +kernel
theorem dX5_tiedWithout_83 : decode cX5_tiedWithout 83 = .ok (.iconst 1, 1) := by decide +kernel
theorem dX5_tiedWithout_84 : decode cX5_tiedWithout 84 = .ok (.aload_n 0, 1) := by decide +kernel
theorem dX5_tiedWithout_85 : decode cX5_tiedWithout 85 = .ok (.iload 5, 2) := by decide +kernel
theorem dX5_tiedWithout_87 : decode cX5_tiedWithout 87 = .ok (.iconst 1, 1) := by decide +kernel
theorem dX5_tiedWithout_88 : decode cX5_tiedWithout 88 = .ok (.invokevirtual 69, 3) := by decide +kernel
theorem dX5_tiedWithout_91 : decode cX5_tiedWithout 91 = .ok (.ishl, 1) := by decide +kernel
theorem dX5_tiedWithout_92 : decode cX5_tiedWithout 92 = .ok (.ior, 1) := by decide +kernel
theorem dX5_tiedWithout_93 : decode cX5_tiedWithout 93 = .ok (.ior, 1) := by decide +kernel
theorem dX5_tiedWithout_94 : decode cX5_tiedWithout 94 = .ok (.istore_n 3, 1) := by decide +kernel
theorem dX5_tiedWithout_95 : decode cX5_tiedWithout 95 = .ok (.iinc 5 1, 3) := by decide +kernel
theorem dX5_tiedWithout_98 : decode cX5_tiedWithout 98 = .ok (.goto (-79), 3) := by decide +kernel
theorem dX5_tiedWithout_101 : decode cX5_tiedWithout 101 = .ok (.goto (-94), 3) := by decide +kernel
theorem dX5_tiedWithout_104 : decode cX5_tiedWithout 104 = .ok (.iload_n 3, 1) := by decide +kernel
theorem dX5_tiedWithout_105 : decode cX5_tiedWithout 105 = .ok (.ireturn, 1) := by decide +kernel
theorem dX5_swap0_0 : decode cX5_swap0 0 = .ok (.aload_n 0, 1) := by decide +kernel
theorem dX5_swap0_1 : decode cX5_swap0 1 = .ok (.iload_n 1, 1) := by decide +kernel
theorem dX5_swap0_2 : decode cX5_swap0 2 = .ok (.invokevirtual 133, 3) := by decide +kernel
theorem dX5_swap0_5 : decode cX5_swap0 5 = .ok (.ifCond .eq 37, 3) := by decide +kernel
theorem dX5_swap0_8 : decode cX5_swap0 8 = .ok (.aload_n 0, 1) := by decide +kernel
theorem dX5_swap0_9 : decode cX5_swap0 9 = .ok (.iload_n 2, 1) := by decide +kernel
theorem dX5_swap0_10 : decode cX5_swap0 10 = .ok (.invokevirtual 142, 3) := by decide +kernel
theorem dX5_swap0_13 : decode cX5_swap0 13 = .ok (.ifCond .eq 29, 3) := by decide +kernel
theorem dX5_swap0_16 : decode cX5_swap0 16 = .ok (.aload_n 0, 1) := by decide +kernel
theorem dX5_swap0_17 : decode cX5_swap0 17 = .ok (.iload_n 2, 1) := by decide +kernel
theorem dX5_swap0_18 : decode cX5_swap0 18 = .ok (.invokevirtual 133, 3) := by decide +kernel
theorem dX5_swap0_21 : decode cX5_swap0 21 = .ok (.ifCond .ne 21, 3) := by decide +kernel
theorem dX5_swap0_24 : decode cX5_swap0 24 = .ok (.aload_n 0, 1) := by decide +kernel
theorem dX5_swap0_25 : decode cX5_swap0 25 = .ok (.iload_n 1, 1) := by decide +kernel
theorem dX5_swap0_26 : decode cX5_swap0 26 = .ok (.iconst 3, 1) := by decide +kernel
theorem dX5_swap0_27 : decode cX5_swap0 27 = .ok (.invokevirtual 69, 3) := by decide +kernel
theorem dX5_swap0_30 : decode cX5_swap0 30 = .ok (.ifCond .gt 12, 3) := by decide +kernel
theorem dX5_swap0_33 : decode cX5_swap0 33 = .ok (.aload_n 0, 1) := by decide +kernel
theorem dX5_swap0_34 : decode cX5_swap0 34 = .ok (.iload_n 2, 1) := by decide +kernel
theorem dX5_swap0_35 : decode cX5_swap0 35 = .ok (.iconst 3, 1) := by decide +kernel
theorem dX5_swap0_36 : decode cX5_swap0 36 = .ok (.invokevirtual 69, 3) := by decide +kernel
theorem dX5_swap0_39 : decode cX5_swap0 39 = .ok (.ifCond .le 5, 3) := by decide +kernel
theorem dX5_swap0_42 : decode cX5_swap0 42 = .ok (.iconst 5, 1) := by decide +kernel
theorem dX5_swap0_43 : decode cX5_swap0 43 = .ok (.ireturn, 1) := by decide +kernel
theorem dX5_swap0_44 : decode cX5_swap0 44 = .ok (.aload_n 0, 1) := by decide +kernel
theorem dX5_swap0_45 : decode cX5_swap0 45 = .ok (.iload_n 1, 1) := by decide +kernel
theorem dX5_swap0_46 : decode cX5_swap0 46 = .ok (.aload_n 0, 1) := by decide +kernel
theorem dX5_swap0_47 : decode cX5_swap0 47 = .ok (.iload_n 2, 1) := by decide +kernel
theorem dX5_swap0_48 : decode cX5_swap0 48 = .ok (.iconst 0, 1) := by decide +kernel
theorem dX5_swap0_49 : decode cX5_swap0 49 = .ok (.invokevirtual 69, 3) := by decide +kernel
theorem dX5_swap0_52 : decode cX5_swap0 52 = .ok (.aload_n 0, 1) := by decide +kernel
theorem dX5_swap0_53 : decode cX5_swap0 53 = .ok (.iload_n 2, 1) := by decide +kernel
theorem dX5_swap0_54 : decode cX5_swap0 54 = .ok (.iconst 1, 1) := by decide +kernel
theorem dX5_swap0_55 : decode cX5_swap0 55 = .ok (.invokevirtual 69, 3) := by decide +kernel
theorem dX5_swap0_58 : decode cX5_swap0 58 = .ok (.invokevirtual 157, 3) := by decide +kernel
theorem dX5_swap0_61 : decode cX5_swap0 61 = .ok (.ifCond .eq 23, 3) := by decide +kernel
theorem dX5_swap0_64 : decode cX5_swap0 64 = .ok (.aload_n 0, 1) := by decide +kernel
theorem dX5_swap0_65 : decode cX5_swap0 65 = .ok (.iconst 0, 1) := by decide +kernel
theorem dX5_swap0_66 : decode cX5_swap0 66 = .ok (.aload_n 0, 1) := by decide +kernel
theorem dX5_swap0_67 : decode cX5_swap0 67 = .ok (.iload_n 1, 1) := by decide +kernel
theorem dX5_swap0_68 : decode cX5_swap0 68 = .ok (.iconst 0, 1) := by decide +kernel
theorem dX5_swap0_69 : decode cX5_swap0 69 = .ok (.invokevirtual 69, 3) := by decide +kernel
theorem dX5_swap0_72 : decode cX5_swap0 72 = .ok (.aload_n 0, 1) := by decide +kernel
theorem dX5_swap0_73 : decode cX5_swap0 73 = .ok (.iload_n 2, 1) := by decide +kernel
theorem dX5_swap0_74 : decode cX5_swap0 74 = .ok (.iconst 0, 1) := by decide +kernel
theorem dX5_swap0_75 : decode cX5_swap0 75 = .ok (.invokevirtual 69, 3) := by decide +kernel
theorem dX5_swap0_78 : decode cX5_swap0 78 = .ok (.invokevirtual 98, 3) := by decide +kernel
theorem dX5_swap0_81 : decode cX5_swap0 81 = .ok (.ifCond .ne 5, 3) := by decide +kernel
theorem dX5_swap0_84 : decode cX5_swap0 84 = .ok (.iconst 5, 1) := by decide +kernel
theorem dX5_swap0_85 : decode cX5_swap0 85 = .ok (.ireturn, 1) := by decide +kernel
theorem dX5_swap0_86 : decode cX5_swap0 86 = .ok (.aload_n 0, 1) := by decide +kernel
theorem dX5_swap0_87 : decode cX5_swap0 87 = .ok (.iconst 0, 1) := by decide +kernel
theorem dX5_swap0_88 : decode cX5_swap0 88 = .ok (.iload_n 1, 1) := by decide +kernel
theorem dX5_swap0_89 : decode cX5_swap0 89 = .ok (.invokevirtual 145, 3) := by decide +kernel
theorem dX5_swap0_92 : decode cX5_swap0 92 = .ok (.aload_n 0, 1) := by decide +kernel
theorem dX5_swap0_93 : decode cX5_swap0 93 = .ok (.iload_n 1, 1) := by decide +kernel
theorem dX5_swap0_94 : decode cX5_swap0 94 = .ok (.iconst 2, 1) := by decide +kernel
theorem dX5_swap0_95 : decode cX5_swap0 95 = .ok (.iconst 1, 1) := by decide +kernel
theorem dX5_swap0_96 : decode cX5_swap0 96 = .ok (.invokevirtual 108, 3) := by decide +kernel
theorem dX5_swap0_99 : decode cX5_swap0 99 = .ok (.aload_n 0, 1) := by decide +kernel
theorem dX5_swap0_100 : decode cX5_swap0 100 = .ok (.iload_n 2, 1) := by decide +kernel
theorem dX5_swap0_101 : decode cX5_swap0 101 = .ok (.iconst 2, 1) := by decide +kernel
theorem dX5_swap0_102 : decode cX5_swap0 102 = .ok (.iconst 0, 1) := by decide +kernel
theorem dX5_swap0_103 : decode cX5_swap0 103 = .ok (.invokevirtual 108, 3) := by decide +kernel
theorem dX5_swap0_106 : decode cX5_swap0 106 = .ok (.aload_n 0, 1) := by decide +kernel
theorem dX5_swap0_107 : decode cX5_swap0 107 = .ok (.iconst 0, 1) := by decide +kernel
theorem dX5_swap0_108 : decode cX5_swap0 108 = .ok (.iload_n 2, 1) := by decide +kernel
theorem dX5_swap0_109 : decode cX5_swap0 109 = .ok (.invokevirtual 123, 3) := by decide +kernel
theorem dX5_swap0_112 : decode cX5_swap0 112 = .ok (.iconst 0, 1) := by decide +kernel
theorem dX5_swap0_113 : decode cX5_swap0 113 = .ok (.ireturn, 1) := by decide +kernel
theorem dX5_fail0_0 : decode cX5_fail0 0 = .ok (.aload_n 0, 1) := by decide +kernel
theorem dX5_fail0_1 : decode cX5_fail0 1 = .ok (.iconst 0, 1) := by decide +kernel
theorem dX5_fail0_2 : decode cX5_fail0 2 = .ok (.putfield 160, 3) := by decide +kernel
theorem dX5_fail0_5 : decode cX5_fail0 5 = .ok (.aload_n 0, 1) := by decide +kernel
theorem dX5_fail0_6 : decode cX5_fail0 6 = .ok (.iload_n 1, 1) := by decide +kernel
theorem dX5_fail0_7 : decode cX5_fail0 7 = .ok (.invokevirtual 105, 3) := by decide +kernel
theorem dX5_fail0_10 : decode cX5_fail0 10 = .ok (.ifCond .ne 5, 3) := by decide +kernel
theorem dX5_fail0_13 : decode cX5_fail0 13 = .ok (.iconst 1, 1) := by decide +kernel
theorem dX5_fail0_14 : decode cX5_fail0 14 = .ok (.ireturn, 1) := by decide +kernel
theorem dX5_fail0_15 : decode cX5_fail0 15 = .ok (.iconst 0, 1) := by decide +kernel
theorem dX5_fail0_16 : decode cX5_fail0 16 = .ok (.istore_n 2, 1) := by decide +kernel
theorem dX5_fail0_17 : decode cX5_fail0 17 = .ok (.iload_n 2, 1) := by decide +kernel
theorem dX5_fail0_18 : decode cX5_fail0 18 = .ok (.aload_n 0, 1) := by decide +kernel
theorem dX5_fail0_19 : decode cX5_fail0 19 = .ok (.getfield 7, 3) := by decide +kernel
theorem dX5_fail0_22 : decode cX5_fail0 22 = .ok (.iconst 1, 1) := by decide +kernel
theorem dX5_fail0_23 : decode cX5_fail0 23 = .ok (.iaload, 1) := by decide +kernel
theorem dX5_fail0_24 : decode cX5_fail0 24 = .ok (.if_icmp .ge 56, 3) := by decide +kernel
theorem dX5_fail0_27 : decode cX5_fail0 27 = .ok (.aload_n 0, 1) := by decide +kernel
theorem dX5_fail0_28 : decode cX5_fail0 28 = .ok (.iload_n 2, 1) := by decide +kernel
theorem dX5_fail0_29 : decode cX5_fail0 29 = .ok (.invokevirtual 142, 3) := by decide +kernel
theorem dX5_fail0_32 : decode cX5_fail0 32 = .ok (.ifCond .eq 42, 3) := by decide +kernel
theorem dX5_fail0_35 : decode cX5_fail0 35 = .ok (.aload_n 0, 1) := by decide +kernel
theorem dX5_fail0_36 : decode cX5_fail0 36 = .ok (.iload_n 2, 1) := by decide +kernel
theorem dX5_fail0_37 : decode cX5_fail0 37 = .ok (.iconst 0, 1) := by decide +kernel
theorem dX5_fail0_38 : decode cX5_fail0 38 = .ok (.invokevirtual 69, 3) := by decide +kernel
theorem dX5_fail0_41 : decode cX5_fail0 41 = .ok (.iload_n 1, 1) := by decide +kernel
theorem dX5_fail0_42 : decode cX5_fail0 42 = .ok (.if_icmp .eq 16, 3) := by decide +kernel
theorem dX5_fail0_45 : decode cX5_fail0 45 = .ok (.aload_n 0, 1) := by decide +kernel
theorem dX5_fail0_46 : decode cX5_fail0 46 = .ok (.iload_n 2, 1) := by decide +kernel
theorem dX5_fail0_47 : decode cX5_fail0 47 = .ok (.iconst 1, 1) := by decide +kernel
theorem dX5_fail0_48 : decode cX5_fail0 48 = .ok (.invokevirtual 69, 3) := by decide +kernel
theorem dX5_fail0_51 : decode cX5_fail0 51 = .ok (.iload_n 1, 1) := by decide +kernel
theorem dX5_fail0_52 : decode cX5_fail0 52 = .ok (.if_icmp .eq 6, 3) := by decide +kernel
theorem dX5_fail0_55 : decode cX5_fail0 55 = .ok (.goto 19, 3) := by decide +kernel
theorem dX5_fail0_58 : decode cX5_fail0 58 = .ok (.aload_n 0, 1) := by decide +kernel
theorem dX5_fail0_59 : decode cX5_fail0 59 = .ok (.iload_n 2, 1) := by decide +kernel
theorem dX5_fail0_60 : decode cX5_fail0 60 = .ok (.invokevirtual 163, 3) := by decide +kernel
theorem dX5_fail0_63 : decode cX5_fail0 63 = .ok (.istore_n 3, 1) := by decide +kernel
theorem dX5_fail0_64 : decode cX5_fail0 64 = .ok (.aload_n 0, 1) := by decide +kernel
theorem dX5_fail0_65 : decode cX5_fail0 65 = .ok (.dup, 1) := by decide +kernel
theorem dX5_fail0_66 : decode cX5_fail0 66 = .ok (.getfield 160, 3) := by decide +kernel
theorem dX5_fail0_69 : decode cX5_fail0 69 = .ok (.iconst 1, 1) := by decide +kernel
theorem dX5_fail0_70 : decode cX5_fail0 70 = .ok (.iadd, 1) := by decide +kernel
theorem dX5_fail0_71 : decode cX5_fail0 71 = .ok (.putfield 160, 3) := by decide +kernel
theorem dX5_fail0_74 : decode cX5_fail0 74 = .ok (.iinc 2 1, 3) := by decide +kernel
theorem dX5_fail0_77 : decode cX5_fail0 77 = .ok (.goto (-60), 3) := by decide +kernel
theorem dX5_fail0_80 : decode cX5_fail0 80 = .ok (.iconst 0, 1) := by decide +kernel
theorem dX5_fail0_81 : decode cX5_fail0 81 = .ok (.ireturn, 1) := by decide +kernel
theorem dX5_cost0_0 : decode cX5_cost0 0 = .ok (.aload_n 0, 1) := by decide +kernel
theorem dX5_cost0_1 : decode cX5_cost0 1 = .ok (.iload_n 1, 1) := by decide +kernel
theorem dX5_cost0_2 : decode cX5_cost0 2 = .ok (.invokevirtual 142, 3) := by decide +kernel
theorem dX5_cost0_5 : decode cX5_cost0 5 = .ok (.ifCond .ne 5, 3) := by decide +kernel
theorem dX5_cost0_8 : decode cX5_cost0 8 = .ok (.iconst 4, 1) := by decide +kernel
theorem dX5_cost0_9 : decode cX5_cost0 9 = .ok (.ireturn, 1) := by decide +kernel
theorem dX5_cost0_10 : decode cX5_cost0 10 = .ok (.aload_n 0, 1) := by decide +kernel
theorem dX5_cost0_11 : decode cX5_cost0 11 = .ok (.iload_n 1, 1) := by decide +kernel
theorem dX5_cost0_12 : decode cX5_cost0 12 = .ok (.iconst 5, 1) := by decide +kernel
theorem dX5_cost0_13 : decode cX5_cost0 13 = .ok (.iload_n 2, 1) := by decide +kernel
theorem dX5_cost0_14 : decode cX5_cost0 14 = .ok (.invokevirtual 108, 3) := by decide +kernel
theorem dX5_cost0_17 : decode cX5_cost0 17 = .ok (.iconst 0, 1) := by decide +kernel
theorem dX5_cost0_18 : decode cX5_cost0 18 = .ok (.ireturn, 1) := by decide +kernel
theorem dX5_tidy0_0 : decode cX5_tidy0 0 = .ok (.iconst 0, 1) := by decide +kernel
theorem dX5_tidy0_1 : decode cX5_tidy0 1 = .ok (.istore_n 1, 1) := by decide +kernel
theorem dX5_tidy0_2 : decode cX5_tidy0 2 = .ok (.aload_n 0, 1) := by decide +kernel
theorem dX5_tidy0_3 : decode cX5_tidy0 3 = .ok (.invokevirtual 73, 3) := by decide +kernel
theorem dX5_tidy0_6 : decode cX5_tidy0 6 = .ok (.iconst 0, 1) := by decide +kernel
theorem dX5_tidy0_7 : decode cX5_tidy0 7 = .ok (.istore_n 2, 1) := by decide +kernel
theorem dX5_tidy0_8 : decode cX5_tidy0 8 = .ok (.iload_n 2, 1) := by decide +kernel
theorem dX5_tidy0_9 : decode cX5_tidy0 9 = .ok (.aload_n 0, 1) := by decide +kernel
theorem dX5_tidy0_10 : decode cX5_tidy0 10 = .ok (.getfield 7, 3) := by decide +kernel
theorem dX5_tidy0_13 : decode cX5_tidy0 13 = .ok (.iconst 1, 1) := by decide +kernel
theorem dX5_tidy0_14 : decode cX5_tidy0 14 = .ok (.iaload, 1) := by decide +kernel
theorem dX5_tidy0_15 : decode cX5_tidy0 15 = .ok (.if_icmp .ge 97, 3) := by decide +kernel
theorem dX5_tidy0_18 : decode cX5_tidy0 18 = .ok (.aload_n 0, 1) := by decide +kernel
theorem dX5_tidy0_19 : decode cX5_tidy0 19 = .ok (.iload_n 2, 1) := by decide +kernel
theorem dX5_tidy0_20 : decode cX5_tidy0 20 = .ok (.invokevirtual 142, 3) := by decide +kernel
theorem dX5_tidy0_23 : decode cX5_tidy0 23 = .ok (.ifCond .ne 6, 3) := by decide +kernel
theorem dX5_tidy0_26 : decode cX5_tidy0 26 = .ok (.goto 80, 3) := by decide +kernel
theorem dX5_tidy0_29 : decode cX5_tidy0 29 = .ok (.aload_n 0, 1) := by decide +kernel
theorem dX5_tidy0_30 : decode cX5_tidy0 30 = .ok (.iconst 0, 1) := by decide +kernel
theorem dX5_tidy0_31 : decode cX5_tidy0 31 = .ok (.aload_n 0, 1) := by decide +kernel
theorem dX5_tidy0_32 : decode cX5_tidy0 32 = .ok (.iload_n 2, 1) := by decide +kernel
theorem dX5_tidy0_33 : decode cX5_tidy0 33 = .ok (.iconst 0, 1) := by decide +kernel
theorem dX5_tidy0_34 : decode cX5_tidy0 34 = .ok (.invokevirtual 69, 3) := by decide +kernel
theorem dX5_tidy0_37 : decode cX5_tidy0 37 = .ok (.aload_n 0, 1) := by decide +kernel
theorem dX5_tidy0_38 : decode cX5_tidy0 38 = .ok (.iload_n 2, 1) := by decide +kernel
theorem dX5_tidy0_39 : decode cX5_tidy0 39 = .ok (.iconst 1, 1) := by decide +kernel
theorem dX5_tidy0_40 : decode cX5_tidy0 40 = .ok (.invokevirtual 69, 3) := by decide +kernel
theorem dX5_tidy0_43 : decode cX5_tidy0 43 = .ok (.invokevirtual 98, 3) := by decide +kernel
theorem dX5_tidy0_46 : decode cX5_tidy0 46 = .ok (.ifCond .eq 7, 3) := by decide +kernel
theorem dX5_tidy0_49 : decode cX5_tidy0 49 = .ok (.iconst 1, 1) := by decide +kernel
theorem dX5_tidy0_50 : decode cX5_tidy0 50 = .ok (.goto 4, 3) := by decide +kernel
theorem dX5_tidy0_53 : decode cX5_tidy0 53 = .ok (.iconst 0, 1) := by decide +kernel
theorem dX5_tidy0_54 : decode cX5_tidy0 54 = .ok (.istore_n 3, 1) := by decide +kernel
theorem dX5_tidy0_55 : decode cX5_tidy0 55 = .ok (.iload_n 1, 1) := by decide +kernel
theorem dX5_tidy0_56 : decode cX5_tidy0 56 = .ok (.aload_n 0, 1) := by decide +kernel
theorem dX5_tidy0_57 : decode cX5_tidy0 57 = .ok (.iload_n 2, 1) := by decide +kernel
theorem dX5_tidy0_58 : decode cX5_tidy0 58 = .ok (.iconst 3, 1) := by decide +kernel
theorem dX5_tidy0_59 : decode cX5_tidy0 59 = .ok (.invokevirtual 69, 3) := by decide +kernel
theorem dX5_tidy0_62 : decode cX5_tidy0 62 = .ok (.ifCond .ne 13, 3) := by decide +kernel
theorem dX5_tidy0_65 : decode cX5_tidy0 65 = .ok (.aload_n 0, 1) := by decide +kernel
theorem dX5_tidy0_66 : decode cX5_tidy0 66 = .ok (.iload_n 2, 1) := by decide +kernel
theorem dX5_tidy0_67 : decode cX5_tidy0 67 = .ok (.iconst 2, 1) := by decide +kernel
theorem dX5_tidy0_68 : decode cX5_tidy0 68 = .ok (.invokevirtual 69, 3) := by decide +kernel
theorem dX5_tidy0_71 : decode cX5_tidy0 71 = .ok (.iload_n 3, 1) := by decide +kernel
theorem dX5_tidy0_72 : decode cX5_tidy0 72 = .ok (.if_icmp .eq 7, 3) := by decide +kernel
theorem dX5_tidy0_75 : decode cX5_tidy0 75 = .ok (.iconst 1, 1) := by decide +kernel
theorem dX5_tidy0_76 : decode cX5_tidy0 76 = .ok (.goto 4, 3) := by decide +kernel
theorem dX5_tidy0_79 : decode cX5_tidy0 79 = .ok (.iconst 0, 1) := by decide +kernel
theorem dX5_tidy0_80 : decode cX5_tidy0 80 = .ok (.iadd, 1) := by decide +kernel
theorem dX5_tidy0_81 : decode cX5_tidy0 81 = .ok (.istore_n 1, 1) := by decide +kernel
theorem dX5_tidy0_82 : decode cX5_tidy0 82 = .ok (.aload_n 0, 1) := by decide +kernel
theorem dX5_tidy0_83 : decode cX5_tidy0 83 = .ok (.iload_n 2, 1) := by decide +kernel
theorem dX5_tidy0_84 : decode cX5_tidy0 84 = .ok (.iconst 3, 1) := by decide +kernel
theorem dX5_tidy0_85 : decode cX5_tidy0 85 = .ok (.iconst 0, 1) := by decide +kernel
theorem dX5_tidy0_86 : decode cX5_tidy0 86 = .ok (.invokevirtual 108, 3) := by decide +kernel
theorem dX5_tidy0_89 : decode cX5_tidy0 89 = .ok (.aload_n 0, 1) := by decide +kernel
theorem dX5_tidy0_90 : decode cX5_tidy0 90 = .ok (.iload_n 2, 1) := by decide +kernel
theorem dX5_tidy0_91 : decode cX5_tidy0 91 = .ok (.iconst 2, 1) := by decide +kernel
theorem dX5_tidy0_92 : decode cX5_tidy0 92 = .ok (.iload_n 3, 1) := by decide +kernel
theorem dX5_tidy0_93 : decode cX5_tidy0 93 = .ok (.invokevirtual 108, 3) := by decide +kernel
theorem dX5_tidy0_96 : decode cX5_tidy0 96 = .ok (.iload_n 3, 1) := by decide +kernel
theorem dX5_tidy0_97 : decode cX5_tidy0 97 = .ok (.ifCond .ne 9, 3) := by decide +kernel
theorem dX5_tidy0_100 : decode cX5_tidy0 100 = .ok (.aload_n 0, 1) := by decide +kernel
theorem dX5_tidy0_101 : decode cX5_tidy0 101 = .ok (.iconst 0, 1) := by decide +kernel
theorem dX5_tidy0_102 : decode cX5_tidy0 102 = .ok (.iload_n 2, 1) := by decide +kernel
theorem dX5_tidy0_103 : decode cX5_tidy0 103 = .ok (.invokevirtual 123, 3) := by decide +kernel
theorem dX5_tidy0_106 : decode cX5_tidy0 106 = .ok (.iinc 2 1, 3) := by decide +kernel
theorem dX5_tidy0_109 : decode cX5_tidy0 109 = .ok (.goto (-101), 3) := by decide +kernel
theorem dX5_tidy0_112 : decode cX5_tidy0 112 = .ok (.iload_n 1, 1) := by decide +kernel
theorem dX5_tidy0_113 : decode cX5_tidy0 113 = .ok (.ireturn, 1) := by decide +kernel
theorem dX5_putsAside_0 : decode cX5_putsAside 0 = .ok (.iconst 0, 1) := by decide +kernel
theorem dX5_putsAside_1 : decode cX5_putsAside 1 = .ok (.istore_n 1, 1) := by decide +kernel
theorem dX5_putsAside_2 : decode cX5_putsAside 2 = .ok (.iload_n 1, 1) := by decide +kernel
theorem dX5_putsAside_3 : decode cX5_putsAside 3 = .ok (.sipush 4341, 3) := by decide +kernel
theorem dX5_putsAside_6 : decode cX5_putsAside 6 = .ok (.if_icmp .ge 21, 3) := by decide +kernel
theorem dX5_putsAside_9 : decode cX5_putsAside 9 = .ok (.aload_n 0, 1) := by decide +kernel
theorem dX5_putsAside_10 : decode cX5_putsAside 10 = .ok (.getfield 13, 3) := by decide +kernel
theorem dX5_putsAside_13 : decode cX5_putsAside 13 = .ok (.iload_n 1, 1) := by decide +kernel
theorem dX5_putsAside_14 : decode cX5_putsAside 14 = .ok (.aload_n 0, 1) := by decide +kernel
theorem dX5_putsAside_15 : decode cX5_putsAside 15 = .ok (.getfield 7, 3) := by decide +kernel
theorem dX5_putsAside_18 : decode cX5_putsAside 18 = .ok (.iload_n 1, 1) := by decide +kernel
theorem dX5_putsAside_19 : decode cX5_putsAside 19 = .ok (.iaload, 1) := by decide +kernel
theorem dX5_putsAside_20 : decode cX5_putsAside 20 = .ok (.iastore, 1) := by decide +kernel
theorem dX5_putsAside_21 : decode cX5_putsAside 21 = .ok (.iinc 1 1, 3) := by decide +kernel
theorem dX5_putsAside_24 : decode cX5_putsAside 24 = .ok (.goto (-22), 3) := by decide +kernel
theorem dX5_putsAside_27 : decode cX5_putsAside 27 = .ok (.return_, 1) := by decide +kernel
theorem dX5_remembers_0 : decode cX5_remembers 0 = .ok (.aload_n 0, 1) := by decide +kernel
theorem dX5_remembers_1 : decode cX5_remembers 1 = .ok (.getfield 166, 3) := by decide +kernel
theorem dX5_remembers_4 : decode cX5_remembers 4 = .ok (.bipush 8, 2) := by decide +kernel
theorem dX5_remembers_6 : decode cX5_remembers 6 = .ok (.if_icmp .ne 44, 3) := by decide +kernel
theorem dX5_remembers_9 : decode cX5_remembers 9 = .ok (.iconst 0, 1) := by decide +kernel
theorem dX5_remembers_10 : decode cX5_remembers 10 = .ok (.istore_n 1, 1) := by decide +kernel
theorem dX5_remembers_11 : decode cX5_remembers 11 = .ok (.iload_n 1, 1) := by decide +kernel
theorem dX5_remembers_12 : decode cX5_remembers 12 = .ok (.sipush 30387, 3) := by decide +kernel
theorem dX5_remembers_15 : decode cX5_remembers 15 = .ok (.if_icmp .ge 25, 3) := by decide +kernel
theorem dX5_remembers_18 : decode cX5_remembers 18 = .ok (.aload_n 0, 1) := by decide +kernel
theorem dX5_remembers_19 : decode cX5_remembers 19 = .ok (.getfield 23, 3) := by decide +kernel
theorem dX5_remembers_22 : decode cX5_remembers 22 = .ok (.iload_n 1, 1) := by decide +kernel
theorem dX5_remembers_23 : decode cX5_remembers 23 = .ok (.aload_n 0, 1) := by decide +kernel
theorem dX5_remembers_24 : decode cX5_remembers 24 = .ok (.getfield 23, 3) := by decide +kernel
theorem dX5_remembers_27 : decode cX5_remembers 27 = .ok (.iload_n 1, 1) := by decide +kernel
theorem dX5_remembers_28 : decode cX5_remembers 28 = .ok (.sipush 4341, 3) := by decide +kernel
theorem dX5_remembers_31 : decode cX5_remembers 31 = .ok (.iadd, 1) := by decide +kernel
theorem dX5_remembers_32 : decode cX5_remembers 32 = .ok (.iaload, 1) := by decide +kernel
theorem dX5_remembers_33 : decode cX5_remembers 33 = .ok (.iastore, 1) := by decide +kernel
theorem dX5_remembers_34 : decode cX5_remembers 34 = .ok (.iinc 1 1, 3) := by decide +kernel
theorem dX5_remembers_37 : decode cX5_remembers 37 = .ok (.goto (-26), 3) := by decide +kernel
theorem dX5_remembers_40 : decode cX5_remembers 40 = .ok (.aload_n 0, 1) := by decide +kernel
theorem dX5_remembers_41 : decode cX5_remembers 41 = .ok (.dup, 1) := by decide +kernel
theorem dX5_remembers_42 : decode cX5_remembers 42 = .ok (.getfield 166, 3) := by decide +kernel
theorem dX5_remembers_45 : decode cX5_remembers 45 = .ok (.iconst 1, 1) := by decide +kernel
theorem dX5_remembers_46 : decode cX5_remembers 46 = .ok (.isub, 1) := by decide +kernel
theorem dX5_remembers_47 : decode cX5_remembers 47 = .ok (.putfield 166, 3) := by decide +kernel
theorem dX5_remembers_50 : decode cX5_remembers 50 = .ok (.iconst 0, 1) := by decide +kernel
theorem dX5_remembers_51 : decode cX5_remembers 51 = .ok (.istore_n 1, 1) := by decide +kernel
theorem dX5_remembers_52 : decode cX5_remembers 52 = .ok (.iload_n 1, 1) := by decide +kernel
theorem dX5_remembers_53 : decode cX5_remembers 53 = .ok (.sipush 4341, 3) := by decide +kernel
theorem dX5_remembers_56 : decode cX5_remembers 56 = .ok (.if_icmp .ge 30, 3) := by decide +kernel
theorem dX5_remembers_59 : decode cX5_remembers 59 = .ok (.aload_n 0, 1) := by decide +kernel
theorem dX5_remembers_60 : decode cX5_remembers 60 = .ok (.getfield 23, 3) := by decide +kernel
theorem dX5_remembers_63 : decode cX5_remembers 63 = .ok (.sipush 4341, 3) := by decide +kernel
theorem dX5_remembers_66 : decode cX5_remembers 66 = .ok (.aload_n 0, 1) := by decide +kernel
theorem dX5_remembers_67 : decode cX5_remembers 67 = .ok (.getfield 166, 3) := by decide +kernel
theorem dX5_remembers_70 : decode cX5_remembers 70 = .ok (.imul, 1) := by decide +kernel
theorem dX5_remembers_71 : decode cX5_remembers 71 = .ok (.iload_n 1, 1) := by decide +kernel
theorem dX5_remembers_72 : decode cX5_remembers 72 = .ok (.iadd, 1) := by decide +kernel
theorem dX5_remembers_73 : decode cX5_remembers 73 = .ok (.aload_n 0, 1) := by decide +kernel
theorem dX5_remembers_74 : decode cX5_remembers 74 = .ok (.getfield 13, 3) := by decide +kernel
theorem dX5_remembers_77 : decode cX5_remembers 77 = .ok (.iload_n 1, 1) := by decide +kernel
theorem dX5_remembers_78 : decode cX5_remembers 78 = .ok (.iaload, 1) := by decide +kernel
theorem dX5_remembers_79 : decode cX5_remembers 79 = .ok (.iastore, 1) := by decide +kernel
theorem dX5_remembers_80 : decode cX5_remembers 80 = .ok (.iinc 1 1, 3) := by decide +kernel
theorem dX5_remembers_83 : decode cX5_remembers 83 = .ok (.goto (-31), 3) := by decide +kernel
theorem dX5_remembers_86 : decode cX5_remembers 86 = .ok (.aload_n 0, 1) := by decide +kernel
theorem dX5_remembers_87 : decode cX5_remembers 87 = .ok (.dup, 1) := by decide +kernel
theorem dX5_remembers_88 : decode cX5_remembers 88 = .ok (.getfield 166, 3) := by decide +kernel
theorem dX5_remembers_91 : decode cX5_remembers 91 = .ok (.iconst 1, 1) := by decide +kernel
theorem dX5_remembers_92 : decode cX5_remembers 92 = .ok (.iadd, 1) := by decide +kernel
theorem dX5_remembers_93 : decode cX5_remembers 93 = .ok (.putfield 166, 3) := by decide +kernel
theorem dX5_remembers_96 : decode cX5_remembers 96 = .ok (.return_, 1) := by decide +kernel
theorem dX5_isDone_0 : decode cX5_isDone 0 = .ok (.aload_n 0, 1) := by decide +kernel
theorem dX5_isDone_1 : decode cX5_isDone 1 = .ok (.iload_n 1, 1) := by decide +kernel
theorem dX5_isDone_2 : decode cX5_isDone 2 = .ok (.putfield 169, 3) := by decide +kernel
theorem dX5_isDone_5 : decode cX5_isDone 5 = .ok (.aload_n 0, 1) := by decide +kernel
theorem dX5_isDone_6 : decode cX5_isDone 6 = .ok (.iload_n 1, 1) := by decide +kernel
theorem dX5_isDone_7 : decode cX5_isDone 7 = .ok (.ifCond .le 7, 3) := by decide +kernel
theorem dX5_isDone_10 : decode cX5_isDone 10 = .ok (.iconst 1, 1) := by decide +kernel
theorem dX5_isDone_11 : decode cX5_isDone 11 = .ok (.goto 4, 3) := by decide +kernel
theorem dX5_isDone_14 : decode cX5_isDone 14 = .ok (.iconst 0, 1) := by decide +kernel
theorem dX5_isDone_15 : decode cX5_isDone 15 = .ok (.putfield 58, 3) := by decide +kernel
theorem dX5_isDone_18 : decode cX5_isDone 18 = .ok (.iload_n 1, 1) := by decide +kernel
theorem dX5_isDone_19 : decode cX5_isDone 19 = .ok (.ifCond .ne 7, 3) := by decide +kernel
theorem dX5_isDone_22 : decode cX5_isDone 22 = .ok (.aload_n 0, 1) := by decide +kernel
theorem dX5_isDone_23 : decode cX5_isDone 23 = .ok (.invokevirtual 172, 3) := by decide +kernel
theorem dX5_isDone_26 : decode cX5_isDone 26 = .ok (.iload_n 1, 1) := by decide +kernel
theorem dX5_isDone_27 : decode cX5_isDone 27 = .ok (.ifCond .ne 7, 3) := by decide +kernel
theorem dX5_isDone_30 : decode cX5_isDone 30 = .ok (.iconst 1, 1) := by decide +kernel
theorem dX5_isDone_31 : decode cX5_isDone 31 = .ok (.goto 4, 3) := by decide +kernel
theorem dX5_isDone_34 : decode cX5_isDone 34 = .ok (.iconst 0, 1) := by decide +kernel
theorem dX5_isDone_35 : decode cX5_isDone 35 = .ok (.ireturn, 1) := by decide +kernel
theorem dX5_feed_0 : decode cX5_feed 0 = .ok (.aload_n 0, 1) := by decide +kernel
theorem dX5_feed_1 : decode cX5_feed 1 = .ok (.iconst 0, 1) := by decide +kernel
theorem dX5_feed_2 : decode cX5_feed 2 = .ok (.putfield 58, 3) := by decide +kernel
theorem dX5_feed_5 : decode cX5_feed 5 = .ok (.aload_n 0, 1) := by decide +kernel
theorem dX5_feed_6 : decode cX5_feed 6 = .ok (.getfield 175, 3) := by decide +kernel
theorem dX5_feed_9 : decode cX5_feed 9 = .ok (.bipush 20, 2) := by decide +kernel
theorem dX5_feed_11 : decode cX5_feed 11 = .ok (.iadd, 1) := by decide +kernel
theorem dX5_feed_12 : decode cX5_feed 12 = .ok (.sipush 400, 3) := by decide +kernel
theorem dX5_feed_15 : decode cX5_feed 15 = .ok (.if_icmp .le 5, 3) := by decide +kernel
theorem dX5_feed_18 : decode cX5_feed 18 = .ok (.iconst (-1), 1) := by decide +kernel
theorem dX5_feed_19 : decode cX5_feed 19 = .ok (.ireturn, 1) := by decide +kernel
theorem dX5_feed_20 : decode cX5_feed 20 = .ok (.iconst 0, 1) := by decide +kernel
theorem dX5_feed_21 : decode cX5_feed 21 = .ok (.istore 6, 2) := by decide +kernel
theorem dX5_feed_23 : decode cX5_feed 23 = .ok (.iload 6, 2) := by decide +kernel
theorem dX5_feed_25 : decode cX5_feed 25 = .ok (.bipush 20, 2) := by decide +kernel
theorem dX5_feed_27 : decode cX5_feed 27 = .ok (.if_icmp .ge 93, 3) := by decide +kernel
theorem dX5_feed_30 : decode cX5_feed 30 = .ok (.iload 6, 2) := by decide +kernel
theorem dX5_feed_32 : decode cX5_feed 32 = .ok (.iconst 4, 1) := by decide +kernel
theorem dX5_feed_33 : decode cX5_feed 33 = .ok (.if_icmp .ge 7, 3) := by decide +kernel

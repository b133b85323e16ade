theorem dX1_init_0 : decode cX1_init 0 = .ok (.aload_n 0, 1) := by decide +kernel
theorem dX1_init_1 : decode cX1_init 1 = .ok (.invokespecial 3, 3) := by decide +kernel
theorem dX1_init_4 : decode cX1_init 4 = .ok (.aload_n 0, 1) := by decide +kernel
theorem dX1_init_5 : decode cX1_init 5 = .ok (.bipush 60, 2) := by decide +kernel
theorem dX1_init_7 : decode cX1_init 7 = .ok (.newarray .int, 2) := by decide +kernel
theorem dX1_init_9 : decode cX1_init 9 = .ok (.putfield 9, 3) := by decide +kernel
theorem dX1_init_12 : decode cX1_init 12 = .ok (.aload_n 0, 1) := by decide +kernel
theorem dX1_init_13 : decode cX1_init 13 = .ok (.bipush 60, 2) := by decide +kernel
theorem dX1_init_15 : decode cX1_init 15 = .ok (.newarray .int, 2) := by decide +kernel
theorem dX1_init_17 : decode cX1_init 17 = .ok (.putfield 15, 3) := by decide +kernel
theorem dX1_init_20 : decode cX1_init 20 = .ok (.aload_n 0, 1) := by decide +kernel
theorem dX1_init_21 : decode cX1_init 21 = .ok (.bipush 60, 2) := by decide +kernel
theorem dX1_init_23 : decode cX1_init 23 = .ok (.newarray .int, 2) := by decide +kernel
theorem dX1_init_25 : decode cX1_init 25 = .ok (.putfield 18, 3) := by decide +kernel
theorem dX1_init_28 : decode cX1_init 28 = .ok (.aload_n 0, 1) := by decide +kernel
theorem dX1_init_29 : decode cX1_init 29 = .ok (.bipush 60, 2) := by decide +kernel
theorem dX1_init_31 : decode cX1_init 31 = .ok (.newarray .int, 2) := by decide +kernel
theorem dX1_init_33 : decode cX1_init 33 = .ok (.putfield 21, 3) := by decide +kernel
theorem dX1_init_36 : decode cX1_init 36 = .ok (.aload_n 0, 1) := by decide +kernel
theorem dX1_init_37 : decode cX1_init 37 = .ok (.bipush 60, 2) := by decide +kernel
theorem dX1_init_39 : decode cX1_init 39 = .ok (.newarray .int, 2) := by decide +kernel
theorem dX1_init_41 : decode cX1_init 41 = .ok (.putfield 24, 3) := by decide +kernel
theorem dX1_init_44 : decode cX1_init 44 = .ok (.aload_n 0, 1) := by decide +kernel
theorem dX1_init_45 : decode cX1_init 45 = .ok (.bipush 60, 2) := by decide +kernel
theorem dX1_init_47 : decode cX1_init 47 = .ok (.newarray .int, 2) := by decide +kernel
theorem dX1_init_49 : decode cX1_init 49 = .ok (.putfield 27, 3) := by decide +kernel
theorem dX1_init_52 : decode cX1_init 52 = .ok (.aload_n 0, 1) := by decide +kernel
theorem dX1_init_53 : decode cX1_init 53 = .ok (.bipush 16, 2) := by decide +kernel
theorem dX1_init_55 : decode cX1_init 55 = .ok (.newarray .int, 2) := by decide +kernel
theorem dX1_init_57 : decode cX1_init 57 = .ok (.putfield 30, 3) := by decide +kernel
theorem dX1_init_60 : decode cX1_init 60 = .ok (.aload_n 0, 1) := by decide +kernel
theorem dX1_init_61 : decode cX1_init 61 = .ok (.bipush 120, 2) := by decide +kernel
theorem dX1_init_63 : decode cX1_init 63 = .ok (.newarray .int, 2) := by decide +kernel
theorem dX1_init_65 : decode cX1_init 65 = .ok (.putfield 33, 3) := by decide +kernel
theorem dX1_init_68 : decode cX1_init 68 = .ok (.aload_n 0, 1) := by decide +kernel
theorem dX1_init_69 : decode cX1_init 69 = .ok (.bipush 48, 2) := by decide +kernel
theorem dX1_init_71 : decode cX1_init 71 = .ok (.newarray .int, 2) := by decide +kernel
theorem dX1_init_73 : decode cX1_init 73 = .ok (.putfield 38, 3) := by decide +kernel
theorem dX1_init_76 : decode cX1_init 76 = .ok (.aload_n 0, 1) := by decide +kernel
theorem dX1_init_77 : decode cX1_init 77 = .ok (.iconst 5, 1) := by decide +kernel
theorem dX1_init_78 : decode cX1_init 78 = .ok (.anewarray 36, 3) := by decide +kernel
theorem dX1_init_81 : decode cX1_init 81 = .ok (.putfield 41, 3) := by decide +kernel
theorem dX1_init_84 : decode cX1_init 84 = .ok (.aload_n 0, 1) := by decide +kernel
theorem dX1_init_85 : decode cX1_init 85 = .ok (.iconst 0, 1) := by decide +kernel
theorem dX1_init_86 : decode cX1_init 86 = .ok (.putfield 45, 3) := by decide +kernel
theorem dX1_init_89 : decode cX1_init 89 = .ok (.aload_n 0, 1) := by decide +kernel
theorem dX1_init_90 : decode cX1_init 90 = .ok (.iconst 0, 1) := by decide +kernel
theorem dX1_init_91 : decode cX1_init 91 = .ok (.putfield 49, 3) := by decide +kernel
theorem dX1_init_94 : decode cX1_init 94 = .ok (.aload_n 0, 1) := by decide +kernel
theorem dX1_init_95 : decode cX1_init 95 = .ok (.iconst 0, 1) := by decide +kernel
theorem dX1_init_96 : decode cX1_init 96 = .ok (.putfield 52, 3) := by decide +kernel
theorem dX1_init_99 : decode cX1_init 99 = .ok (.aload_n 0, 1) := by decide +kernel
theorem dX1_init_100 : decode cX1_init 100 = .ok (.iconst 0, 1) := by decide +kernel
theorem dX1_init_101 : decode cX1_init 101 = .ok (.putfield 55, 3) := by decide +kernel
theorem dX1_init_104 : decode cX1_init 104 = .ok (.aload_n 0, 1) := by decide +kernel
theorem dX1_init_105 : decode cX1_init 105 = .ok (.iconst 0, 1) := by decide +kernel
theorem dX1_init_106 : decode cX1_init 106 = .ok (.putfield 58, 3) := by decide +kernel
theorem dX1_init_109 : decode cX1_init 109 = .ok (.aload_n 0, 1) := by decide +kernel
theorem dX1_init_110 : decode cX1_init 110 = .ok (.iconst 0, 1) := by decide +kernel
theorem dX1_init_111 : decode cX1_init 111 = .ok (.putfield 61, 3) := by decide +kernel
theorem dX1_init_114 : decode cX1_init 114 = .ok (.aload_n 0, 1) := by decide +kernel
theorem dX1_init_115 : decode cX1_init 115 = .ok (.iconst 0, 1) := by decide +kernel
theorem dX1_init_116 : decode cX1_init 116 = .ok (.putfield 64, 3) := by decide +kernel
theorem dX1_init_119 : decode cX1_init 119 = .ok (.iconst 0, 1) := by decide +kernel
theorem dX1_init_120 : decode cX1_init 120 = .ok (.istore_n 1, 1) := by decide +kernel
theorem dX1_init_121 : decode cX1_init 121 = .ok (.iload_n 1, 1) := by decide +kernel
theorem dX1_init_122 : decode cX1_init 122 = .ok (.iconst 5, 1) := by decide +kernel
theorem dX1_init_123 : decode cX1_init 123 = .ok (.if_icmp .ge 22, 3) := by decide +kernel
theorem dX1_init_126 : decode cX1_init 126 = .ok (.aload_n 0, 1) := by decide +kernel
theorem dX1_init_127 : decode cX1_init 127 = .ok (.getfield 41, 3) := by decide +kernel
theorem dX1_init_130 : decode cX1_init 130 = .ok (.iload_n 1, 1) := by decide +kernel
theorem dX1_init_131 : decode cX1_init 131 = .ok (.new 36, 3) := by decide +kernel
theorem dX1_init_134 : decode cX1_init 134 = .ok (.dup, 1) := by decide +kernel
theorem dX1_init_135 : decode cX1_init 135 = .ok (.invokespecial 67, 3) := by decide +kernel
theorem dX1_init_138 : decode cX1_init 138 = .ok (.aastore, 1) := by decide +kernel
theorem dX1_init_139 : decode cX1_init 139 = .ok (.iinc 1 1, 3) := by decide +kernel
theorem dX1_init_142 : decode cX1_init 142 = .ok (.goto (-21), 3) := by decide +kernel
theorem dX1_init_145 : decode cX1_init 145 = .ok (.return_, 1) := by decide +kernel
theorem dX1_copyFrom_0 : decode cX1_copyFrom 0 = .ok (.aload_n 1, 1) := by decide +kernel
theorem dX1_copyFrom_1 : decode cX1_copyFrom 1 = .ok (.getfield 9, 3) := by decide +kernel
theorem dX1_copyFrom_4 : decode cX1_copyFrom 4 = .ok (.iconst 0, 1) := by decide +kernel
theorem dX1_copyFrom_5 : decode cX1_copyFrom 5 = .ok (.aload_n 0, 1) := by decide +kernel
theorem dX1_copyFrom_6 : decode cX1_copyFrom 6 = .ok (.getfield 9, 3) := by decide +kernel
theorem dX1_copyFrom_9 : decode cX1_copyFrom 9 = .ok (.iconst 0, 1) := by decide +kernel
theorem dX1_copyFrom_10 : decode cX1_copyFrom 10 = .ok (.bipush 60, 2) := by decide +kernel
theorem dX1_copyFrom_12 : decode cX1_copyFrom 12 = .ok (.invokestatic 68, 3) := by decide +kernel
theorem dX1_copyFrom_15 : decode cX1_copyFrom 15 = .ok (.aload_n 1, 1) := by decide +kernel
theorem dX1_copyFrom_16 : decode cX1_copyFrom 16 = .ok (.getfield 15, 3) := by decide +kernel
theorem dX1_copyFrom_19 : decode cX1_copyFrom 19 = .ok (.iconst 0, 1) := by decide +kernel
theorem dX1_copyFrom_20 : decode cX1_copyFrom 20 = .ok (.aload_n 0, 1) := by decide +kernel
theorem dX1_copyFrom_21 : decode cX1_copyFrom 21 = .ok (.getfield 15, 3) := by decide +kernel
theorem dX1_copyFrom_24 : decode cX1_copyFrom 24 = .ok (.iconst 0, 1) := by decide +kernel
theorem dX1_copyFrom_25 : decode cX1_copyFrom 25 = .ok (.bipush 60, 2) := by decide +kernel
theorem dX1_copyFrom_27 : decode cX1_copyFrom 27 = .ok (.invokestatic 68, 3) := by decide +kernel
theorem dX1_copyFrom_30 : decode cX1_copyFrom 30 = .ok (.aload_n 1, 1) := by decide +kernel
theorem dX1_copyFrom_31 : decode cX1_copyFrom 31 = .ok (.getfield 18, 3) := by decide +kernel
theorem dX1_copyFrom_34 : decode cX1_copyFrom 34 = .ok (.iconst 0, 1) := by decide +kernel
theorem dX1_copyFrom_35 : decode cX1_copyFrom 35 = .ok (.aload_n 0, 1) := by decide +kernel
theorem dX1_copyFrom_36 : decode cX1_copyFrom 36 = .ok (.getfield 18, 3) := by decide +kernel
theorem dX1_copyFrom_39 : decode cX1_copyFrom 39 = .ok (.iconst 0, 1) := by decide +kernel
theorem dX1_copyFrom_40 : decode cX1_copyFrom 40 = .ok (.bipush 60, 2) := by decide +kernel
theorem dX1_copyFrom_42 : decode cX1_copyFrom 42 = .ok (.invokestatic 68, 3) := by decide +kernel
theorem dX1_copyFrom_45 : decode cX1_copyFrom 45 = .ok (.aload_n 1, 1) := by decide +kernel
theorem dX1_copyFrom_46 : decode cX1_copyFrom 46 = .ok (.getfield 21, 3) := by decide +kernel
theorem dX1_copyFrom_49 : decode cX1_copyFrom 49 = .ok (.iconst 0, 1) := by decide +kernel
theorem dX1_copyFrom_50 : decode cX1_copyFrom 50 = .ok (.aload_n 0, 1) := by decide +kernel
theorem dX1_copyFrom_51 : decode cX1_copyFrom 51 = .ok (.getfield 21, 3) := by decide +kernel
theorem dX1_copyFrom_54 : decode cX1_copyFrom 54 = .ok (.iconst 0, 1) := by decide +kernel
theorem dX1_copyFrom_55 : decode cX1_copyFrom 55 = .ok (.bipush 60, 2) := by decide +kernel
theorem dX1_copyFrom_57 : decode cX1_copyFrom 57 = .ok (.invokestatic 68, 3) := by decide +kernel
theorem dX1_copyFrom_60 : decode cX1_copyFrom 60 = .ok (.aload_n 1, 1) := by decide +kernel
theorem dX1_copyFrom_61 : decode cX1_copyFrom 61 = .ok (.getfield 24, 3) := by decide +kernel
theorem dX1_copyFrom_64 : decode cX1_copyFrom 64 = .ok (.iconst 0, 1) := by decide +kernel
theorem dX1_copyFrom_65 : decode cX1_copyFrom 65 = .ok (.aload_n 0, 1) := by decide +kernel
theorem dX1_copyFrom_66 : decode cX1_copyFrom 66 = .ok (.getfield 24, 3) := by decide +kernel
theorem dX1_copyFrom_69 : decode cX1_copyFrom 69 = .ok (.iconst 0, 1) := by decide +kernel
theorem dX1_copyFrom_70 : decode cX1_copyFrom 70 = .ok (.bipush 60, 2) := by decide +kernel
theorem dX1_copyFrom_72 : decode cX1_copyFrom 72 = .ok (.invokestatic 68, 3) := by decide +kernel
theorem dX1_copyFrom_75 : decode cX1_copyFrom 75 = .ok (.aload_n 1, 1) := by decide +kernel
theorem dX1_copyFrom_76 : decode cX1_copyFrom 76 = .ok (.getfield 27, 3) := by decide +kernel
theorem dX1_copyFrom_79 : decode cX1_copyFrom 79 = .ok (.iconst 0, 1) := by decide +kernel
theorem dX1_copyFrom_80 : decode cX1_copyFrom 80 = .ok (.aload_n 0, 1) := by decide +kernel
theorem dX1_copyFrom_81 : decode cX1_copyFrom 81 = .ok (.getfield 27, 3) := by decide +kernel
theorem dX1_copyFrom_84 : decode cX1_copyFrom 84 = .ok (.iconst 0, 1) := by decide +kernel
theorem dX1_copyFrom_85 : decode cX1_copyFrom 85 = .ok (.bipush 60, 2) := by decide +kernel
theorem dX1_copyFrom_87 : decode cX1_copyFrom 87 = .ok (.invokestatic 68, 3) := by decide +kernel
theorem dX1_copyFrom_90 : decode cX1_copyFrom 90 = .ok (.aload_n 1, 1) := by decide +kernel
theorem dX1_copyFrom_91 : decode cX1_copyFrom 91 = .ok (.getfield 30, 3) := by decide +kernel
theorem dX1_copyFrom_94 : decode cX1_copyFrom 94 = .ok (.iconst 0, 1) := by decide +kernel
theorem dX1_copyFrom_95 : decode cX1_copyFrom 95 = .ok (.aload_n 0, 1) := by decide +kernel
theorem dX1_copyFrom_96 : decode cX1_copyFrom 96 = .ok (.getfield 30, 3) := by decide +kernel
theorem dX1_copyFrom_99 : decode cX1_copyFrom 99 = .ok (.iconst 0, 1) := by decide +kernel
theorem dX1_copyFrom_100 : decode cX1_copyFrom 100 = .ok (.bipush 16, 2) := by decide +kernel
theorem dX1_copyFrom_102 : decode cX1_copyFrom 102 = .ok (.invokestatic 68, 3) := by decide +kernel
theorem dX1_copyFrom_105 : decode cX1_copyFrom 105 = .ok (.aload_n 1, 1) := by decide +kernel
theorem dX1_copyFrom_106 : decode cX1_copyFrom 106 = .ok (.getfield 33, 3) := by decide +kernel
theorem dX1_copyFrom_109 : decode cX1_copyFrom 109 = .ok (.iconst 0, 1) := by decide +kernel
theorem dX1_copyFrom_110 : decode cX1_copyFrom 110 = .ok (.aload_n 0, 1) := by decide +kernel
theorem dX1_copyFrom_111 : decode cX1_copyFrom 111 = .ok (.getfield 33, 3) := by decide +kernel
theorem dX1_copyFrom_114 : decode cX1_copyFrom 114 = .ok (.iconst 0, 1) := by decide +kernel
theorem dX1_copyFrom_115 : decode cX1_copyFrom 115 = .ok (.bipush 120, 2) := by decide +kernel
theorem dX1_copyFrom_117 : decode cX1_copyFrom 117 = .ok (.invokestatic 68, 3) := by decide +kernel
theorem dX1_copyFrom_120 : decode cX1_copyFrom 120 = .ok (.iconst 0, 1) := by decide +kernel
theorem dX1_copyFrom_121 : decode cX1_copyFrom 121 = .ok (.istore_n 2, 1) := by decide +kernel
theorem dX1_copyFrom_122 : decode cX1_copyFrom 122 = .ok (.iload_n 2, 1) := by decide +kernel
theorem dX1_copyFrom_123 : decode cX1_copyFrom 123 = .ok (.iconst 5, 1) := by decide +kernel
theorem dX1_copyFrom_124 : decode cX1_copyFrom 124 = .ok (.if_icmp .ge 24, 3) := by decide +kernel
theorem dX1_copyFrom_127 : decode cX1_copyFrom 127 = .ok (.aload_n 0, 1) := by decide +kernel
theorem dX1_copyFrom_128 : decode cX1_copyFrom 128 = .ok (.getfield 41, 3) := by decide +kernel
theorem dX1_copyFrom_131 : decode cX1_copyFrom 131 = .ok (.iload_n 2, 1) := by decide +kernel
theorem dX1_copyFrom_132 : decode cX1_copyFrom 132 = .ok (.aaload, 1) := by decide +kernel
theorem dX1_copyFrom_133 : decode cX1_copyFrom 133 = .ok (.aload_n 1, 1) := by decide +kernel
theorem dX1_copyFrom_134 : decode cX1_copyFrom 134 = .ok (.getfield 41, 3) := by decide +kernel
theorem dX1_copyFrom_137 : decode cX1_copyFrom 137 = .ok (.iload_n 2, 1) := by decide +kernel
theorem dX1_copyFrom_138 : decode cX1_copyFrom 138 = .ok (.aaload, 1) := by decide +kernel
theorem dX1_copyFrom_139 : decode cX1_copyFrom 139 = .ok (.invokevirtual 74, 3) := by decide +kernel
theorem dX1_copyFrom_142 : decode cX1_copyFrom 142 = .ok (.iinc 2 1, 3) := by decide +kernel
theorem dX1_copyFrom_145 : decode cX1_copyFrom 145 = .ok (.goto (-23), 3) := by decide +kernel
theorem dX1_copyFrom_148 : decode cX1_copyFrom 148 = .ok (.aload_n 0, 1) := by decide +kernel
theorem dX1_copyFrom_149 : decode cX1_copyFrom 149 = .ok (.aload_n 1, 1) := by decide +kernel
theorem dX1_copyFrom_150 : decode cX1_copyFrom 150 = .ok (.getfield 45, 3) := by decide +kernel
theorem dX1_copyFrom_153 : decode cX1_copyFrom 153 = .ok (.putfield 45, 3) := by decide +kernel
theorem dX1_copyFrom_156 : decode cX1_copyFrom 156 = .ok (.aload_n 0, 1) := by decide +kernel
theorem dX1_copyFrom_157 : decode cX1_copyFrom 157 = .ok (.aload_n 1, 1) := by decide +kernel
theorem dX1_copyFrom_158 : decode cX1_copyFrom 158 = .ok (.getfield 49, 3) := by decide +kernel
theorem dX1_copyFrom_161 : decode cX1_copyFrom 161 = .ok (.putfield 49, 3) := by decide +kernel
theorem dX1_copyFrom_164 : decode cX1_copyFrom 164 = .ok (.aload_n 0, 1) := by decide +kernel
theorem dX1_copyFrom_165 : decode cX1_copyFrom 165 = .ok (.aload_n 1, 1) := by decide +kernel
theorem dX1_copyFrom_166 : decode cX1_copyFrom 166 = .ok (.getfield 52, 3) := by decide +kernel
theorem dX1_copyFrom_169 : decode cX1_copyFrom 169 = .ok (.putfield 52, 3) := by decide +kernel
theorem dX1_copyFrom_172 : decode cX1_copyFrom 172 = .ok (.aload_n 0, 1) := by decide +kernel
theorem dX1_copyFrom_173 : decode cX1_copyFrom 173 = .ok (.aload_n 1, 1) := by decide +kernel
theorem dX1_copyFrom_174 : decode cX1_copyFrom 174 = .ok (.getfield 55, 3) := by decide +kernel
theorem dX1_copyFrom_177 : decode cX1_copyFrom 177 = .ok (.putfield 55, 3) := by decide +kernel
theorem dX1_copyFrom_180 : decode cX1_copyFrom 180 = .ok (.aload_n 0, 1) := by decide +kernel
theorem dX1_copyFrom_181 : decode cX1_copyFrom 181 = .ok (.aload_n 1, 1) := by decide +kernel
theorem dX1_copyFrom_182 : decode cX1_copyFrom 182 = .ok (.getfield 58, 3) := by decide +kernel
theorem dX1_copyFrom_185 : decode cX1_copyFrom 185 = .ok (.putfield 58, 3) := by decide +kernel
theorem dX1_copyFrom_188 : decode cX1_copyFrom 188 = .ok (.aload_n 0, 1) := by decide +kernel
theorem dX1_copyFrom_189 : decode cX1_copyFrom 189 = .ok (.aload_n 1, 1) := by decide +kernel
theorem dX1_copyFrom_190 : decode cX1_copyFrom 190 = .ok (.getfield 61, 3) := by decide +kernel
theorem dX1_copyFrom_193 : decode cX1_copyFrom 193 = .ok (.putfield 61, 3) := by decide +kernel
theorem dX1_copyFrom_196 : decode cX1_copyFrom 196 = .ok (.aload_n 0, 1) := by decide +kernel
theorem dX1_copyFrom_197 : decode cX1_copyFrom 197 = .ok (.aload_n 1, 1) := by decide +kernel
theorem dX1_copyFrom_198 : decode cX1_copyFrom 198 = .ok (.getfield 64, 3) := by decide +kernel
theorem dX1_copyFrom_201 : decode cX1_copyFrom 201 = .ok (.putfield 64, 3) := by decide +kernel
theorem dX1_copyFrom_204 : decode cX1_copyFrom 204 = .ok (.return_, 1) := by decide +kernel
theorem dX1_start_0 : decode cX1_start 0 = .ok (.aload_n 0, 1) := by decide +kernel
theorem dX1_start_1 : decode cX1_start 1 = .ok (.iload_n 1, 1) := by decide +kernel
theorem dX1_start_2 : decode cX1_start 2 = .ok (.putfield 45, 3) := by decide +kernel
theorem dX1_start_5 : decode cX1_start 5 = .ok (.aload_n 0, 1) := by decide +kernel
theorem dX1_start_6 : decode cX1_start 6 = .ok (.iconst 0, 1) := by decide +kernel
theorem dX1_start_7 : decode cX1_start 7 = .ok (.putfield 49, 3) := by decide +kernel
theorem dX1_start_10 : decode cX1_start 10 = .ok (.iconst 1, 1) := by decide +kernel
theorem dX1_start_11 : decode cX1_start 11 = .ok (.istore_n 2, 1) := by decide +kernel
theorem dX1_start_12 : decode cX1_start 12 = .ok (.iload_n 2, 1) := by decide +kernel
theorem dX1_start_13 : decode cX1_start 13 = .ok (.iconst 5, 1) := by decide +kernel
theorem dX1_start_14 : decode cX1_start 14 = .ok (.if_icmp .ge 21, 3) := by decide +kernel
theorem dX1_start_17 : decode cX1_start 17 = .ok (.iconst 1, 1) := by decide +kernel
theorem dX1_start_18 : decode cX1_start 18 = .ok (.iload_n 2, 1) := by decide +kernel
theorem dX1_start_19 : decode cX1_start 19 = .ok (.ishl, 1) := by decide +kernel
theorem dX1_start_20 : decode cX1_start 20 = .ok (.iload_n 1, 1) := by decide +kernel
theorem dX1_start_21 : decode cX1_start 21 = .ok (.if_icmp .gt 8, 3) := by decide +kernel
theorem dX1_start_24 : decode cX1_start 24 = .ok (.aload_n 0, 1) := by decide +kernel
theorem dX1_start_25 : decode cX1_start 25 = .ok (.iload_n 2, 1) := by decide +kernel
theorem dX1_start_26 : decode cX1_start 26 = .ok (.putfield 49, 3) := by decide +kernel
theorem dX1_start_29 : decode cX1_start 29 = .ok (.iinc 2 1, 3) := by decide +kernel
theorem dX1_start_32 : decode cX1_start 32 = .ok (.goto (-20), 3) := by decide +kernel
theorem dX1_start_35 : decode cX1_start 35 = .ok (.aload_n 0, 1) := by decide +kernel
theorem dX1_start_36 : decode cX1_start 36 = .ok (.iconst 0, 1) := by decide +kernel
theorem dX1_start_37 : decode cX1_start 37 = .ok (.putfield 52, 3) := by decide +kernel
theorem dX1_start_40 : decode cX1_start 40 = .ok (.aload_n 0, 1) := by decide +kernel
theorem dX1_start_41 : decode cX1_start 41 = .ok (.iconst 0, 1) := by decide +kernel
theorem dX1_start_42 : decode cX1_start 42 = .ok (.putfield 55, 3) := by decide +kernel
theorem dX1_start_45 : decode cX1_start 45 = .ok (.aload_n 0, 1) := by decide +kernel
theorem dX1_start_46 : decode cX1_start 46 = .ok (.iconst 0, 1) := by decide +kernel
theorem dX1_start_47 : decode cX1_start 47 = .ok (.putfield 58, 3) := by decide +kernel
theorem dX1_start_50 : decode cX1_start 50 = .ok (.aload_n 0, 1) := by decide +kernel
theorem dX1_start_51 : decode cX1_start 51 = .ok (.iconst 0, 1) := by decide +kernel
theorem dX1_start_52 : decode cX1_start 52 = .ok (.putfield 61, 3) := by decide +kernel
theorem dX1_start_55 : decode cX1_start 55 = .ok (.aload_n 0, 1) := by decide +kernel
theorem dX1_start_56 : decode cX1_start 56 = .ok (.iconst 0, 1) := by decide +kernel
theorem dX1_start_57 : decode cX1_start 57 = .ok (.putfield 64, 3) := by decide +kernel
theorem dX1_start_60 : decode cX1_start 60 = .ok (.iconst 0, 1) := by decide +kernel
theorem dX1_start_61 : decode cX1_start 61 = .ok (.istore_n 2, 1) := by decide +kernel
theorem dX1_start_62 : decode cX1_start 62 = .ok (.iload_n 2, 1) := by decide +kernel
theorem dX1_start_63 : decode cX1_start 63 = .ok (.bipush 16, 2) := by decide +kernel
theorem dX1_start_65 : decode cX1_start 65 = .ok (.if_icmp .ge 16, 3) := by decide +kernel
theorem dX1_start_68 : decode cX1_start 68 = .ok (.aload_n 0, 1) := by decide +kernel
theorem dX1_start_69 : decode cX1_start 69 = .ok (.getfield 30, 3) := by decide +kernel
theorem dX1_start_72 : decode cX1_start 72 = .ok (.iload_n 2, 1) := by decide +kernel
theorem dX1_start_73 : decode cX1_start 73 = .ok (.iload_n 2, 1) := by decide +kernel
theorem dX1_start_74 : decode cX1_start 74 = .ok (.iastore, 1) := by decide +kernel
theorem dX1_start_75 : decode cX1_start 75 = .ok (.iinc 2 1, 3) := by decide +kernel
theorem dX1_start_78 : decode cX1_start 78 = .ok (.goto (-16), 3) := by decide +kernel
theorem dX1_start_81 : decode cX1_start 81 = .ok (.aload_n 0, 1) := by decide +kernel
theorem dX1_start_82 : decode cX1_start 82 = .ok (.invokevirtual 78, 3) := by decide +kernel
theorem dX1_start_85 : decode cX1_start 85 = .ok (.aload_n 0, 1) := by decide +kernel
theorem dX1_start_86 : decode cX1_start 86 = .ok (.getfield 49, 3) := by decide +kernel
theorem dX1_start_89 : decode cX1_start 89 = .ok (.ireturn, 1) := by decide +kernel
theorem dX1_isNode_0 : decode cX1_isNode 0 = .ok (.iload_n 1, 1) := by decide +kernel
theorem dX1_isNode_1 : decode cX1_isNode 1 = .ok (.ifCond .lt 15, 3) := by decide +kernel
theorem dX1_isNode_4 : decode cX1_isNode 4 = .ok (.iload_n 1, 1) := by decide +kernel
theorem dX1_isNode_5 : decode cX1_isNode 5 = .ok (.aload_n 0, 1) := by decide +kernel
theorem dX1_isNode_6 : decode cX1_isNode 6 = .ok (.getfield 45, 3) := by decide +kernel
theorem dX1_isNode_9 : decode cX1_isNode 9 = .ok (.if_icmp .ge 7, 3) := by decide +kernel
theorem dX1_isNode_12 : decode cX1_isNode 12 = .ok (.iconst 1, 1) := by decide +kernel
theorem dX1_isNode_13 : decode cX1_isNode 13 = .ok (.goto 4, 3) := by decide +kernel
theorem dX1_isNode_16 : decode cX1_isNode 16 = .ok (.iconst 0, 1) := by decide +kernel
theorem dX1_isNode_17 : decode cX1_isNode 17 = .ok (.ireturn, 1) := by decide +kernel
theorem dX1_isThere_0 : decode cX1_isThere 0 = .ok (.iload_n 1, 1) := by decide +kernel
theorem dX1_isThere_1 : decode cX1_isThere 1 = .ok (.ifCond .lt 25, 3) := by decide +kernel
theorem dX1_isThere_4 : decode cX1_isThere 4 = .ok (.iload_n 1, 1) := by decide +kernel
theorem dX1_isThere_5 : decode cX1_isThere 5 = .ok (.aload_n 0, 1) := by decide +kernel
theorem dX1_isThere_6 : decode cX1_isThere 6 = .ok (.getfield 52, 3) := by decide +kernel
theorem dX1_isThere_9 : decode cX1_isThere 9 = .ok (.if_icmp .ge 17, 3) := by decide +kernel
theorem dX1_isThere_12 : decode cX1_isThere 12 = .ok (.aload_n 0, 1) := by decide +kernel
theorem dX1_isThere_13 : decode cX1_isThere 13 = .ok (.getfield 24, 3) := by decide +kernel
theorem dX1_isThere_16 : decode cX1_isThere 16 = .ok (.iload_n 1, 1) := by decide +kernel
theorem dX1_isThere_17 : decode cX1_isThere 17 = .ok (.iaload, 1) := by decide +kernel
theorem dX1_isThere_18 : decode cX1_isThere 18 = .ok (.iconst 2, 1) := by decide +kernel
theorem dX1_isThere_19 : decode cX1_isThere 19 = .ok (.if_icmp .eq 7, 3) := by decide +kernel
theorem dX1_isThere_22 : decode cX1_isThere 22 = .ok (.iconst 1, 1) := by decide +kernel
theorem dX1_isThere_23 : decode cX1_isThere 23 = .ok (.goto 4, 3) := by decide +kernel
theorem dX1_isThere_26 : decode cX1_isThere 26 = .ok (.iconst 0, 1) := by decide +kernel
theorem dX1_isThere_27 : decode cX1_isThere 27 = .ok (.ireturn, 1) := by decide +kernel
theorem dX1_touches_0 : decode cX1_touches 0 = .ok (.aload_n 0, 1) := by decide +kernel
theorem dX1_touches_1 : decode cX1_touches 1 = .ok (.getfield 9, 3) := by decide +kernel
theorem dX1_touches_4 : decode cX1_touches 4 = .ok (.iload_n 1, 1) := by decide +kernel
theorem dX1_touches_5 : decode cX1_touches 5 = .ok (.iaload, 1) := by decide +kernel
theorem dX1_touches_6 : decode cX1_touches 6 = .ok (.iload_n 2, 1) := by decide +kernel
theorem dX1_touches_7 : decode cX1_touches 7 = .ok (.if_icmp .eq 13, 3) := by decide +kernel
theorem dX1_touches_10 : decode cX1_touches 10 = .ok (.aload_n 0, 1) := by decide +kernel
theorem dX1_touches_11 : decode cX1_touches 11 = .ok (.getfield 15, 3) := by decide +kernel
theorem dX1_touches_14 : decode cX1_touches 14 = .ok (.iload_n 1, 1) := by decide +kernel
theorem dX1_touches_15 : decode cX1_touches 15 = .ok (.iaload, 1) := by decide +kernel
theorem dX1_touches_16 : decode cX1_touches 16 = .ok (.iload_n 2, 1) := by decide +kernel
theorem dX1_touches_17 : decode cX1_touches 17 = .ok (.if_icmp .ne 7, 3) := by decide +kernel
theorem dX1_touches_20 : decode cX1_touches 20 = .ok (.iconst 1, 1) := by decide +kernel
theorem dX1_touches_21 : decode cX1_touches 21 = .ok (.goto 4, 3) := by decide +kernel
theorem dX1_touches_24 : decode cX1_touches 24 = .ok (.iconst 0, 1) := by decide +kernel
theorem dX1_touches_25 : decode cX1_touches 25 = .ok (.ireturn, 1) := by decide +kernel
theorem dX1_refusal_0 : decode cX1_refusal 0 = .ok (.iload_n 1, 1) := by decide +kernel
theorem dX1_refusal_1 : decode cX1_refusal 1 = .ok (.tableswitch 122 1 6 #[39, 79, 93, 108, 122, 79], 39) := by decide +kernel
theorem dX1_refusal_40 : decode cX1_refusal 40 = .ok (.aload_n 0, 1) := by decide +kernel
theorem dX1_refusal_41 : decode cX1_refusal 41 = .ok (.iload_n 2, 1) := by decide +kernel
theorem dX1_refusal_42 : decode cX1_refusal 42 = .ok (.invokevirtual 81, 3) := by decide +kernel
theorem dX1_refusal_45 : decode cX1_refusal 45 = .ok (.ifCond .eq 11, 3) := by decide +kernel
theorem dX1_refusal_48 : decode cX1_refusal 48 = .ok (.aload_n 0, 1) := by decide +kernel
theorem dX1_refusal_49 : decode cX1_refusal 49 = .ok (.iload_n 3, 1) := by decide +kernel
theorem dX1_refusal_50 : decode cX1_refusal 50 = .ok (.invokevirtual 81, 3) := by decide +kernel
theorem dX1_refusal_53 : decode cX1_refusal 53 = .ok (.ifCond .ne 5, 3) := by decide +kernel
theorem dX1_refusal_56 : decode cX1_refusal 56 = .ok (.iconst 1, 1) := by decide +kernel
theorem dX1_refusal_57 : decode cX1_refusal 57 = .ok (.ireturn, 1) := by decide +kernel
theorem dX1_refusal_58 : decode cX1_refusal 58 = .ok (.iload_n 2, 1) := by decide +kernel
theorem dX1_refusal_59 : decode cX1_refusal 59 = .ok (.iload_n 3, 1) := by decide +kernel
theorem dX1_refusal_60 : decode cX1_refusal 60 = .ok (.if_icmp .ne 5, 3) := by decide +kernel
theorem dX1_refusal_63 : decode cX1_refusal 63 = .ok (.iconst 2, 1) := by decide +kernel
theorem dX1_refusal_64 : decode cX1_refusal 64 = .ok (.ireturn, 1) := by decide +kernel
theorem dX1_refusal_65 : decode cX1_refusal 65 = .ok (.aload_n 0, 1) := by decide +kernel
theorem dX1_refusal_66 : decode cX1_refusal 66 = .ok (.getfield 52, 3) := by decide +kernel
theorem dX1_refusal_69 : decode cX1_refusal 69 = .ok (.bipush 60, 2) := by decide +kernel
theorem dX1_refusal_71 : decode cX1_refusal 71 = .ok (.if_icmp .lt 7, 3) := by decide +kernel
theorem dX1_refusal_74 : decode cX1_refusal 74 = .ok (.iconst 3, 1) := by decide +kernel
theorem dX1_refusal_75 : decode cX1_refusal 75 = .ok (.goto 4, 3) := by decide +kernel
theorem dX1_refusal_78 : decode cX1_refusal 78 = .ok (.iconst 0, 1) := by decide +kernel
theorem dX1_refusal_79 : decode cX1_refusal 79 = .ok (.ireturn, 1) := by decide +kernel
theorem dX1_refusal_80 : decode cX1_refusal 80 = .ok (.aload_n 0, 1) := by decide +kernel
theorem dX1_refusal_81 : decode cX1_refusal 81 = .ok (.iload_n 2, 1) := by decide +kernel
theorem dX1_refusal_82 : decode cX1_refusal 82 = .ok (.invokevirtual 85, 3) := by decide +kernel
theorem dX1_refusal_85 : decode cX1_refusal 85 = .ok (.ifCond .eq 7, 3) := by decide +kernel
theorem dX1_refusal_88 : decode cX1_refusal 88 = .ok (.iconst 0, 1) := by decide +kernel
theorem dX1_refusal_89 : decode cX1_refusal 89 = .ok (.goto 4, 3) := by decide +kernel
theorem dX1_refusal_92 : decode cX1_refusal 92 = .ok (.iconst 4, 1) := by decide +kernel
theorem dX1_refusal_93 : decode cX1_refusal 93 = .ok (.ireturn, 1) := by decide +kernel
theorem dX1_refusal_94 : decode cX1_refusal 94 = .ok (.aload_n 0, 1) := by decide +kernel
theorem dX1_refusal_95 : decode cX1_refusal 95 = .ok (.iload_n 2, 1) := by decide +kernel
theorem dX1_refusal_96 : decode cX1_refusal 96 = .ok (.iload_n 3, 1) := by decide +kernel
theorem dX1_refusal_97 : decode cX1_refusal 97 = .ok (.invokevirtual 88, 3) := by decide +kernel
theorem dX1_refusal_100 : decode cX1_refusal 100 = .ok (.ifCond .eq 7, 3) := by decide +kernel
theorem dX1_refusal_103 : decode cX1_refusal 103 = .ok (.iconst 0, 1) := by decide +kernel
theorem dX1_refusal_104 : decode cX1_refusal 104 = .ok (.goto 4, 3) := by decide +kernel
theorem dX1_refusal_107 : decode cX1_refusal 107 = .ok (.iconst 5, 1) := by decide +kernel
theorem dX1_refusal_108 : decode cX1_refusal 108 = .ok (.ireturn, 1) := by decide +kernel
theorem dX1_refusal_109 : decode cX1_refusal 109 = .ok (.aload_n 0, 1) := by decide +kernel
theorem dX1_refusal_110 : decode cX1_refusal 110 = .ok (.iload_n 2, 1) := by decide +kernel
theorem dX1_refusal_111 : decode cX1_refusal 111 = .ok (.invokevirtual 81, 3) := by decide +kernel
theorem dX1_refusal_114 : decode cX1_refusal 114 = .ok (.ifCond .eq 7, 3) := by decide +kernel
theorem dX1_refusal_117 : decode cX1_refusal 117 = .ok (.iconst 0, 1) := by decide +kernel
theorem dX1_refusal_118 : decode cX1_refusal 118 = .ok (.goto 4, 3) := by decide +kernel
theorem dX1_refusal_121 : decode cX1_refusal 121 = .ok (.iconst 1, 1) := by decide +kernel
theorem dX1_refusal_122 : decode cX1_refusal 122 = .ok (.ireturn, 1) := by decide +kernel
theorem dX1_refusal_123 : decode cX1_refusal 123 = .ok (.iconst 0, 1) := by decide +kernel
theorem dX1_refusal_124 : decode cX1_refusal 124 = .ok (.ireturn, 1) := by decide +kernel
theorem dX1_perform_0 : decode cX1_perform 0 = .ok (.iload_n 1, 1) := by decide +kernel
theorem dX1_perform_1 : decode cX1_perform 1 = .ok (.tableswitch 76 0 5 #[39, 45, 52, 58, 65, 71], 39) := by decide +kernel
theorem dX1_perform_40 : decode cX1_perform 40 = .ok (.aload_n 0, 1) := by decide +kernel
theorem dX1_perform_41 : decode cX1_perform 41 = .ok (.iload_n 2, 1) := by decide +kernel
theorem dX1_perform_42 : decode cX1_perform 42 = .ok (.invokevirtual 92, 3) := by decide +kernel
theorem dX1_perform_45 : decode cX1_perform 45 = .ok (.ireturn, 1) := by decide +kernel
theorem dX1_perform_46 : decode cX1_perform 46 = .ok (.aload_n 0, 1) := by decide +kernel
theorem dX1_perform_47 : decode cX1_perform 47 = .ok (.iload_n 2, 1) := by decide +kernel
theorem dX1_perform_48 : decode cX1_perform 48 = .ok (.iload_n 3, 1) := by decide +kernel
theorem dX1_perform_49 : decode cX1_perform 49 = .ok (.invokevirtual 96, 3) := by decide +kernel
theorem dX1_perform_52 : decode cX1_perform 52 = .ok (.ireturn, 1) := by decide +kernel
theorem dX1_perform_53 : decode cX1_perform 53 = .ok (.aload_n 0, 1) := by decide +kernel
theorem dX1_perform_54 : decode cX1_perform 54 = .ok (.iload_n 2, 1) := by decide +kernel
theorem dX1_perform_55 : decode cX1_perform 55 = .ok (.invokevirtual 100, 3) := by decide +kernel
theorem dX1_perform_58 : decode cX1_perform 58 = .ok (.ireturn, 1) := by decide +kernel
theorem dX1_perform_59 : decode cX1_perform 59 = .ok (.aload_n 0, 1) := by decide +kernel
theorem dX1_perform_60 : decode cX1_perform 60 = .ok (.iload_n 2, 1) := by decide +kernel
theorem dX1_perform_61 : decode cX1_perform 61 = .ok (.iload_n 3, 1) := by decide +kernel
theorem dX1_perform_62 : decode cX1_perform 62 = .ok (.invokevirtual 103, 3) := by decide +kernel
theorem dX1_perform_65 : decode cX1_perform 65 = .ok (.ireturn, 1) := by decide +kernel
theorem dX1_perform_66 : decode cX1_perform 66 = .ok (.aload_n 0, 1) := by decide +kernel
theorem dX1_perform_67 : decode cX1_perform 67 = .ok (.iload_n 2, 1) := by decide +kernel
theorem dX1_perform_68 : decode cX1_perform 68 = .ok (.invokevirtual 106, 3) := by decide +kernel
theorem dX1_perform_71 : decode cX1_perform 71 = .ok (.ireturn, 1) := by decide +kernel
theorem dX1_perform_72 : decode cX1_perform 72 = .ok (.aload_n 0, 1) := by decide +kernel
theorem dX1_perform_73 : decode cX1_perform 73 = .ok (.invokevirtual 109, 3) := by decide +kernel
theorem dX1_perform_76 : decode cX1_perform 76 = .ok (.ireturn, 1) := by decide +kernel
theorem dX1_perform_77 : decode cX1_perform 77 = .ok (.aload_n 0, 1) := by decide +kernel
theorem dX1_perform_78 : decode cX1_perform 78 = .ok (.iload_n 2, 1) := by decide +kernel
theorem dX1_perform_79 : decode cX1_perform 79 = .ok (.iload_n 3, 1) := by decide +kernel
theorem dX1_perform_80 : decode cX1_perform 80 = .ok (.invokevirtual 113, 3) := by decide +kernel
theorem dX1_perform_83 : decode cX1_perform 83 = .ok (.ireturn, 1) := by decide +kernel
theorem dX1_takeCable_0 : decode cX1_takeCable 0 = .ok (.aload_n 0, 1) := by decide +kernel
theorem dX1_takeCable_1 : decode cX1_takeCable 1 = .ok (.getfield 24, 3) := by decide +kernel
theorem dX1_takeCable_4 : decode cX1_takeCable 4 = .ok (.iload_n 1, 1) := by decide +kernel
theorem dX1_takeCable_5 : decode cX1_takeCable 5 = .ok (.iaload, 1) := by decide +kernel
theorem dX1_takeCable_6 : decode cX1_takeCable 6 = .ok (.ifCond .ne 7, 3) := by decide +kernel
theorem dX1_takeCable_9 : decode cX1_takeCable 9 = .ok (.iconst 1, 1) := by decide +kernel
theorem dX1_takeCable_10 : decode cX1_takeCable 10 = .ok (.goto 4, 3) := by decide +kernel
theorem dX1_takeCable_13 : decode cX1_takeCable 13 = .ok (.iconst 0, 1) := by decide +kernel
theorem dX1_takeCable_14 : decode cX1_takeCable 14 = .ok (.istore_n 2, 1) := by decide +kernel
theorem dX1_takeCable_15 : decode cX1_takeCable 15 = .ok (.aload_n 0, 1) := by decide +kernel
theorem dX1_takeCable_16 : decode cX1_takeCable 16 = .ok (.getfield 21, 3) := by decide +kernel
theorem dX1_takeCable_19 : decode cX1_takeCable 19 = .ok (.iload_n 1, 1) := by decide +kernel
theorem dX1_takeCable_20 : decode cX1_takeCable 20 = .ok (.iaload, 1) := by decide +kernel
theorem dX1_takeCable_21 : decode cX1_takeCable 21 = .ok (.istore_n 3, 1) := by decide +kernel
theorem dX1_takeCable_22 : decode cX1_takeCable 22 = .ok (.aload_n 0, 1) := by decide +kernel
theorem dX1_takeCable_23 : decode cX1_takeCable 23 = .ok (.getfield 24, 3) := by decide +kernel
theorem dX1_takeCable_26 : decode cX1_takeCable 26 = .ok (.iload_n 1, 1) := by decide +kernel
theorem dX1_takeCable_27 : decode cX1_takeCable 27 = .ok (.iconst 2, 1) := by decide +kernel
theorem dX1_takeCable_28 : decode cX1_takeCable 28 = .ok (.iastore, 1) := by decide +kernel
theorem dX1_takeCable_29 : decode cX1_takeCable 29 = .ok (.aload_n 0, 1) := by decide +kernel
theorem dX1_takeCable_30 : decode cX1_takeCable 30 = .ok (.iload_n 1, 1) := by decide +kernel
theorem dX1_takeCable_31 : decode cX1_takeCable 31 = .ok (.iload_n 2, 1) := by decide +kernel
theorem dX1_takeCable_32 : decode cX1_takeCable 32 = .ok (.ifCond .eq 7, 3) := by decide +kernel
theorem dX1_takeCable_35 : decode cX1_takeCable 35 = .ok (.iconst 3, 1) := by decide +kernel
theorem dX1_takeCable_36 : decode cX1_takeCable 36 = .ok (.goto 4, 3) := by decide +kernel
theorem dX1_takeCable_39 : decode cX1_takeCable 39 = .ok (.iconst 2, 1) := by decide +kernel
theorem dX1_takeCable_40 : decode cX1_takeCable 40 = .ok (.iload_n 3, 1) := by decide +kernel
theorem dX1_takeCable_41 : decode cX1_takeCable 41 = .ok (.invokevirtual 116, 3) := by decide +kernel
theorem dX1_takeCable_44 : decode cX1_takeCable 44 = .ok (.iload_n 2, 1) := by decide +kernel
theorem dX1_takeCable_45 : decode cX1_takeCable 45 = .ok (.ifCond .ne 5, 3) := by decide +kernel
theorem dX1_takeCable_48 : decode cX1_takeCable 48 = .ok (.iconst (-1), 1) := by decide +kernel
theorem dX1_takeCable_49 : decode cX1_takeCable 49 = .ok (.ireturn, 1) := by decide +kernel
theorem dX1_takeCable_50 : decode cX1_takeCable 50 = .ok (.iload_n 3, 1) := by decide +kernel
theorem dX1_takeCable_51 : decode cX1_takeCable 51 = .ok (.istore 4, 2) := by decide +kernel
theorem dX1_takeCable_53 : decode cX1_takeCable 53 = .ok (.iload 4, 2) := by decide +kernel
theorem dX1_takeCable_55 : decode cX1_takeCable 55 = .ok (.ifCond .lt 24, 3) := by decide +kernel
theorem dX1_takeCable_58 : decode cX1_takeCable 58 = .ok (.aload_n 0, 1) := by decide +kernel
theorem dX1_takeCable_59 : decode cX1_takeCable 59 = .ok (.getfield 41, 3) := by decide +kernel
theorem dX1_takeCable_62 : decode cX1_takeCable 62 = .ok (.iload 4, 2) := by decide +kernel
theorem dX1_takeCable_64 : decode cX1_takeCable 64 = .ok (.aaload, 1) := by decide +kernel
theorem dX1_takeCable_65 : decode cX1_takeCable 65 = .ok (.iload_n 1, 1) := by decide +kernel
theorem dX1_takeCable_66 : decode cX1_takeCable 66 = .ok (.aload_n 0, 1) := by decide +kernel
theorem dX1_takeCable_67 : decode cX1_takeCable 67 = .ok (.getfield 38, 3) := by decide +kernel
theorem dX1_takeCable_70 : decode cX1_takeCable 70 = .ok (.invokevirtual 120, 3) := by decide +kernel
theorem dX1_takeCable_73 : decode cX1_takeCable 73 = .ok (.iinc 4 (-1), 3) := by decide +kernel
theorem dX1_takeCable_76 : decode cX1_takeCable 76 = .ok (.goto (-23), 3) := by decide +kernel
theorem dX1_takeCable_79 : decode cX1_takeCable 79 = .ok (.iload_n 3, 1) := by decide +kernel
theorem dX1_takeCable_80 : decode cX1_takeCable 80 = .ok (.istore 4, 2) := by decide +kernel
theorem dX1_takeCable_82 : decode cX1_takeCable 82 = .ok (.iload 4, 2) := by decide +kernel
theorem dX1_takeCable_84 : decode cX1_takeCable 84 = .ok (.ifCond .lt 35, 3) := by decide +kernel
theorem dX1_takeCable_87 : decode cX1_takeCable 87 = .ok (.aload_n 0, 1) := by decide +kernel
theorem dX1_takeCable_88 : decode cX1_takeCable 88 = .ok (.iload 4, 2) := by decide +kernel
theorem dX1_takeCable_90 : decode cX1_takeCable 90 = .ok (.iload_n 1, 1) := by decide +kernel
theorem dX1_takeCable_91 : decode cX1_takeCable 91 = .ok (.invokevirtual 124, 3) := by decide +kernel
theorem dX1_takeCable_94 : decode cX1_takeCable 94 = .ok (.istore 5, 2) := by decide +kernel
theorem dX1_takeCable_96 : decode cX1_takeCable 96 = .ok (.iload 5, 2) := by decide +kernel
theorem dX1_takeCable_98 : decode cX1_takeCable 98 = .ok (.iconst (-1), 1) := by decide +kernel
theorem dX1_takeCable_99 : decode cX1_takeCable 99 = .ok (.if_icmp .eq 14, 3) := by decide +kernel
theorem dX1_takeCable_102 : decode cX1_takeCable 102 = .ok (.aload_n 0, 1) := by decide +kernel
theorem dX1_takeCable_103 : decode cX1_takeCable 103 = .ok (.iload 5, 2) := by decide +kernel
theorem dX1_takeCable_105 : decode cX1_takeCable 105 = .ok (.iload 4, 2) := by decide +kernel
theorem dX1_takeCable_107 : decode cX1_takeCable 107 = .ok (.invokevirtual 127, 3) := by decide +kernel
theorem dX1_takeCable_110 : decode cX1_takeCable 110 = .ok (.iload 5, 2) := by decide +kernel
theorem dX1_takeCable_112 : decode cX1_takeCable 112 = .ok (.ireturn, 1) := by decide +kernel
theorem dX1_takeCable_113 : decode cX1_takeCable 113 = .ok (.iinc 4 (-1), 3) := by decide +kernel
theorem dX1_takeCable_116 : decode cX1_takeCable 116 = .ok (.goto (-34), 3) := by decide +kernel
theorem dX1_takeCable_119 : decode cX1_takeCable 119 = .ok (.aload_n 0, 1) := by decide +kernel
theorem dX1_takeCable_120 : decode cX1_takeCable 120 = .ok (.aload_n 0, 1) := by decide +kernel
theorem dX1_takeCable_121 : decode cX1_takeCable 121 = .ok (.getfield 9, 3) := by decide +kernel
theorem dX1_takeCable_124 : decode cX1_takeCable 124 = .ok (.iload_n 1, 1) := by decide +kernel
theorem dX1_takeCable_125 : decode cX1_takeCable 125 = .ok (.iaload, 1) := by decide +kernel
theorem dX1_takeCable_126 : decode cX1_takeCable 126 = .ok (.aload_n 0, 1) := by decide +kernel
theorem dX1_takeCable_127 : decode cX1_takeCable 127 = .ok (.getfield 15, 3) := by decide +kernel
theorem dX1_takeCable_130 : decode cX1_takeCable 130 = .ok (.iload_n 1, 1) := by decide +kernel
theorem dX1_takeCable_131 : decode cX1_takeCable 131 = .ok (.iaload, 1) := by decide +kernel
theorem dX1_takeCable_132 : decode cX1_takeCable 132 = .ok (.invokevirtual 131, 3) := by decide +kernel
theorem dX1_takeCable_135 : decode cX1_takeCable 135 = .ok (.iconst (-1), 1) := by decide +kernel
theorem dX1_takeCable_136 : decode cX1_takeCable 136 = .ok (.ireturn, 1) := by decide +kernel
theorem dX1_aboveOf_0 : decode cX1_aboveOf 0 = .ok (.aload_n 0, 1) := by decide +kernel
theorem dX1_aboveOf_1 : decode cX1_aboveOf 1 = .ok (.getfield 41, 3) := by decide +kernel
theorem dX1_aboveOf_4 : decode cX1_aboveOf 4 = .ok (.iload_n 1, 1) := by decide +kernel
theorem dX1_aboveOf_5 : decode cX1_aboveOf 5 = .ok (.aaload, 1) := by decide +kernel
theorem dX1_aboveOf_6 : decode cX1_aboveOf 6 = .ok (.iload_n 2, 1) := by decide +kernel
theorem dX1_aboveOf_7 : decode cX1_aboveOf 7 = .ok (.invokevirtual 134, 3) := by decide +kernel
theorem dX1_aboveOf_10 : decode cX1_aboveOf 10 = .ok (.istore_n 3, 1) := by decide +kernel
theorem dX1_aboveOf_11 : decode cX1_aboveOf 11 = .ok (.iload_n 3, 1) := by decide +kernel
theorem dX1_aboveOf_12 : decode cX1_aboveOf 12 = .ok (.iconst (-1), 1) := by decide +kernel
theorem dX1_aboveOf_13 : decode cX1_aboveOf 13 = .ok (.if_icmp .ne 5, 3) := by decide +kernel
theorem dX1_aboveOf_16 : decode cX1_aboveOf 16 = .ok (.iconst (-1), 1) := by decide +kernel
theorem dX1_aboveOf_17 : decode cX1_aboveOf 17 = .ok (.ireturn, 1) := by decide +kernel
theorem dX1_aboveOf_18 : decode cX1_aboveOf 18 = .ok (.aload_n 0, 1) := by decide +kernel
theorem dX1_aboveOf_19 : decode cX1_aboveOf 19 = .ok (.getfield 41, 3) := by decide +kernel
theorem dX1_aboveOf_22 : decode cX1_aboveOf 22 = .ok (.iload_n 1, 1) := by decide +kernel
theorem dX1_aboveOf_23 : decode cX1_aboveOf 23 = .ok (.aaload, 1) := by decide +kernel
theorem dX1_aboveOf_24 : decode cX1_aboveOf 24 = .ok (.iload_n 3, 1) := by decide +kernel
theorem dX1_aboveOf_25 : decode cX1_aboveOf 25 = .ok (.invokevirtual 137, 3) := by decide +kernel
theorem dX1_aboveOf_28 : decode cX1_aboveOf 28 = .ok (.aload_n 0, 1) := by decide +kernel
theorem dX1_aboveOf_29 : decode cX1_aboveOf 29 = .ok (.getfield 9, 3) := by decide +kernel
theorem dX1_aboveOf_32 : decode cX1_aboveOf 32 = .ok (.iload_n 3, 1) := by decide +kernel
theorem dX1_aboveOf_33 : decode cX1_aboveOf 33 = .ok (.iaload, 1) := by decide +kernel
theorem dX1_aboveOf_34 : decode cX1_aboveOf 34 = .ok (.invokestatic 140, 3) := by decide +kernel
theorem dX1_aboveOf_37 : decode cX1_aboveOf 37 = .ok (.ifCond .eq 12, 3) := by decide +kernel
theorem dX1_aboveOf_40 : decode cX1_aboveOf 40 = .ok (.aload_n 0, 1) := by decide +kernel
theorem dX1_aboveOf_41 : decode cX1_aboveOf 41 = .ok (.getfield 15, 3) := by decide +kernel
theorem dX1_aboveOf_44 : decode cX1_aboveOf 44 = .ok (.iload_n 3, 1) := by decide +kernel
theorem dX1_aboveOf_45 : decode cX1_aboveOf 45 = .ok (.iaload, 1) := by decide +kernel
theorem dX1_aboveOf_46 : decode cX1_aboveOf 46 = .ok (.goto 9, 3) := by decide +kernel
theorem dX1_aboveOf_49 : decode cX1_aboveOf 49 = .ok (.aload_n 0, 1) := by decide +kernel
theorem dX1_aboveOf_50 : decode cX1_aboveOf 50 = .ok (.getfield 9, 3) := by decide +kernel
theorem dX1_aboveOf_53 : decode cX1_aboveOf 53 = .ok (.iload_n 3, 1) := by decide +kernel
theorem dX1_aboveOf_54 : decode cX1_aboveOf 54 = .ok (.iaload, 1) := by decide +kernel
theorem dX1_aboveOf_55 : decode cX1_aboveOf 55 = .ok (.ireturn, 1) := by decide +kernel
theorem dX1_meetingOf_0 : decode cX1_meetingOf 0 = .ok (.iload_n 2, 1) := by decide +kernel
theorem dX1_meetingOf_1 : decode cX1_meetingOf 1 = .ok (.istore 4, 2) := by decide +kernel
theorem dX1_meetingOf_3 : decode cX1_meetingOf 3 = .ok (.iconst 0, 1) := by decide +kernel
theorem dX1_meetingOf_4 : decode cX1_meetingOf 4 = .ok (.istore 5, 2) := by decide +kernel
theorem dX1_meetingOf_6 : decode cX1_meetingOf 6 = .ok (.iload 5, 2) := by decide +kernel
theorem dX1_meetingOf_8 : decode cX1_meetingOf 8 = .ok (.bipush 16, 2) := by decide +kernel
theorem dX1_meetingOf_10 : decode cX1_meetingOf 10 = .ok (.if_icmp .ge 45, 3) := by decide +kernel
theorem dX1_meetingOf_13 : decode cX1_meetingOf 13 = .ok (.iload 4, 2) := by decide +kernel
theorem dX1_meetingOf_15 : decode cX1_meetingOf 15 = .ok (.iconst (-1), 1) := by decide +kernel
theorem dX1_meetingOf_16 : decode cX1_meetingOf 16 = .ok (.if_icmp .eq 39, 3) := by decide +kernel
theorem dX1_meetingOf_19 : decode cX1_meetingOf 19 = .ok (.aload_n 0, 1) := by decide +kernel
theorem dX1_meetingOf_20 : decode cX1_meetingOf 20 = .ok (.getfield 41, 3) := by decide +kernel
theorem dX1_meetingOf_23 : decode cX1_meetingOf 23 = .ok (.iload_n 1, 1) := by decide +kernel
theorem dX1_meetingOf_24 : decode cX1_meetingOf 24 = .ok (.aaload, 1) := by decide +kernel
theorem dX1_meetingOf_25 : decode cX1_meetingOf 25 = .ok (.iload 4, 2) := by decide +kernel
theorem dX1_meetingOf_27 : decode cX1_meetingOf 27 = .ok (.invokevirtual 143, 3) := by decide +kernel
theorem dX1_meetingOf_30 : decode cX1_meetingOf 30 = .ok (.iload_n 3, 1) := by decide +kernel
theorem dX1_meetingOf_31 : decode cX1_meetingOf 31 = .ok (.invokestatic 140, 3) := by decide +kernel
theorem dX1_meetingOf_34 : decode cX1_meetingOf 34 = .ok (.ifCond .eq 6, 3) := by decide +kernel
theorem dX1_meetingOf_37 : decode cX1_meetingOf 37 = .ok (.iload 4, 2) := by decide +kernel
theorem dX1_meetingOf_39 : decode cX1_meetingOf 39 = .ok (.ireturn, 1) := by decide +kernel
theorem dX1_meetingOf_40 : decode cX1_meetingOf 40 = .ok (.aload_n 0, 1) := by decide +kernel
theorem dX1_meetingOf_41 : decode cX1_meetingOf 41 = .ok (.iload_n 1, 1) := by decide +kernel
theorem dX1_meetingOf_42 : decode cX1_meetingOf 42 = .ok (.iload 4, 2) := by decide +kernel
theorem dX1_meetingOf_44 : decode cX1_meetingOf 44 = .ok (.invokevirtual 146, 3) := by decide +kernel
theorem dX1_meetingOf_47 : decode cX1_meetingOf 47 = .ok (.istore 4, 2) := by decide +kernel
theorem dX1_meetingOf_49 : decode cX1_meetingOf 49 = .ok (.iinc 5 1, 3) := by decide +kernel
theorem dX1_meetingOf_52 : decode cX1_meetingOf 52 = .ok (.goto (-46), 3) := by decide +kernel
theorem dX1_meetingOf_55 : decode cX1_meetingOf 55 = .ok (.iconst (-1), 1) := by decide +kernel
theorem dX1_meetingOf_56 : decode cX1_meetingOf 56 = .ok (.ireturn, 1) := by decide +kernel
theorem dX1_cablesOf_0 : decode cX1_cablesOf 0 = .ok (.iconst 0, 1) := by decide +kernel
theorem dX1_cablesOf_1 : decode cX1_cablesOf 1 = .ok (.istore_n 2, 1) := by decide +kernel
theorem dX1_cablesOf_2 : decode cX1_cablesOf 2 = .ok (.iconst 0, 1) := by decide +kernel
theorem dX1_cablesOf_3 : decode cX1_cablesOf 3 = .ok (.istore_n 3, 1) := by decide +kernel
theorem dX1_cablesOf_4 : decode cX1_cablesOf 4 = .ok (.iload_n 3, 1) := by decide +kernel
theorem dX1_cablesOf_5 : decode cX1_cablesOf 5 = .ok (.aload_n 0, 1) := by decide +kernel
theorem dX1_cablesOf_6 : decode cX1_cablesOf 6 = .ok (.getfield 52, 3) := by decide +kernel
theorem dX1_cablesOf_9 : decode cX1_cablesOf 9 = .ok (.if_icmp .ge 22, 3) := by decide +kernel
theorem dX1_cablesOf_12 : decode cX1_cablesOf 12 = .ok (.aload_n 0, 1) := by decide +kernel
theorem dX1_cablesOf_13 : decode cX1_cablesOf 13 = .ok (.getfield 24, 3) := by decide +kernel
theorem dX1_cablesOf_16 : decode cX1_cablesOf 16 = .ok (.iload_n 3, 1) := by decide +kernel
theorem dX1_cablesOf_17 : decode cX1_cablesOf 17 = .ok (.iaload, 1) := by decide +kernel
theorem dX1_cablesOf_18 : decode cX1_cablesOf 18 = .ok (.iload_n 1, 1) := by decide +kernel
theorem dX1_cablesOf_19 : decode cX1_cablesOf 19 = .ok (.if_icmp .ne 6, 3) := by decide +kernel
theorem dX1_cablesOf_22 : decode cX1_cablesOf 22 = .ok (.iinc 2 1, 3) := by decide +kernel
theorem dX1_cablesOf_25 : decode cX1_cablesOf 25 = .ok (.iinc 3 1, 3) := by decide +kernel
theorem dX1_cablesOf_28 : decode cX1_cablesOf 28 = .ok (.goto (-24), 3) := by decide +kernel
theorem dX1_cablesOf_31 : decode cX1_cablesOf 31 = .ok (.iload_n 2, 1) := by decide +kernel
theorem dX1_cablesOf_32 : decode cX1_cablesOf 32 = .ok (.ireturn, 1) := by decide +kernel
theorem dX1_cablesOn_0 : decode cX1_cablesOn 0 = .ok (.iconst 0, 1) := by decide +kernel
theorem dX1_cablesOn_1 : decode cX1_cablesOn 1 = .ok (.istore_n 3, 1) := by decide +kernel
theorem dX1_cablesOn_2 : decode cX1_cablesOn 2 = .ok (.iconst 0, 1) := by decide +kernel
theorem dX1_cablesOn_3 : decode cX1_cablesOn 3 = .ok (.istore 4, 2) := by decide +kernel
theorem dX1_cablesOn_5 : decode cX1_cablesOn 5 = .ok (.iload 4, 2) := by decide +kernel
theorem dX1_cablesOn_7 : decode cX1_cablesOn 7 = .ok (.aload_n 0, 1) := by decide +kernel
theorem dX1_cablesOn_8 : decode cX1_cablesOn 8 = .ok (.getfield 52, 3) := by decide +kernel
theorem dX1_cablesOn_11 : decode cX1_cablesOn 11 = .ok (.if_icmp .ge 34, 3) := by decide +kernel
theorem dX1_cablesOn_14 : decode cX1_cablesOn 14 = .ok (.aload_n 0, 1) := by decide +kernel
theorem dX1_cablesOn_15 : decode cX1_cablesOn 15 = .ok (.getfield 24, 3) := by decide +kernel
theorem dX1_cablesOn_18 : decode cX1_cablesOn 18 = .ok (.iload 4, 2) := by decide +kernel
theorem dX1_cablesOn_20 : decode cX1_cablesOn 20 = .ok (.iaload, 1) := by decide +kernel
theorem dX1_cablesOn_21 : decode cX1_cablesOn 21 = .ok (.iload_n 2, 1) := by decide +kernel
theorem dX1_cablesOn_22 : decode cX1_cablesOn 22 = .ok (.if_icmp .ne 17, 3) := by decide +kernel
theorem dX1_cablesOn_25 : decode cX1_cablesOn 25 = .ok (.aload_n 0, 1) := by decide +kernel
theorem dX1_cablesOn_26 : decode cX1_cablesOn 26 = .ok (.getfield 21, 3) := by decide +kernel
theorem dX1_cablesOn_29 : decode cX1_cablesOn 29 = .ok (.iload 4, 2) := by decide +kernel
theorem dX1_cablesOn_31 : decode cX1_cablesOn 31 = .ok (.iaload, 1) := by decide +kernel
theorem dX1_cablesOn_32 : decode cX1_cablesOn 32 = .ok (.iload_n 1, 1) := by decide +kernel
theorem dX1_cablesOn_33 : decode cX1_cablesOn 33 = .ok (.if_icmp .ne 6, 3) := by decide +kernel
theorem dX1_cablesOn_36 : decode cX1_cablesOn 36 = .ok (.iinc 3 1, 3) := by decide +kernel
theorem dX1_cablesOn_39 : decode cX1_cablesOn 39 = .ok (.iinc 4 1, 3) := by decide +kernel
theorem dX1_cablesOn_42 : decode cX1_cablesOn 42 = .ok (.goto (-37), 3) := by decide +kernel
theorem dX1_cablesOn_45 : decode cX1_cablesOn 45 = .ok (.iload_n 3, 1) := by decide +kernel
theorem dX1_cablesOn_46 : decode cX1_cablesOn 46 = .ok (.ireturn, 1) := by decide +kernel
theorem dX1_cablesAt_0 : decode cX1_cablesAt 0 = .ok (.iconst 0, 1) := by decide +kernel
theorem dX1_cablesAt_1 : decode cX1_cablesAt 1 = .ok (.istore_n 3, 1) := by decide +kernel
theorem dX1_cablesAt_2 : decode cX1_cablesAt 2 = .ok (.iconst 0, 1) := by decide +kernel
theorem dX1_cablesAt_3 : decode cX1_cablesAt 3 = .ok (.istore 4, 2) := by decide +kernel
theorem dX1_cablesAt_5 : decode cX1_cablesAt 5 = .ok (.iload 4, 2) := by decide +kernel
theorem dX1_cablesAt_7 : decode cX1_cablesAt 7 = .ok (.aload_n 0, 1) := by decide +kernel
theorem dX1_cablesAt_8 : decode cX1_cablesAt 8 = .ok (.getfield 52, 3) := by decide +kernel
theorem dX1_cablesAt_11 : decode cX1_cablesAt 11 = .ok (.if_icmp .ge 33, 3) := by decide +kernel
theorem dX1_cablesAt_14 : decode cX1_cablesAt 14 = .ok (.aload_n 0, 1) := by decide +kernel
theorem dX1_cablesAt_15 : decode cX1_cablesAt 15 = .ok (.getfield 24, 3) := by decide +kernel
theorem dX1_cablesAt_18 : decode cX1_cablesAt 18 = .ok (.iload 4, 2) := by decide +kernel
theorem dX1_cablesAt_20 : decode cX1_cablesAt 20 = .ok (.iaload, 1) := by decide +kernel
theorem dX1_cablesAt_21 : decode cX1_cablesAt 21 = .ok (.iload_n 2, 1) := by decide +kernel
theorem dX1_cablesAt_22 : decode cX1_cablesAt 22 = .ok (.if_icmp .ne 16, 3) := by decide +kernel
theorem dX1_cablesAt_25 : decode cX1_cablesAt 25 = .ok (.aload_n 0, 1) := by decide +kernel
theorem dX1_cablesAt_26 : decode cX1_cablesAt 26 = .ok (.iload 4, 2) := by decide +kernel
theorem dX1_cablesAt_28 : decode cX1_cablesAt 28 = .ok (.iload_n 1, 1) := by decide +kernel
theorem dX1_cablesAt_29 : decode cX1_cablesAt 29 = .ok (.invokevirtual 149, 3) := by decide +kernel
theorem dX1_cablesAt_32 : decode cX1_cablesAt 32 = .ok (.ifCond .eq 6, 3) := by decide +kernel
theorem dX1_cablesAt_35 : decode cX1_cablesAt 35 = .ok (.iinc 3 1, 3) := by decide +kernel
theorem dX1_cablesAt_38 : decode cX1_cablesAt 38 = .ok (.iinc 4 1, 3) := by decide +kernel
theorem dX1_cablesAt_41 : decode cX1_cablesAt 41 = .ok (.goto (-36), 3) := by decide +kernel
theorem dX1_cablesAt_44 : decode cX1_cablesAt 44 = .ok (.iload_n 3, 1) := by decide +kernel
theorem dX1_cablesAt_45 : decode cX1_cablesAt 45 = .ok (.ireturn, 1) := by decide +kernel
theorem dX1_likePairs_0 : decode cX1_likePairs 0 = .ok (.iconst 0, 1) := by decide +kernel
theorem dX1_likePairs_1 : decode cX1_likePairs 1 = .ok (.istore_n 1, 1) := by decide +kernel
theorem dX1_likePairs_2 : decode cX1_likePairs 2 = .ok (.iconst 0, 1) := by decide +kernel
theorem dX1_likePairs_3 : decode cX1_likePairs 3 = .ok (.istore_n 2, 1) := by decide +kernel
theorem dX1_likePairs_4 : decode cX1_likePairs 4 = .ok (.iload_n 2, 1) := by decide +kernel
theorem dX1_likePairs_5 : decode cX1_likePairs 5 = .ok (.aload_n 0, 1) := by decide +kernel
theorem dX1_likePairs_6 : decode cX1_likePairs 6 = .ok (.getfield 52, 3) := by decide +kernel
theorem dX1_likePairs_9 : decode cX1_likePairs 9 = .ok (.if_icmp .ge 69, 3) := by decide +kernel
theorem dX1_likePairs_12 : decode cX1_likePairs 12 = .ok (.iconst 0, 1) := by decide +kernel
theorem dX1_likePairs_13 : decode cX1_likePairs 13 = .ok (.istore_n 3, 1) := by decide +kernel
theorem dX1_likePairs_14 : decode cX1_likePairs 14 = .ok (.iload_n 3, 1) := by decide +kernel
theorem dX1_likePairs_15 : decode cX1_likePairs 15 = .ok (.iload_n 2, 1) := by decide +kernel
theorem dX1_likePairs_16 : decode cX1_likePairs 16 = .ok (.if_icmp .ge 56, 3) := by decide +kernel
theorem dX1_likePairs_19 : decode cX1_likePairs 19 = .ok (.aload_n 0, 1) := by decide +kernel
theorem dX1_likePairs_20 : decode cX1_likePairs 20 = .ok (.iload_n 2, 1) := by decide +kernel
theorem dX1_likePairs_21 : decode cX1_likePairs 21 = .ok (.invokevirtual 85, 3) := by decide +kernel
theorem dX1_likePairs_24 : decode cX1_likePairs 24 = .ok (.ifCond .eq 42, 3) := by decide +kernel
theorem dX1_likePairs_27 : decode cX1_likePairs 27 = .ok (.aload_n 0, 1) := by decide +kernel
theorem dX1_likePairs_28 : decode cX1_likePairs 28 = .ok (.iload_n 3, 1) := by decide +kernel
theorem dX1_likePairs_29 : decode cX1_likePairs 29 = .ok (.invokevirtual 85, 3) := by decide +kernel
theorem dX1_likePairs_32 : decode cX1_likePairs 32 = .ok (.ifCond .eq 34, 3) := by decide +kernel
theorem dX1_likePairs_35 : decode cX1_likePairs 35 = .ok (.aload_n 0, 1) := by decide +kernel
theorem dX1_likePairs_36 : decode cX1_likePairs 36 = .ok (.iload_n 3, 1) := by decide +kernel
theorem dX1_likePairs_37 : decode cX1_likePairs 37 = .ok (.aload_n 0, 1) := by decide +kernel
theorem dX1_likePairs_38 : decode cX1_likePairs 38 = .ok (.getfield 9, 3) := by decide +kernel
theorem dX1_likePairs_41 : decode cX1_likePairs 41 = .ok (.iload_n 2, 1) := by decide +kernel
theorem dX1_likePairs_42 : decode cX1_likePairs 42 = .ok (.iaload, 1) := by decide +kernel
theorem dX1_likePairs_43 : decode cX1_likePairs 43 = .ok (.invokevirtual 149, 3) := by decide +kernel
theorem dX1_likePairs_46 : decode cX1_likePairs 46 = .ok (.ifCond .eq 20, 3) := by decide +kernel
theorem dX1_likePairs_49 : decode cX1_likePairs 49 = .ok (.aload_n 0, 1) := by decide +kernel
theorem dX1_likePairs_50 : decode cX1_likePairs 50 = .ok (.iload_n 3, 1) := by decide +kernel
theorem dX1_likePairs_51 : decode cX1_likePairs 51 = .ok (.aload_n 0, 1) := by decide +kernel
theorem dX1_likePairs_52 : decode cX1_likePairs 52 = .ok (.getfield 15, 3) := by decide +kernel
theorem dX1_likePairs_55 : decode cX1_likePairs 55 = .ok (.iload_n 2, 1) := by decide +kernel
theorem dX1_likePairs_56 : decode cX1_likePairs 56 = .ok (.iaload, 1) := by decide +kernel
theorem dX1_likePairs_57 : decode cX1_likePairs 57 = .ok (.invokevirtual 149, 3) := by decide +kernel
theorem dX1_likePairs_60 : decode cX1_likePairs 60 = .ok (.ifCond .eq 6, 3) := by decide +kernel
theorem dX1_likePairs_63 : decode cX1_likePairs 63 = .ok (.iinc 1 1, 3) := by decide +kernel
theorem dX1_likePairs_66 : decode cX1_likePairs 66 = .ok (.iinc 3 1, 3) := by decide +kernel
theorem dX1_likePairs_69 : decode cX1_likePairs 69 = .ok (.goto (-55), 3) := by decide +kernel
theorem dX1_likePairs_72 : decode cX1_likePairs 72 = .ok (.iinc 2 1, 3) := by decide +kernel
theorem dX1_likePairs_75 : decode cX1_likePairs 75 = .ok (.goto (-71), 3) := by decide +kernel
theorem dX1_likePairs_78 : decode cX1_likePairs 78 = .ok (.iload_n 1, 1) := by decide +kernel
theorem dX1_likePairs_79 : decode cX1_likePairs 79 = .ok (.ireturn, 1) := by decide +kernel
theorem dX1_greatestLevel_0 : decode cX1_greatestLevel 0 = .ok (.iconst (-1), 1) := by decide +kernel
theorem dX1_greatestLevel_1 : decode cX1_greatestLevel 1 = .ok (.istore_n 1, 1) := by decide +kernel
theorem dX1_greatestLevel_2 : decode cX1_greatestLevel 2 = .ok (.iconst 0, 1) := by decide +kernel
theorem dX1_greatestLevel_3 : decode cX1_greatestLevel 3 = .ok (.istore_n 2, 1) := by decide +kernel
theorem dX1_greatestLevel_4 : decode cX1_greatestLevel 4 = .ok (.iload_n 2, 1) := by decide +kernel
theorem dX1_greatestLevel_5 : decode cX1_greatestLevel 5 = .ok (.aload_n 0, 1) := by decide +kernel
theorem dX1_greatestLevel_6 : decode cX1_greatestLevel 6 = .ok (.getfield 52, 3) := by decide +kernel
theorem dX1_greatestLevel_9 : decode cX1_greatestLevel 9 = .ok (.if_icmp .ge 30, 3) := by decide +kernel
theorem dX1_greatestLevel_12 : decode cX1_greatestLevel 12 = .ok (.aload_n 0, 1) := by decide +kernel
theorem dX1_greatestLevel_13 : decode cX1_greatestLevel 13 = .ok (.getfield 24, 3) := by decide +kernel
theorem dX1_greatestLevel_16 : decode cX1_greatestLevel 16 = .ok (.iload_n 2, 1) := by decide +kernel
theorem dX1_greatestLevel_17 : decode cX1_greatestLevel 17 = .ok (.iaload, 1) := by decide +kernel
theorem dX1_greatestLevel_18 : decode cX1_greatestLevel 18 = .ok (.iconst 2, 1) := by decide +kernel
theorem dX1_greatestLevel_19 : decode cX1_greatestLevel 19 = .ok (.if_icmp .eq 14, 3) := by decide +kernel
theorem dX1_greatestLevel_22 : decode cX1_greatestLevel 22 = .ok (.iload_n 1, 1) := by decide +kernel
theorem dX1_greatestLevel_23 : decode cX1_greatestLevel 23 = .ok (.aload_n 0, 1) := by decide +kernel
theorem dX1_greatestLevel_24 : decode cX1_greatestLevel 24 = .ok (.getfield 21, 3) := by decide +kernel
theorem dX1_greatestLevel_27 : decode cX1_greatestLevel 27 = .ok (.iload_n 2, 1) := by decide +kernel
theorem dX1_greatestLevel_28 : decode cX1_greatestLevel 28 = .ok (.iaload, 1) := by decide +kernel
theorem dX1_greatestLevel_29 : decode cX1_greatestLevel 29 = .ok (.invokestatic 152, 3) := by decide +kernel
theorem dX1_greatestLevel_32 : decode cX1_greatestLevel 32 = .ok (.istore_n 1, 1) := by decide +kernel
theorem dX1_greatestLevel_33 : decode cX1_greatestLevel 33 = .ok (.iinc 2 1, 3) := by decide +kernel
theorem dX1_greatestLevel_36 : decode cX1_greatestLevel 36 = .ok (.goto (-32), 3) := by decide +kernel
theorem dX1_greatestLevel_39 : decode cX1_greatestLevel 39 = .ok (.iload_n 1, 1) := by decide +kernel
theorem dX1_greatestLevel_40 : decode cX1_greatestLevel 40 = .ok (.ireturn, 1) := by decide +kernel
theorem dX1_plantAll_0 : decode cX1_plantAll 0 = .ok (.iconst 0, 1) := by decide +kernel
theorem dX1_plantAll_1 : decode cX1_plantAll 1 = .ok (.istore_n 1, 1) := by decide +kernel
theorem dX1_plantAll_2 : decode cX1_plantAll 2 = .ok (.iload_n 1, 1) := by decide +kernel
theorem dX1_plantAll_3 : decode cX1_plantAll 3 = .ok (.iconst 5, 1) := by decide +kernel
theorem dX1_plantAll_4 : decode cX1_plantAll 4 = .ok (.if_icmp .ge 22, 3) := by decide +kernel
theorem dX1_plantAll_7 : decode cX1_plantAll 7 = .ok (.aload_n 0, 1) := by decide +kernel
theorem dX1_plantAll_8 : decode cX1_plantAll 8 = .ok (.getfield 41, 3) := by decide +kernel
theorem dX1_plantAll_11 : decode cX1_plantAll 11 = .ok (.iload_n 1, 1) := by decide +kernel
theorem dX1_plantAll_12 : decode cX1_plantAll 12 = .ok (.aaload, 1) := by decide +kernel
theorem dX1_plantAll_13 : decode cX1_plantAll 13 = .ok (.aload_n 0, 1) := by decide +kernel
theorem dX1_plantAll_14 : decode cX1_plantAll 14 = .ok (.getfield 45, 3) := by decide +kernel
theorem dX1_plantAll_17 : decode cX1_plantAll 17 = .ok (.invokevirtual 157, 3) := by decide +kernel
theorem dX1_plantAll_20 : decode cX1_plantAll 20 = .ok (.iinc 1 1, 3) := by decide +kernel
theorem dX1_plantAll_23 : decode cX1_plantAll 23 = .ok (.goto (-21), 3) := by decide +kernel
theorem dX1_plantAll_26 : decode cX1_plantAll 26 = .ok (.return_, 1) := by decide +kernel
theorem dX1_addCable_0 : decode cX1_addCable 0 = .ok (.aload_n 0, 1) := by decide +kernel
theorem dX1_addCable_1 : decode cX1_addCable 1 = .ok (.getfield 52, 3) := by decide +kernel
theorem dX1_addCable_4 : decode cX1_addCable 4 = .ok (.istore_n 3, 1) := by decide +kernel
theorem dX1_addCable_5 : decode cX1_addCable 5 = .ok (.aload_n 0, 1) := by decide +kernel
theorem dX1_addCable_6 : decode cX1_addCable 6 = .ok (.dup, 1) := by decide +kernel
theorem dX1_addCable_7 : decode cX1_addCable 7 = .ok (.getfield 52, 3) := by decide +kernel
theorem dX1_addCable_10 : decode cX1_addCable 10 = .ok (.iconst 1, 1) := by decide +kernel
theorem dX1_addCable_11 : decode cX1_addCable 11 = .ok (.iadd, 1) := by decide +kernel
theorem dX1_addCable_12 : decode cX1_addCable 12 = .ok (.putfield 52, 3) := by decide +kernel
theorem dX1_addCable_15 : decode cX1_addCable 15 = .ok (.aload_n 0, 1) := by decide +kernel
theorem dX1_addCable_16 : decode cX1_addCable 16 = .ok (.getfield 9, 3) := by decide +kernel
theorem dX1_addCable_19 : decode cX1_addCable 19 = .ok (.iload_n 3, 1) := by decide +kernel
theorem dX1_addCable_20 : decode cX1_addCable 20 = .ok (.iload_n 1, 1) := by decide +kernel
theorem dX1_addCable_21 : decode cX1_addCable 21 = .ok (.iastore, 1) := by decide +kernel
theorem dX1_addCable_22 : decode cX1_addCable 22 = .ok (.aload_n 0, 1) := by decide +kernel
theorem dX1_addCable_23 : decode cX1_addCable 23 = .ok (.getfield 15, 3) := by decide +kernel
theorem dX1_addCable_26 : decode cX1_addCable 26 = .ok (.iload_n 3, 1) := by decide +kernel
theorem dX1_addCable_27 : decode cX1_addCable 27 = .ok (.iload_n 2, 1) := by decide +kernel
theorem dX1_addCable_28 : decode cX1_addCable 28 = .ok (.iastore, 1) := by decide +kernel
theorem dX1_addCable_29 : decode cX1_addCable 29 = .ok (.aload_n 0, 1) := by decide +kernel
theorem dX1_addCable_30 : decode cX1_addCable 30 = .ok (.getfield 18, 3) := by decide +kernel
theorem dX1_addCable_33 : decode cX1_addCable 33 = .ok (.iload_n 3, 1) := by decide +kernel
theorem dX1_addCable_34 : decode cX1_addCable 34 = .ok (.iconst 1, 1) := by decide +kernel
theorem dX1_addCable_35 : decode cX1_addCable 35 = .ok (.iastore, 1) := by decide +kernel
theorem dX1_addCable_36 : decode cX1_addCable 36 = .ok (.aload_n 0, 1) := by decide +kernel
theorem dX1_addCable_37 : decode cX1_addCable 37 = .ok (.getfield 21, 3) := by decide +kernel
theorem dX1_addCable_40 : decode cX1_addCable 40 = .ok (.iload_n 3, 1) := by decide +kernel
theorem dX1_addCable_41 : decode cX1_addCable 41 = .ok (.iconst 0, 1) := by decide +kernel
theorem dX1_addCable_42 : decode cX1_addCable 42 = .ok (.iastore, 1) := by decide +kernel
theorem dX1_addCable_43 : decode cX1_addCable 43 = .ok (.aload_n 0, 1) := by decide +kernel
theorem dX1_addCable_44 : decode cX1_addCable 44 = .ok (.getfield 27, 3) := by decide +kernel
theorem dX1_addCable_47 : decode cX1_addCable 47 = .ok (.iload_n 3, 1) := by decide +kernel
theorem dX1_addCable_48 : decode cX1_addCable 48 = .ok (.iconst 0, 1) := by decide +kernel
theorem dX1_addCable_49 : decode cX1_addCable 49 = .ok (.iastore, 1) := by decide +kernel
theorem dX1_addCable_50 : decode cX1_addCable 50 = .ok (.aload_n 0, 1) := by decide +kernel
theorem dX1_addCable_51 : decode cX1_addCable 51 = .ok (.getfield 41, 3) := by decide +kernel
theorem dX1_addCable_54 : decode cX1_addCable 54 = .ok (.iconst 0, 1) := by decide +kernel
theorem dX1_addCable_55 : decode cX1_addCable 55 = .ok (.aaload, 1) := by decide +kernel
theorem dX1_addCable_56 : decode cX1_addCable 56 = .ok (.iload_n 1, 1) := by decide +kernel
theorem dX1_addCable_57 : decode cX1_addCable 57 = .ok (.invokevirtual 161, 3) := by decide +kernel
theorem dX1_addCable_60 : decode cX1_addCable 60 = .ok (.istore 4, 2) := by decide +kernel
theorem dX1_addCable_62 : decode cX1_addCable 62 = .ok (.iload 4, 2) := by decide +kernel
theorem dX1_addCable_64 : decode cX1_addCable 64 = .ok (.iload_n 2, 1) := by decide +kernel
theorem dX1_addCable_65 : decode cX1_addCable 65 = .ok (.invokestatic 140, 3) := by decide +kernel
theorem dX1_addCable_68 : decode cX1_addCable 68 = .ok (.ifCond .eq 19, 3) := by decide +kernel
theorem dX1_addCable_71 : decode cX1_addCable 71 = .ok (.aload_n 0, 1) := by decide +kernel
theorem dX1_addCable_72 : decode cX1_addCable 72 = .ok (.getfield 24, 3) := by decide +kernel
theorem dX1_addCable_75 : decode cX1_addCable 75 = .ok (.iload_n 3, 1) := by decide +kernel
theorem dX1_addCable_76 : decode cX1_addCable 76 = .ok (.iconst 1, 1) := by decide +kernel
theorem dX1_addCable_77 : decode cX1_addCable 77 = .ok (.iastore, 1) := by decide +kernel
theorem dX1_addCable_78 : decode cX1_addCable 78 = .ok (.aload_n 0, 1) := by decide +kernel
theorem dX1_addCable_79 : decode cX1_addCable 79 = .ok (.iload_n 3, 1) := by decide +kernel
theorem dX1_addCable_80 : decode cX1_addCable 80 = .ok (.iconst 1, 1) := by decide +kernel
theorem dX1_addCable_81 : decode cX1_addCable 81 = .ok (.iconst 0, 1) := by decide +kernel
theorem dX1_addCable_82 : decode cX1_addCable 82 = .ok (.invokevirtual 116, 3) := by decide +kernel
theorem dX1_addCable_85 : decode cX1_addCable 85 = .ok (.iload_n 3, 1) := by decide +kernel
theorem dX1_addCable_86 : decode cX1_addCable 86 = .ok (.ireturn, 1) := by decide +kernel
theorem dX1_addCable_87 : decode cX1_addCable 87 = .ok (.aload_n 0, 1) := by decide +kernel
theorem dX1_addCable_88 : decode cX1_addCable 88 = .ok (.getfield 24, 3) := by decide +kernel
theorem dX1_addCable_91 : decode cX1_addCable 91 = .ok (.iload_n 3, 1) := by decide +kernel
theorem dX1_addCable_92 : decode cX1_addCable 92 = .ok (.iconst 0, 1) := by decide +kernel
theorem dX1_addCable_93 : decode cX1_addCable 93 = .ok (.iastore, 1) := by decide +kernel
theorem dX1_addCable_94 : decode cX1_addCable 94 = .ok (.aload_n 0, 1) := by decide +kernel
theorem dX1_addCable_95 : decode cX1_addCable 95 = .ok (.iload 4, 2) := by decide +kernel
theorem dX1_addCable_97 : decode cX1_addCable 97 = .ok (.aload_n 0, 1) := by decide +kernel
theorem dX1_addCable_98 : decode cX1_addCable 98 = .ok (.getfield 30, 3) := by decide +kernel
theorem dX1_addCable_101 : decode cX1_addCable 101 = .ok (.iload_n 1, 1) := by decide +kernel
theorem dX1_addCable_102 : decode cX1_addCable 102 = .ok (.iaload, 1) := by decide +kernel
theorem dX1_addCable_103 : decode cX1_addCable 103 = .ok (.aload_n 0, 1) := by decide +kernel
theorem dX1_addCable_104 : decode cX1_addCable 104 = .ok (.getfield 41, 3) := by decide +kernel
theorem dX1_addCable_107 : decode cX1_addCable 107 = .ok (.iconst 0, 1) := by decide +kernel
theorem dX1_addCable_108 : decode cX1_addCable 108 = .ok (.aaload, 1) := by decide +kernel
theorem dX1_addCable_109 : decode cX1_addCable 109 = .ok (.iload_n 2, 1) := by decide +kernel
theorem dX1_addCable_110 : decode cX1_addCable 110 = .ok (.invokevirtual 161, 3) := by decide +kernel
theorem dX1_addCable_113 : decode cX1_addCable 113 = .ok (.aload_n 0, 1) := by decide +kernel
theorem dX1_addCable_114 : decode cX1_addCable 114 = .ok (.getfield 30, 3) := by decide +kernel
theorem dX1_addCable_117 : decode cX1_addCable 117 = .ok (.iload_n 2, 1) := by decide +kernel
theorem dX1_addCable_118 : decode cX1_addCable 118 = .ok (.iaload, 1) := by decide +kernel
theorem dX1_addCable_119 : decode cX1_addCable 119 = .ok (.invokevirtual 164, 3) := by decide +kernel
theorem dX1_addCable_122 : decode cX1_addCable 122 = .ok (.aload_n 0, 1) := by decide +kernel
theorem dX1_addCable_123 : decode cX1_addCable 123 = .ok (.getfield 41, 3) := by decide +kernel
theorem dX1_addCable_126 : decode cX1_addCable 126 = .ok (.iconst 0, 1) := by decide +kernel
theorem dX1_addCable_127 : decode cX1_addCable 127 = .ok (.aaload, 1) := by decide +kernel
theorem dX1_addCable_128 : decode cX1_addCable 128 = .ok (.iload_n 3, 1) := by decide +kernel
theorem dX1_addCable_129 : decode cX1_addCable 129 = .ok (.iload_n 1, 1) := by decide +kernel
theorem dX1_addCable_130 : decode cX1_addCable 130 = .ok (.iload_n 2, 1) := by decide +kernel
theorem dX1_addCable_131 : decode cX1_addCable 131 = .ok (.aload_n 0, 1) := by decide +kernel
theorem dX1_addCable_132 : decode cX1_addCable 132 = .ok (.getfield 38, 3) := by decide +kernel
theorem dX1_addCable_135 : decode cX1_addCable 135 = .ok (.invokevirtual 168, 3) := by decide +kernel
theorem dX1_addCable_138 : decode cX1_addCable 138 = .ok (.aload_n 0, 1) := by decide +kernel
theorem dX1_addCable_139 : decode cX1_addCable 139 = .ok (.iload_n 3, 1) := by decide +kernel
theorem dX1_addCable_140 : decode cX1_addCable 140 = .ok (.iconst 0, 1) := by decide +kernel
theorem dX1_addCable_141 : decode cX1_addCable 141 = .ok (.iconst 0, 1) := by decide +kernel
theorem dX1_addCable_142 : decode cX1_addCable 142 = .ok (.invokevirtual 116, 3) := by decide +kernel
theorem dX1_addCable_145 : decode cX1_addCable 145 = .ok (.iload_n 3, 1) := by decide +kernel
theorem dX1_addCable_146 : decode cX1_addCable 146 = .ok (.ireturn, 1) := by decide +kernel
theorem dX1_setCost_0 : decode cX1_setCost 0 = .ok (.aload_n 0, 1) := by decide +kernel
theorem dX1_setCost_1 : decode cX1_setCost 1 = .ok (.getfield 18, 3) := by decide +kernel
theorem dX1_setCost_4 : decode cX1_setCost 4 = .ok (.iload_n 1, 1) := by decide +kernel
theorem dX1_setCost_5 : decode cX1_setCost 5 = .ok (.iaload, 1) := by decide +kernel
theorem dX1_setCost_6 : decode cX1_setCost 6 = .ok (.istore_n 3, 1) := by decide +kernel
theorem dX1_setCost_7 : decode cX1_setCost 7 = .ok (.aload_n 0, 1) := by decide +kernel
theorem dX1_setCost_8 : decode cX1_setCost 8 = .ok (.getfield 18, 3) := by decide +kernel
theorem dX1_setCost_11 : decode cX1_setCost 11 = .ok (.iload_n 1, 1) := by decide +kernel
theorem dX1_setCost_12 : decode cX1_setCost 12 = .ok (.iload_n 2, 1) := by decide +kernel
theorem dX1_setCost_13 : decode cX1_setCost 13 = .ok (.iastore, 1) := by decide +kernel
theorem dX1_setCost_14 : decode cX1_setCost 14 = .ok (.iload_n 3, 1) := by decide +kernel
theorem dX1_setCost_15 : decode cX1_setCost 15 = .ok (.ireturn, 1) := by decide +kernel
theorem dX1_canExchange_0 : decode cX1_canExchange 0 = .ok (.aload_n 0, 1) := by decide +kernel
theorem dX1_canExchange_1 : decode cX1_canExchange 1 = .ok (.iload_n 1, 1) := by decide +kernel
theorem dX1_canExchange_2 : decode cX1_canExchange 2 = .ok (.invokevirtual 85, 3) := by decide +kernel
theorem dX1_canExchange_5 : decode cX1_canExchange 5 = .ok (.ifCond .eq 30, 3) := by decide +kernel
theorem dX1_canExchange_8 : decode cX1_canExchange 8 = .ok (.aload_n 0, 1) := by decide +kernel
theorem dX1_canExchange_9 : decode cX1_canExchange 9 = .ok (.iload_n 2, 1) := by decide +kernel
theorem dX1_canExchange_10 : decode cX1_canExchange 10 = .ok (.invokevirtual 85, 3) := by decide +kernel
theorem dX1_canExchange_13 : decode cX1_canExchange 13 = .ok (.ifCond .eq 22, 3) := by decide +kernel
theorem dX1_canExchange_16 : decode cX1_canExchange 16 = .ok (.aload_n 0, 1) := by decide +kernel
theorem dX1_canExchange_17 : decode cX1_canExchange 17 = .ok (.getfield 24, 3) := by decide +kernel
theorem dX1_canExchange_20 : decode cX1_canExchange 20 = .ok (.iload_n 1, 1) := by decide +kernel
theorem dX1_canExchange_21 : decode cX1_canExchange 21 = .ok (.iaload, 1) := by decide +kernel
theorem dX1_canExchange_22 : decode cX1_canExchange 22 = .ok (.ifCond .ne 13, 3) := by decide +kernel
theorem dX1_canExchange_25 : decode cX1_canExchange 25 = .ok (.aload_n 0, 1) := by decide +kernel
theorem dX1_canExchange_26 : decode cX1_canExchange 26 = .ok (.getfield 24, 3) := by decide +kernel
theorem dX1_canExchange_29 : decode cX1_canExchange 29 = .ok (.iload_n 2, 1) := by decide +kernel
theorem dX1_canExchange_30 : decode cX1_canExchange 30 = .ok (.iaload, 1) := by decide +kernel
theorem dX1_canExchange_31 : decode cX1_canExchange 31 = .ok (.iconst 1, 1) := by decide +kernel
theorem dX1_canExchange_32 : decode cX1_canExchange 32 = .ok (.if_icmp .eq 5, 3) := by decide +kernel
theorem dX1_canExchange_35 : decode cX1_canExchange 35 = .ok (.iconst 0, 1) := by decide +kernel
theorem dX1_canExchange_36 : decode cX1_canExchange 36 = .ok (.ireturn, 1) := by decide +kernel
theorem dX1_canExchange_37 : decode cX1_canExchange 37 = .ok (.aload_n 0, 1) := by decide +kernel
theorem dX1_canExchange_38 : decode cX1_canExchange 38 = .ok (.getfield 21, 3) := by decide +kernel
theorem dX1_canExchange_41 : decode cX1_canExchange 41 = .ok (.iload_n 1, 1) := by decide +kernel
theorem dX1_canExchange_42 : decode cX1_canExchange 42 = .ok (.iaload, 1) := by decide +kernel
theorem dX1_canExchange_43 : decode cX1_canExchange 43 = .ok (.ifCond .ne 12, 3) := by decide +kernel
theorem dX1_canExchange_46 : decode cX1_canExchange 46 = .ok (.aload_n 0, 1) := by decide +kernel
theorem dX1_canExchange_47 : decode cX1_canExchange 47 = .ok (.getfield 21, 3) := by decide +kernel
theorem dX1_canExchange_50 : decode cX1_canExchange 50 = .ok (.iload_n 2, 1) := by decide +kernel
theorem dX1_canExchange_51 : decode cX1_canExchange 51 = .ok (.iaload, 1) := by decide +kernel
theorem dX1_canExchange_52 : decode cX1_canExchange 52 = .ok (.ifCond .eq 5, 3) := by decide +kernel
theorem dX1_canExchange_55 : decode cX1_canExchange 55 = .ok (.iconst 0, 1) := by decide +kernel
theorem dX1_canExchange_56 : decode cX1_canExchange 56 = .ok (.ireturn, 1) := by decide +kernel
theorem dX1_canExchange_57 : decode cX1_canExchange 57 = .ok (.aload_n 0, 1) := by decide +kernel
theorem dX1_canExchange_58 : decode cX1_canExchange 58 = .ok (.getfield 41, 3) := by decide +kernel
theorem dX1_canExchange_61 : decode cX1_canExchange 61 = .ok (.iconst 0, 1) := by decide +kernel
theorem dX1_canExchange_62 : decode cX1_canExchange 62 = .ok (.aaload, 1) := by decide +kernel
theorem dX1_canExchange_63 : decode cX1_canExchange 63 = .ok (.iload_n 1, 1) := by decide +kernel
theorem dX1_canExchange_64 : decode cX1_canExchange 64 = .ok (.invokevirtual 137, 3) := by decide +kernel
theorem dX1_canExchange_67 : decode cX1_canExchange 67 = .ok (.istore_n 3, 1) := by decide +kernel
theorem dX1_canExchange_68 : decode cX1_canExchange 68 = .ok (.iload_n 3, 1) := by decide +kernel
theorem dX1_canExchange_69 : decode cX1_canExchange 69 = .ok (.aload_n 0, 1) := by decide +kernel
theorem dX1_canExchange_70 : decode cX1_canExchange 70 = .ok (.getfield 9, 3) := by decide +kernel
theorem dX1_canExchange_73 : decode cX1_canExchange 73 = .ok (.iload_n 2, 1) := by decide +kernel
theorem dX1_canExchange_74 : decode cX1_canExchange 74 = .ok (.iaload, 1) := by decide +kernel
theorem dX1_canExchange_75 : decode cX1_canExchange 75 = .ok (.invokestatic 140, 3) := by decide +kernel
theorem dX1_canExchange_78 : decode cX1_canExchange 78 = .ok (.iload_n 3, 1) := by decide +kernel
theorem dX1_canExchange_79 : decode cX1_canExchange 79 = .ok (.aload_n 0, 1) := by decide +kernel
theorem dX1_canExchange_80 : decode cX1_canExchange 80 = .ok (.getfield 15, 3) := by decide +kernel
theorem dX1_canExchange_83 : decode cX1_canExchange 83 = .ok (.iload_n 2, 1) := by decide +kernel
theorem dX1_canExchange_84 : decode cX1_canExchange 84 = .ok (.iaload, 1) := by decide +kernel
theorem dX1_canExchange_85 : decode cX1_canExchange 85 = .ok (.invokestatic 140, 3) := by decide +kernel
theorem dX1_canExchange_88 : decode cX1_canExchange 88 = .ok (.if_icmp .eq 7, 3) := by decide +kernel
theorem dX1_canExchange_91 : decode cX1_canExchange 91 = .ok (.iconst 1, 1) := by decide +kernel
theorem dX1_canExchange_92 : decode cX1_canExchange 92 = .ok (.goto 4, 3) := by decide +kernel
theorem dX1_canExchange_95 : decode cX1_canExchange 95 = .ok (.iconst 0, 1) := by decide +kernel
theorem dX1_canExchange_96 : decode cX1_canExchange 96 = .ok (.ireturn, 1) := by decide +kernel
theorem dX1_exchange_0 : decode cX1_exchange 0 = .ok (.aload_n 0, 1) := by decide +kernel
theorem dX1_exchange_1 : decode cX1_exchange 1 = .ok (.getfield 41, 3) := by decide +kernel
theorem dX1_exchange_4 : decode cX1_exchange 4 = .ok (.iconst 0, 1) := by decide +kernel
theorem dX1_exchange_5 : decode cX1_exchange 5 = .ok (.aaload, 1) := by decide +kernel
theorem dX1_exchange_6 : decode cX1_exchange 6 = .ok (.iload_n 1, 1) := by decide +kernel
theorem dX1_exchange_7 : decode cX1_exchange 7 = .ok (.aload_n 0, 1) := by decide +kernel
theorem dX1_exchange_8 : decode cX1_exchange 8 = .ok (.getfield 38, 3) := by decide +kernel
theorem dX1_exchange_11 : decode cX1_exchange 11 = .ok (.invokevirtual 120, 3) := by decide +kernel
theorem dX1_exchange_14 : decode cX1_exchange 14 = .ok (.aload_n 0, 1) := by decide +kernel
theorem dX1_exchange_15 : decode cX1_exchange 15 = .ok (.getfield 41, 3) := by decide +kernel
theorem dX1_exchange_18 : decode cX1_exchange 18 = .ok (.iconst 0, 1) := by decide +kernel
theorem dX1_exchange_19 : decode cX1_exchange 19 = .ok (.aaload, 1) := by decide +kernel
theorem dX1_exchange_20 : decode cX1_exchange 20 = .ok (.iload_n 2, 1) := by decide +kernel
theorem dX1_exchange_21 : decode cX1_exchange 21 = .ok (.aload_n 0, 1) := by decide +kernel
theorem dX1_exchange_22 : decode cX1_exchange 22 = .ok (.getfield 9, 3) := by decide +kernel
theorem dX1_exchange_25 : decode cX1_exchange 25 = .ok (.iload_n 2, 1) := by decide +kernel
theorem dX1_exchange_26 : decode cX1_exchange 26 = .ok (.iaload, 1) := by decide +kernel
theorem dX1_exchange_27 : decode cX1_exchange 27 = .ok (.aload_n 0, 1) := by decide +kernel
theorem dX1_exchange_28 : decode cX1_exchange 28 = .ok (.getfield 15, 3) := by decide +kernel
theorem dX1_exchange_31 : decode cX1_exchange 31 = .ok (.iload_n 2, 1) := by decide +kernel
theorem dX1_exchange_32 : decode cX1_exchange 32 = .ok (.iaload, 1) := by decide +kernel
theorem dX1_exchange_33 : decode cX1_exchange 33 = .ok (.aload_n 0, 1) := by decide +kernel
theorem dX1_exchange_34 : decode cX1_exchange 34 = .ok (.getfield 38, 3) := by decide +kernel
theorem dX1_exchange_37 : decode cX1_exchange 37 = .ok (.invokevirtual 168, 3) := by decide +kernel
theorem dX1_exchange_40 : decode cX1_exchange 40 = .ok (.aload_n 0, 1) := by decide +kernel
theorem dX1_exchange_41 : decode cX1_exchange 41 = .ok (.getfield 24, 3) := by decide +kernel
theorem dX1_exchange_44 : decode cX1_exchange 44 = .ok (.iload_n 1, 1) := by decide +kernel
theorem dX1_exchange_45 : decode cX1_exchange 45 = .ok (.iconst 1, 1) := by decide +kernel
theorem dX1_exchange_46 : decode cX1_exchange 46 = .ok (.iastore, 1) := by decide +kernel
theorem dX1_exchange_47 : decode cX1_exchange 47 = .ok (.aload_n 0, 1) := by decide +kernel
theorem dX1_exchange_48 : decode cX1_exchange 48 = .ok (.getfield 24, 3) := by decide +kernel
theorem dX1_exchange_51 : decode cX1_exchange 51 = .ok (.iload_n 2, 1) := by decide +kernel
theorem dX1_exchange_52 : decode cX1_exchange 52 = .ok (.iconst 0, 1) := by decide +kernel
theorem dX1_exchange_53 : decode cX1_exchange 53 = .ok (.iastore, 1) := by decide +kernel
theorem dX1_exchange_54 : decode cX1_exchange 54 = .ok (.aload_n 0, 1) := by decide +kernel
theorem dX1_exchange_55 : decode cX1_exchange 55 = .ok (.iconst 0, 1) := by decide +kernel
theorem dX1_exchange_56 : decode cX1_exchange 56 = .ok (.invokevirtual 172, 3) := by decide +kernel
theorem dX1_exchange_59 : decode cX1_exchange 59 = .ok (.ireturn, 1) := by decide +kernel
theorem dX1_failNode_0 : decode cX1_failNode 0 = .ok (.iconst 0, 1) := by decide +kernel
theorem dX1_failNode_1 : decode cX1_failNode 1 = .ok (.istore_n 2, 1) := by decide +kernel
theorem dX1_failNode_2 : decode cX1_failNode 2 = .ok (.iconst 0, 1) := by decide +kernel
theorem dX1_failNode_3 : decode cX1_failNode 3 = .ok (.istore_n 3, 1) := by decide +kernel
theorem dX1_failNode_4 : decode cX1_failNode 4 = .ok (.iload_n 3, 1) := by decide +kernel
theorem dX1_failNode_5 : decode cX1_failNode 5 = .ok (.aload_n 0, 1) := by decide +kernel
theorem dX1_failNode_6 : decode cX1_failNode 6 = .ok (.getfield 52, 3) := by decide +kernel
theorem dX1_failNode_9 : decode cX1_failNode 9 = .ok (.if_icmp .ge 37, 3) := by decide +kernel
theorem dX1_failNode_12 : decode cX1_failNode 12 = .ok (.aload_n 0, 1) := by decide +kernel
theorem dX1_failNode_13 : decode cX1_failNode 13 = .ok (.getfield 24, 3) := by decide +kernel
theorem dX1_failNode_16 : decode cX1_failNode 16 = .ok (.iload_n 3, 1) := by decide +kernel
theorem dX1_failNode_17 : decode cX1_failNode 17 = .ok (.iaload, 1) := by decide +kernel
theorem dX1_failNode_18 : decode cX1_failNode 18 = .ok (.iconst 2, 1) := by decide +kernel
theorem dX1_failNode_19 : decode cX1_failNode 19 = .ok (.if_icmp .eq 21, 3) := by decide +kernel
theorem dX1_failNode_22 : decode cX1_failNode 22 = .ok (.aload_n 0, 1) := by decide +kernel
theorem dX1_failNode_23 : decode cX1_failNode 23 = .ok (.iload_n 3, 1) := by decide +kernel
theorem dX1_failNode_24 : decode cX1_failNode 24 = .ok (.iload_n 1, 1) := by decide +kernel
theorem dX1_failNode_25 : decode cX1_failNode 25 = .ok (.invokevirtual 149, 3) := by decide +kernel
theorem dX1_failNode_28 : decode cX1_failNode 28 = .ok (.ifCond .eq 12, 3) := by decide +kernel
theorem dX1_failNode_31 : decode cX1_failNode 31 = .ok (.aload_n 0, 1) := by decide +kernel
theorem dX1_failNode_32 : decode cX1_failNode 32 = .ok (.iload_n 3, 1) := by decide +kernel
theorem dX1_failNode_33 : decode cX1_failNode 33 = .ok (.invokevirtual 100, 3) := by decide +kernel
theorem dX1_failNode_36 : decode cX1_failNode 36 = .ok (.pop, 1) := by decide +kernel
theorem dX1_failNode_37 : decode cX1_failNode 37 = .ok (.iinc 2 1, 3) := by decide +kernel
theorem dX1_failNode_40 : decode cX1_failNode 40 = .ok (.iinc 3 1, 3) := by decide +kernel
theorem dX1_failNode_43 : decode cX1_failNode 43 = .ok (.goto (-39), 3) := by decide +kernel
theorem dX1_failNode_46 : decode cX1_failNode 46 = .ok (.iload_n 2, 1) := by decide +kernel
theorem dX1_failNode_47 : decode cX1_failNode 47 = .ok (.ireturn, 1) := by decide +kernel
theorem dX1_layAnew_0 : decode cX1_layAnew 0 = .ok (.aload_n 0, 1) := by decide +kernel
theorem dX1_layAnew_1 : decode cX1_layAnew 1 = .ok (.invokevirtual 78, 3) := by decide +kernel
theorem dX1_layAnew_4 : decode cX1_layAnew 4 = .ok (.iconst 0, 1) := by decide +kernel
theorem dX1_layAnew_5 : decode cX1_layAnew 5 = .ok (.istore_n 1, 1) := by decide +kernel
theorem dX1_layAnew_6 : decode cX1_layAnew 6 = .ok (.iconst 0, 1) := by decide +kernel
theorem dX1_layAnew_7 : decode cX1_layAnew 7 = .ok (.istore_n 2, 1) := by decide +kernel
theorem dX1_layAnew_8 : decode cX1_layAnew 8 = .ok (.iload_n 2, 1) := by decide +kernel
theorem dX1_layAnew_9 : decode cX1_layAnew 9 = .ok (.aload_n 0, 1) := by decide +kernel
theorem dX1_layAnew_10 : decode cX1_layAnew 10 = .ok (.getfield 52, 3) := by decide +kernel
theorem dX1_layAnew_13 : decode cX1_layAnew 13 = .ok (.if_icmp .ge 121, 3) := by decide +kernel
theorem dX1_layAnew_16 : decode cX1_layAnew 16 = .ok (.aload_n 0, 1) := by decide +kernel
theorem dX1_layAnew_17 : decode cX1_layAnew 17 = .ok (.getfield 24, 3) := by decide +kernel
theorem dX1_layAnew_20 : decode cX1_layAnew 20 = .ok (.iload_n 2, 1) := by decide +kernel
theorem dX1_layAnew_21 : decode cX1_layAnew 21 = .ok (.iaload, 1) := by decide +kernel
theorem dX1_layAnew_22 : decode cX1_layAnew 22 = .ok (.iconst 2, 1) := by decide +kernel
theorem dX1_layAnew_23 : decode cX1_layAnew 23 = .ok (.if_icmp .ne 6, 3) := by decide +kernel
theorem dX1_layAnew_26 : decode cX1_layAnew 26 = .ok (.goto 102, 3) := by decide +kernel
theorem dX1_layAnew_29 : decode cX1_layAnew 29 = .ok (.aload_n 0, 1) := by decide +kernel
theorem dX1_layAnew_30 : decode cX1_layAnew 30 = .ok (.getfield 41, 3) := by decide +kernel
theorem dX1_layAnew_33 : decode cX1_layAnew 33 = .ok (.iconst 0, 1) := by decide +kernel
theorem dX1_layAnew_34 : decode cX1_layAnew 34 = .ok (.aaload, 1) := by decide +kernel
theorem dX1_layAnew_35 : decode cX1_layAnew 35 = .ok (.aload_n 0, 1) := by decide +kernel
theorem dX1_layAnew_36 : decode cX1_layAnew 36 = .ok (.getfield 9, 3) := by decide +kernel
theorem dX1_layAnew_39 : decode cX1_layAnew 39 = .ok (.iload_n 2, 1) := by decide +kernel
theorem dX1_layAnew_40 : decode cX1_layAnew 40 = .ok (.iaload, 1) := by decide +kernel
theorem dX1_layAnew_41 : decode cX1_layAnew 41 = .ok (.invokevirtual 161, 3) := by decide +kernel
theorem dX1_layAnew_44 : decode cX1_layAnew 44 = .ok (.aload_n 0, 1) := by decide +kernel
theorem dX1_layAnew_45 : decode cX1_layAnew 45 = .ok (.getfield 15, 3) := by decide +kernel
theorem dX1_layAnew_48 : decode cX1_layAnew 48 = .ok (.iload_n 2, 1) := by decide +kernel
theorem dX1_layAnew_49 : decode cX1_layAnew 49 = .ok (.iaload, 1) := by decide +kernel
theorem dX1_layAnew_50 : decode cX1_layAnew 50 = .ok (.invokestatic 140, 3) := by decide +kernel
theorem dX1_layAnew_53 : decode cX1_layAnew 53 = .ok (.ifCond .eq 7, 3) := by decide +kernel
theorem dX1_layAnew_56 : decode cX1_layAnew 56 = .ok (.iconst 1, 1) := by decide +kernel
theorem dX1_layAnew_57 : decode cX1_layAnew 57 = .ok (.goto 4, 3) := by decide +kernel
theorem dX1_layAnew_60 : decode cX1_layAnew 60 = .ok (.iconst 0, 1) := by decide +kernel
theorem dX1_layAnew_61 : decode cX1_layAnew 61 = .ok (.istore_n 3, 1) := by decide +kernel
theorem dX1_layAnew_62 : decode cX1_layAnew 62 = .ok (.iload_n 3, 1) := by decide +kernel
theorem dX1_layAnew_63 : decode cX1_layAnew 63 = .ok (.ifCond .ne 29, 3) := by decide +kernel
theorem dX1_layAnew_66 : decode cX1_layAnew 66 = .ok (.aload_n 0, 1) := by decide +kernel
theorem dX1_layAnew_67 : decode cX1_layAnew 67 = .ok (.getfield 41, 3) := by decide +kernel
theorem dX1_layAnew_70 : decode cX1_layAnew 70 = .ok (.iconst 0, 1) := by decide +kernel
theorem dX1_layAnew_71 : decode cX1_layAnew 71 = .ok (.aaload, 1) := by decide +kernel
theorem dX1_layAnew_72 : decode cX1_layAnew 72 = .ok (.iload_n 2, 1) := by decide +kernel
theorem dX1_layAnew_73 : decode cX1_layAnew 73 = .ok (.aload_n 0, 1) := by decide +kernel
theorem dX1_layAnew_74 : decode cX1_layAnew 74 = .ok (.getfield 9, 3) := by decide +kernel
theorem dX1_layAnew_77 : decode cX1_layAnew 77 = .ok (.iload_n 2, 1) := by decide +kernel
theorem dX1_layAnew_78 : decode cX1_layAnew 78 = .ok (.iaload, 1) := by decide +kernel
theorem dX1_layAnew_79 : decode cX1_layAnew 79 = .ok (.aload_n 0, 1) := by decide +kernel
theorem dX1_layAnew_80 : decode cX1_layAnew 80 = .ok (.getfield 15, 3) := by decide +kernel
theorem dX1_layAnew_83 : decode cX1_layAnew 83 = .ok (.iload_n 2, 1) := by decide +kernel
theorem dX1_layAnew_84 : decode cX1_layAnew 84 = .ok (.iaload, 1) := by decide +kernel
theorem dX1_layAnew_85 : decode cX1_layAnew 85 = .ok (.aload_n 0, 1) := by decide +kernel
theorem dX1_layAnew_86 : decode cX1_layAnew 86 = .ok (.getfield 38, 3) := by decide +kernel
theorem dX1_layAnew_89 : decode cX1_layAnew 89 = .ok (.invokevirtual 168, 3) := by decide +kernel
theorem dX1_layAnew_92 : decode cX1_layAnew 92 = .ok (.aload_n 0, 1) := by decide +kernel
theorem dX1_layAnew_93 : decode cX1_layAnew 93 = .ok (.getfield 21, 3) := by decide +kernel
theorem dX1_layAnew_96 : decode cX1_layAnew 96 = .ok (.iload_n 2, 1) := by decide +kernel
theorem dX1_layAnew_97 : decode cX1_layAnew 97 = .ok (.iaload, 1) := by decide +kernel
theorem dX1_layAnew_98 : decode cX1_layAnew 98 = .ok (.ifCond .ne 13, 3) := by decide +kernel
theorem dX1_layAnew_101 : decode cX1_layAnew 101 = .ok (.aload_n 0, 1) := by decide +kernel
theorem dX1_layAnew_102 : decode cX1_layAnew 102 = .ok (.getfield 24, 3) := by decide +kernel
theorem dX1_layAnew_105 : decode cX1_layAnew 105 = .ok (.iload_n 2, 1) := by decide +kernel
theorem dX1_layAnew_106 : decode cX1_layAnew 106 = .ok (.iaload, 1) := by decide +kernel
theorem dX1_layAnew_107 : decode cX1_layAnew 107 = .ok (.iload_n 3, 1) := by decide +kernel
theorem dX1_layAnew_108 : decode cX1_layAnew 108 = .ok (.if_icmp .eq 6, 3) := by decide +kernel
theorem dX1_layAnew_111 : decode cX1_layAnew 111 = .ok (.iinc 1 1, 3) := by decide +kernel
theorem dX1_layAnew_114 : decode cX1_layAnew 114 = .ok (.aload_n 0, 1) := by decide +kernel
theorem dX1_layAnew_115 : decode cX1_layAnew 115 = .ok (.getfield 21, 3) := by decide +kernel
theorem dX1_layAnew_118 : decode cX1_layAnew 118 = .ok (.iload_n 2, 1) := by decide +kernel
theorem dX1_layAnew_119 : decode cX1_layAnew 119 = .ok (.iconst 0, 1) := by decide +kernel
theorem dX1_layAnew_120 : decode cX1_layAnew 120 = .ok (.iastore, 1) := by decide +kernel
theorem dX1_layAnew_121 : decode cX1_layAnew 121 = .ok (.aload_n 0, 1) := by decide +kernel
theorem dX1_layAnew_122 : decode cX1_layAnew 122 = .ok (.getfield 24, 3) := by decide +kernel
theorem dX1_layAnew_125 : decode cX1_layAnew 125 = .ok (.iload_n 2, 1) := by decide +kernel
theorem dX1_layAnew_126 : decode cX1_layAnew 126 = .ok (.iload_n 3, 1) := by decide +kernel
theorem dX1_layAnew_127 : decode cX1_layAnew 127 = .ok (.iastore, 1) := by decide +kernel
theorem dX1_layAnew_128 : decode cX1_layAnew 128 = .ok (.iinc 2 1, 3) := by decide +kernel
theorem dX1_layAnew_131 : decode cX1_layAnew 131 = .ok (.goto (-123), 3) := by decide +kernel
theorem dX1_layAnew_134 : decode cX1_layAnew 134 = .ok (.iload_n 1, 1) := by decide +kernel
theorem dX1_layAnew_135 : decode cX1_layAnew 135 = .ok (.ireturn, 1) := by decide +kernel
theorem dX1_searchOn_0 : decode cX1_searchOn 0 = .ok (.aload_n 0, 1) := by decide +kernel
theorem dX1_searchOn_1 : decode cX1_searchOn 1 = .ok (.getfield 41, 3) := by decide +kernel
theorem dX1_searchOn_4 : decode cX1_searchOn 4 = .ok (.iload_n 1, 1) := by decide +kernel
theorem dX1_searchOn_5 : decode cX1_searchOn 5 = .ok (.aaload, 1) := by decide +kernel
theorem dX1_searchOn_6 : decode cX1_searchOn 6 = .ok (.aload_n 0, 1) := by decide +kernel
theorem dX1_searchOn_7 : decode cX1_searchOn 7 = .ok (.getfield 9, 3) := by decide +kernel
theorem dX1_searchOn_10 : decode cX1_searchOn 10 = .ok (.iload_n 2, 1) := by decide +kernel
theorem dX1_searchOn_11 : decode cX1_searchOn 11 = .ok (.iaload, 1) := by decide +kernel
theorem dX1_searchOn_12 : decode cX1_searchOn 12 = .ok (.invokevirtual 161, 3) := by decide +kernel
theorem dX1_searchOn_15 : decode cX1_searchOn 15 = .ok (.istore_n 3, 1) := by decide +kernel
theorem dX1_searchOn_16 : decode cX1_searchOn 16 = .ok (.aload_n 0, 1) := by decide +kernel
theorem dX1_searchOn_17 : decode cX1_searchOn 17 = .ok (.getfield 41, 3) := by decide +kernel
theorem dX1_searchOn_20 : decode cX1_searchOn 20 = .ok (.iload_n 1, 1) := by decide +kernel
theorem dX1_searchOn_21 : decode cX1_searchOn 21 = .ok (.aaload, 1) := by decide +kernel
theorem dX1_searchOn_22 : decode cX1_searchOn 22 = .ok (.aload_n 0, 1) := by decide +kernel
theorem dX1_searchOn_23 : decode cX1_searchOn 23 = .ok (.getfield 15, 3) := by decide +kernel
theorem dX1_searchOn_26 : decode cX1_searchOn 26 = .ok (.iload_n 2, 1) := by decide +kernel
theorem dX1_searchOn_27 : decode cX1_searchOn 27 = .ok (.iaload, 1) := by decide +kernel
theorem dX1_searchOn_28 : decode cX1_searchOn 28 = .ok (.invokevirtual 161, 3) := by decide +kernel
theorem dX1_searchOn_31 : decode cX1_searchOn 31 = .ok (.istore 4, 2) := by decide +kernel
theorem dX1_searchOn_33 : decode cX1_searchOn 33 = .ok (.iload 4, 2) := by decide +kernel
theorem dX1_searchOn_35 : decode cX1_searchOn 35 = .ok (.invokestatic 175, 3) := by decide +kernel
theorem dX1_searchOn_38 : decode cX1_searchOn 38 = .ok (.iload_n 3, 1) := by decide +kernel
theorem dX1_searchOn_39 : decode cX1_searchOn 39 = .ok (.invokestatic 175, 3) := by decide +kernel
theorem dX1_searchOn_42 : decode cX1_searchOn 42 = .ok (.if_icmp .ge 8, 3) := by decide +kernel
theorem dX1_searchOn_45 : decode cX1_searchOn 45 = .ok (.iload 4, 2) := by decide +kernel
theorem dX1_searchOn_47 : decode cX1_searchOn 47 = .ok (.goto 4, 3) := by decide +kernel
theorem dX1_searchOn_50 : decode cX1_searchOn 50 = .ok (.iload_n 3, 1) := by decide +kernel
theorem dX1_searchOn_51 : decode cX1_searchOn 51 = .ok (.istore 5, 2) := by decide +kernel
theorem dX1_searchOn_53 : decode cX1_searchOn 53 = .ok (.iload_n 1, 1) := by decide +kernel
theorem dX1_searchOn_54 : decode cX1_searchOn 54 = .ok (.aload_n 0, 1) := by decide +kernel
theorem dX1_searchOn_55 : decode cX1_searchOn 55 = .ok (.getfield 49, 3) := by decide +kernel
theorem dX1_searchOn_58 : decode cX1_searchOn 58 = .ok (.if_icmp .ge 7, 3) := by decide +kernel
theorem dX1_searchOn_61 : decode cX1_searchOn 61 = .ok (.iconst 1, 1) := by decide +kernel
theorem dX1_searchOn_62 : decode cX1_searchOn 62 = .ok (.goto 4, 3) := by decide +kernel
theorem dX1_searchOn_65 : decode cX1_searchOn 65 = .ok (.iconst 0, 1) := by decide +kernel
theorem dX1_searchOn_66 : decode cX1_searchOn 66 = .ok (.istore 6, 2) := by decide +kernel
theorem dX1_searchOn_68 : decode cX1_searchOn 68 = .ok (.iconst 0, 1) := by decide +kernel
theorem dX1_searchOn_69 : decode cX1_searchOn 69 = .ok (.istore 7, 2) := by decide +kernel
theorem dX1_searchOn_71 : decode cX1_searchOn 71 = .ok (.iload 7, 2) := by decide +kernel
theorem dX1_searchOn_73 : decode cX1_searchOn 73 = .ok (.aload_n 0, 1) := by decide +kernel
theorem dX1_searchOn_74 : decode cX1_searchOn 74 = .ok (.getfield 52, 3) := by decide +kernel
theorem dX1_searchOn_77 : decode cX1_searchOn 77 = .ok (.if_icmp .ge 87, 3) := by decide +kernel
theorem dX1_searchOn_80 : decode cX1_searchOn 80 = .ok (.iload 6, 2) := by decide +kernel
theorem dX1_searchOn_82 : decode cX1_searchOn 82 = .ok (.ifCond .eq 82, 3) := by decide +kernel
theorem dX1_searchOn_85 : decode cX1_searchOn 85 = .ok (.aload_n 0, 1) := by decide +kernel
theorem dX1_searchOn_86 : decode cX1_searchOn 86 = .ok (.getfield 24, 3) := by decide +kernel
theorem dX1_searchOn_89 : decode cX1_searchOn 89 = .ok (.iload 7, 2) := by decide +kernel
theorem dX1_searchOn_91 : decode cX1_searchOn 91 = .ok (.iaload, 1) := by decide +kernel
theorem dX1_searchOn_92 : decode cX1_searchOn 92 = .ok (.ifCond .ne 66, 3) := by decide +kernel
theorem dX1_searchOn_95 : decode cX1_searchOn 95 = .ok (.aload_n 0, 1) := by decide +kernel
theorem dX1_searchOn_96 : decode cX1_searchOn 96 = .ok (.getfield 21, 3) := by decide +kernel
theorem dX1_searchOn_99 : decode cX1_searchOn 99 = .ok (.iload 7, 2) := by decide +kernel
theorem dX1_searchOn_101 : decode cX1_searchOn 101 = .ok (.iaload, 1) := by decide +kernel
theorem dX1_searchOn_102 : decode cX1_searchOn 102 = .ok (.iload_n 1, 1) := by decide +kernel
theorem dX1_searchOn_103 : decode cX1_searchOn 103 = .ok (.if_icmp .ne 55, 3) := by decide +kernel
theorem dX1_searchOn_106 : decode cX1_searchOn 106 = .ok (.iload 5, 2) := by decide +kernel
theorem dX1_searchOn_108 : decode cX1_searchOn 108 = .ok (.aload_n 0, 1) := by decide +kernel
theorem dX1_searchOn_109 : decode cX1_searchOn 109 = .ok (.getfield 9, 3) := by decide +kernel
theorem dX1_searchOn_112 : decode cX1_searchOn 112 = .ok (.iload 7, 2) := by decide +kernel
theorem dX1_searchOn_114 : decode cX1_searchOn 114 = .ok (.iaload, 1) := by decide +kernel
theorem dX1_searchOn_115 : decode cX1_searchOn 115 = .ok (.invokestatic 140, 3) := by decide +kernel
theorem dX1_searchOn_118 : decode cX1_searchOn 118 = .ok (.ifCond .eq 40, 3) := by decide +kernel
theorem dX1_searchOn_121 : decode cX1_searchOn 121 = .ok (.aload_n 0, 1) := by decide +kernel
theorem dX1_searchOn_122 : decode cX1_searchOn 122 = .ok (.iload 7, 2) := by decide +kernel
theorem dX1_searchOn_124 : decode cX1_searchOn 124 = .ok (.invokevirtual 180, 3) := by decide +kernel
theorem dX1_searchOn_127 : decode cX1_searchOn 127 = .ok (.aload_n 0, 1) := by decide +kernel
theorem dX1_searchOn_128 : decode cX1_searchOn 128 = .ok (.getfield 41, 3) := by decide +kernel
theorem dX1_searchOn_131 : decode cX1_searchOn 131 = .ok (.iload_n 1, 1) := by decide +kernel
theorem dX1_searchOn_132 : decode cX1_searchOn 132 = .ok (.iconst 1, 1) := by decide +kernel
theorem dX1_searchOn_133 : decode cX1_searchOn 133 = .ok (.iadd, 1) := by decide +kernel
theorem dX1_searchOn_134 : decode cX1_searchOn 134 = .ok (.aaload, 1) := by decide +kernel
theorem dX1_searchOn_135 : decode cX1_searchOn 135 = .ok (.iload 7, 2) := by decide +kernel
theorem dX1_searchOn_137 : decode cX1_searchOn 137 = .ok (.aload_n 0, 1) := by decide +kernel
theorem dX1_searchOn_138 : decode cX1_searchOn 138 = .ok (.getfield 9, 3) := by decide +kernel
theorem dX1_searchOn_141 : decode cX1_searchOn 141 = .ok (.iload 7, 2) := by decide +kernel
theorem dX1_searchOn_143 : decode cX1_searchOn 143 = .ok (.iaload, 1) := by decide +kernel
theorem dX1_searchOn_144 : decode cX1_searchOn 144 = .ok (.aload_n 0, 1) := by decide +kernel
theorem dX1_searchOn_145 : decode cX1_searchOn 145 = .ok (.getfield 15, 3) := by decide +kernel
theorem dX1_searchOn_148 : decode cX1_searchOn 148 = .ok (.iload 7, 2) := by decide +kernel
theorem dX1_searchOn_150 : decode cX1_searchOn 150 = .ok (.iaload, 1) := by decide +kernel
theorem dX1_searchOn_151 : decode cX1_searchOn 151 = .ok (.aload_n 0, 1) := by decide +kernel
theorem dX1_searchOn_152 : decode cX1_searchOn 152 = .ok (.getfield 38, 3) := by decide +kernel
theorem dX1_searchOn_155 : decode cX1_searchOn 155 = .ok (.invokevirtual 168, 3) := by decide +kernel
theorem dX1_searchOn_158 : decode cX1_searchOn 158 = .ok (.iinc 7 1, 3) := by decide +kernel
theorem dX1_searchOn_161 : decode cX1_searchOn 161 = .ok (.goto (-90), 3) := by decide +kernel
theorem dX1_searchOn_164 : decode cX1_searchOn 164 = .ok (.iconst 0, 1) := by decide +kernel
theorem dX1_searchOn_165 : decode cX1_searchOn 165 = .ok (.istore 7, 2) := by decide +kernel
theorem dX1_searchOn_167 : decode cX1_searchOn 167 = .ok (.iload 7, 2) := by decide +kernel
theorem dX1_searchOn_169 : decode cX1_searchOn 169 = .ok (.aload_n 0, 1) := by decide +kernel
theorem dX1_searchOn_170 : decode cX1_searchOn 170 = .ok (.getfield 52, 3) := by decide +kernel
theorem dX1_searchOn_173 : decode cX1_searchOn 173 = .ok (.if_icmp .ge 106, 3) := by decide +kernel
theorem dX1_searchOn_176 : decode cX1_searchOn 176 = .ok (.aload_n 0, 1) := by decide +kernel
theorem dX1_searchOn_177 : decode cX1_searchOn 177 = .ok (.getfield 24, 3) := by decide +kernel
theorem dX1_searchOn_180 : decode cX1_searchOn 180 = .ok (.iload 7, 2) := by decide +kernel
theorem dX1_searchOn_182 : decode cX1_searchOn 182 = .ok (.iaload, 1) := by decide +kernel
theorem dX1_searchOn_183 : decode cX1_searchOn 183 = .ok (.iconst 1, 1) := by decide +kernel
theorem dX1_searchOn_184 : decode cX1_searchOn 184 = .ok (.if_icmp .ne 89, 3) := by decide +kernel
theorem dX1_searchOn_187 : decode cX1_searchOn 187 = .ok (.aload_n 0, 1) := by decide +kernel
theorem dX1_searchOn_188 : decode cX1_searchOn 188 = .ok (.getfield 21, 3) := by decide +kernel
theorem dX1_searchOn_191 : decode cX1_searchOn 191 = .ok (.iload 7, 2) := by decide +kernel
theorem dX1_searchOn_193 : decode cX1_searchOn 193 = .ok (.iaload, 1) := by decide +kernel
theorem dX1_searchOn_194 : decode cX1_searchOn 194 = .ok (.iload_n 1, 1) := by decide +kernel
theorem dX1_searchOn_195 : decode cX1_searchOn 195 = .ok (.if_icmp .eq 6, 3) := by decide +kernel
theorem dX1_searchOn_198 : decode cX1_searchOn 198 = .ok (.goto 75, 3) := by decide +kernel
theorem dX1_searchOn_201 : decode cX1_searchOn 201 = .ok (.iload 5, 2) := by decide +kernel
theorem dX1_searchOn_203 : decode cX1_searchOn 203 = .ok (.aload_n 0, 1) := by decide +kernel
theorem dX1_searchOn_204 : decode cX1_searchOn 204 = .ok (.getfield 9, 3) := by decide +kernel
theorem dX1_searchOn_207 : decode cX1_searchOn 207 = .ok (.iload 7, 2) := by decide +kernel
theorem dX1_searchOn_209 : decode cX1_searchOn 209 = .ok (.iaload, 1) := by decide +kernel
theorem dX1_searchOn_210 : decode cX1_searchOn 210 = .ok (.invokestatic 140, 3) := by decide +kernel
theorem dX1_searchOn_213 : decode cX1_searchOn 213 = .ok (.istore 8, 2) := by decide +kernel
theorem dX1_searchOn_215 : decode cX1_searchOn 215 = .ok (.iload 5, 2) := by decide +kernel
theorem dX1_searchOn_217 : decode cX1_searchOn 217 = .ok (.aload_n 0, 1) := by decide +kernel
theorem dX1_searchOn_218 : decode cX1_searchOn 218 = .ok (.getfield 15, 3) := by decide +kernel
theorem dX1_searchOn_221 : decode cX1_searchOn 221 = .ok (.iload 7, 2) := by decide +kernel
theorem dX1_searchOn_223 : decode cX1_searchOn 223 = .ok (.iaload, 1) := by decide +kernel
theorem dX1_searchOn_224 : decode cX1_searchOn 224 = .ok (.invokestatic 140, 3) := by decide +kernel
theorem dX1_searchOn_227 : decode cX1_searchOn 227 = .ok (.istore 9, 2) := by decide +kernel
theorem dX1_searchOn_229 : decode cX1_searchOn 229 = .ok (.iload 8, 2) := by decide +kernel
theorem dX1_searchOn_231 : decode cX1_searchOn 231 = .ok (.ifCond .ne 11, 3) := by decide +kernel
theorem dX1_searchOn_234 : decode cX1_searchOn 234 = .ok (.iload 9, 2) := by decide +kernel
theorem dX1_searchOn_236 : decode cX1_searchOn 236 = .ok (.ifCond .ne 6, 3) := by decide +kernel
theorem dX1_searchOn_239 : decode cX1_searchOn 239 = .ok (.goto 34, 3) := by decide +kernel
theorem dX1_searchOn_242 : decode cX1_searchOn 242 = .ok (.aload_n 0, 1) := by decide +kernel
theorem dX1_searchOn_243 : decode cX1_searchOn 243 = .ok (.dup, 1) := by decide +kernel
theorem dX1_searchOn_244 : decode cX1_searchOn 244 = .ok (.getfield 58, 3) := by decide +kernel
theorem dX1_searchOn_247 : decode cX1_searchOn 247 = .ok (.iconst 1, 1) := by decide +kernel
theorem dX1_searchOn_248 : decode cX1_searchOn 248 = .ok (.iadd, 1) := by decide +kernel
theorem dX1_searchOn_249 : decode cX1_searchOn 249 = .ok (.putfield 58, 3) := by decide +kernel
theorem dX1_searchOn_252 : decode cX1_searchOn 252 = .ok (.iload 8, 2) := by decide +kernel
theorem dX1_searchOn_254 : decode cX1_searchOn 254 = .ok (.iload 9, 2) := by decide +kernel
theorem dX1_searchOn_256 : decode cX1_searchOn 256 = .ok (.if_icmp .eq 6, 3) := by decide +kernel
theorem dX1_searchOn_259 : decode cX1_searchOn 259 = .ok (.iload 7, 2) := by decide +kernel
theorem dX1_searchOn_261 : decode cX1_searchOn 261 = .ok (.ireturn, 1) := by decide +kernel
theorem dX1_searchOn_262 : decode cX1_searchOn 262 = .ok (.iload 6, 2) := by decide +kernel
theorem dX1_searchOn_264 : decode cX1_searchOn 264 = .ok (.ifCond .eq 9, 3) := by decide +kernel
theorem dX1_searchOn_267 : decode cX1_searchOn 267 = .ok (.aload_n 0, 1) := by decide +kernel
theorem dX1_searchOn_268 : decode cX1_searchOn 268 = .ok (.iload 7, 2) := by decide +kernel
theorem dX1_searchOn_270 : decode cX1_searchOn 270 = .ok (.invokevirtual 180, 3) := by decide +kernel
theorem dX1_searchOn_273 : decode cX1_searchOn 273 = .ok (.iinc 7 1, 3) := by decide +kernel
theorem dX1_searchOn_276 : decode cX1_searchOn 276 = .ok (.goto (-109), 3) := by decide +kernel
theorem dX1_searchOn_279 : decode cX1_searchOn 279 = .ok (.iconst (-1), 1) := by decide +kernel
theorem dX1_searchOn_280 : decode cX1_searchOn 280 = .ok (.ireturn, 1) := by decide +kernel
theorem dX1_raise_0 : decode cX1_raise 0 = .ok (.aload_n 0, 1) := by decide +kernel
theorem dX1_raise_1 : decode cX1_raise 1 = .ok (.getfield 21, 3) := by decide +kernel
theorem dX1_raise_4 : decode cX1_raise 4 = .ok (.iload_n 1, 1) := by decide +kernel
theorem dX1_raise_5 : decode cX1_raise 5 = .ok (.dup2, 1) := by decide +kernel
theorem dX1_raise_6 : decode cX1_raise 6 = .ok (.iaload, 1) := by decide +kernel
theorem dX1_raise_7 : decode cX1_raise 7 = .ok (.iconst 1, 1) := by decide +kernel
theorem dX1_raise_8 : decode cX1_raise 8 = .ok (.iadd, 1) := by decide +kernel
theorem dX1_raise_9 : decode cX1_raise 9 = .ok (.iastore, 1) := by decide +kernel
theorem dX1_raise_10 : decode cX1_raise 10 = .ok (.aload_n 0, 1) := by decide +kernel
theorem dX1_raise_11 : decode cX1_raise 11 = .ok (.getfield 27, 3) := by decide +kernel
theorem dX1_raise_14 : decode cX1_raise 14 = .ok (.iload_n 1, 1) := by decide +kernel
theorem dX1_raise_15 : decode cX1_raise 15 = .ok (.dup2, 1) := by decide +kernel
theorem dX1_raise_16 : decode cX1_raise 16 = .ok (.iaload, 1) := by decide +kernel
theorem dX1_raise_17 : decode cX1_raise 17 = .ok (.iconst 1, 1) := by decide +kernel
theorem dX1_raise_18 : decode cX1_raise 18 = .ok (.iadd, 1) := by decide +kernel
theorem dX1_raise_19 : decode cX1_raise 19 = .ok (.iastore, 1) := by decide +kernel
theorem dX1_raise_20 : decode cX1_raise 20 = .ok (.aload_n 0, 1) := by decide +kernel
theorem dX1_raise_21 : decode cX1_raise 21 = .ok (.dup, 1) := by decide +kernel
theorem dX1_raise_22 : decode cX1_raise 22 = .ok (.getfield 55, 3) := by decide +kernel
theorem dX1_raise_25 : decode cX1_raise 25 = .ok (.iconst 1, 1) := by decide +kernel
theorem dX1_raise_26 : decode cX1_raise 26 = .ok (.iadd, 1) := by decide +kernel
theorem dX1_raise_27 : decode cX1_raise 27 = .ok (.putfield 55, 3) := by decide +kernel
theorem dX1_raise_30 : decode cX1_raise 30 = .ok (.aload_n 0, 1) := by decide +kernel
theorem dX1_raise_31 : decode cX1_raise 31 = .ok (.iload_n 1, 1) := by decide +kernel
theorem dX1_raise_32 : decode cX1_raise 32 = .ok (.iconst 4, 1) := by decide +kernel
theorem dX1_raise_33 : decode cX1_raise 33 = .ok (.aload_n 0, 1) := by decide +kernel
theorem dX1_raise_34 : decode cX1_raise 34 = .ok (.getfield 21, 3) := by decide +kernel
theorem dX1_raise_37 : decode cX1_raise 37 = .ok (.iload_n 1, 1) := by decide +kernel
theorem dX1_raise_38 : decode cX1_raise 38 = .ok (.iaload, 1) := by decide +kernel
theorem dX1_raise_39 : decode cX1_raise 39 = .ok (.invokevirtual 116, 3) := by decide +kernel
theorem dX1_raise_42 : decode cX1_raise 42 = .ok (.return_, 1) := by decide +kernel
theorem dX1_putInPlace_0 : decode cX1_putInPlace 0 = .ok (.aload_n 0, 1) := by decide +kernel
theorem dX1_putInPlace_1 : decode cX1_putInPlace 1 = .ok (.getfield 24, 3) := by decide +kernel
theorem dX1_putInPlace_4 : decode cX1_putInPlace 4 = .ok (.iload_n 1, 1) := by decide +kernel
theorem dX1_putInPlace_5 : decode cX1_putInPlace 5 = .ok (.iconst 0, 1) := by decide +kernel
theorem dX1_putInPlace_6 : decode cX1_putInPlace 6 = .ok (.iastore, 1) := by decide +kernel
theorem dX1_putInPlace_7 : decode cX1_putInPlace 7 = .ok (.iload_n 2, 1) := by decide +kernel
theorem dX1_putInPlace_8 : decode cX1_putInPlace 8 = .ok (.istore_n 3, 1) := by decide +kernel
theorem dX1_putInPlace_9 : decode cX1_putInPlace 9 = .ok (.iload_n 3, 1) := by decide +kernel
theorem dX1_putInPlace_10 : decode cX1_putInPlace 10 = .ok (.ifCond .lt 35, 3) := by decide +kernel
theorem dX1_putInPlace_13 : decode cX1_putInPlace 13 = .ok (.aload_n 0, 1) := by decide +kernel
theorem dX1_putInPlace_14 : decode cX1_putInPlace 14 = .ok (.getfield 41, 3) := by decide +kernel
theorem dX1_putInPlace_17 : decode cX1_putInPlace 17 = .ok (.iload_n 3, 1) := by decide +kernel
theorem dX1_putInPlace_18 : decode cX1_putInPlace 18 = .ok (.aaload, 1) := by decide +kernel
theorem dX1_putInPlace_19 : decode cX1_putInPlace 19 = .ok (.iload_n 1, 1) := by decide +kernel
theorem dX1_putInPlace_20 : decode cX1_putInPlace 20 = .ok (.aload_n 0, 1) := by decide +kernel
theorem dX1_putInPlace_21 : decode cX1_putInPlace 21 = .ok (.getfield 9, 3) := by decide +kernel
theorem dX1_putInPlace_24 : decode cX1_putInPlace 24 = .ok (.iload_n 1, 1) := by decide +kernel
theorem dX1_putInPlace_25 : decode cX1_putInPlace 25 = .ok (.iaload, 1) := by decide +kernel
theorem dX1_putInPlace_26 : decode cX1_putInPlace 26 = .ok (.aload_n 0, 1) := by decide +kernel
theorem dX1_putInPlace_27 : decode cX1_putInPlace 27 = .ok (.getfield 15, 3) := by decide +kernel
theorem dX1_putInPlace_30 : decode cX1_putInPlace 30 = .ok (.iload_n 1, 1) := by decide +kernel
theorem dX1_putInPlace_31 : decode cX1_putInPlace 31 = .ok (.iaload, 1) := by decide +kernel
theorem dX1_putInPlace_32 : decode cX1_putInPlace 32 = .ok (.aload_n 0, 1) := by decide +kernel
theorem dX1_putInPlace_33 : decode cX1_putInPlace 33 = .ok (.getfield 38, 3) := by decide +kernel
theorem dX1_putInPlace_36 : decode cX1_putInPlace 36 = .ok (.invokevirtual 168, 3) := by decide +kernel
theorem dX1_putInPlace_39 : decode cX1_putInPlace 39 = .ok (.iinc 3 (-1), 3) := by decide +kernel
theorem dX1_putInPlace_42 : decode cX1_putInPlace 42 = .ok (.goto (-33), 3) := by decide +kernel
theorem dX1_putInPlace_45 : decode cX1_putInPlace 45 = .ok (.aload_n 0, 1) := by decide +kernel
theorem dX1_putInPlace_46 : decode cX1_putInPlace 46 = .ok (.iload_n 1, 1) := by decide +kernel
theorem dX1_putInPlace_47 : decode cX1_putInPlace 47 = .ok (.iconst 5, 1) := by decide +kernel
theorem dX1_putInPlace_48 : decode cX1_putInPlace 48 = .ok (.iload_n 2, 1) := by decide +kernel
theorem dX1_putInPlace_49 : decode cX1_putInPlace 49 = .ok (.invokevirtual 116, 3) := by decide +kernel
theorem dX1_putInPlace_52 : decode cX1_putInPlace 52 = .ok (.return_, 1) := by decide +kernel
theorem dX1_nameTheJoined_0 : decode cX1_nameTheJoined 0 = .ok (.iload_n 1, 1) := by decide +kernel
theorem dX1_nameTheJoined_1 : decode cX1_nameTheJoined 1 = .ok (.invokestatic 175, 3) := by decide +kernel
theorem dX1_nameTheJoined_4 : decode cX1_nameTheJoined 4 = .ok (.iload_n 3, 1) := by decide +kernel
theorem dX1_nameTheJoined_5 : decode cX1_nameTheJoined 5 = .ok (.invokestatic 175, 3) := by decide +kernel
theorem dX1_nameTheJoined_8 : decode cX1_nameTheJoined 8 = .ok (.isub, 1) := by decide +kernel
theorem dX1_nameTheJoined_9 : decode cX1_nameTheJoined 9 = .ok (.istore 5, 2) := by decide +kernel
theorem dX1_nameTheJoined_11 : decode cX1_nameTheJoined 11 = .ok (.iload 5, 2) := by decide +kernel
theorem dX1_nameTheJoined_13 : decode cX1_nameTheJoined 13 = .ok (.ifCond .le 7, 3) := by decide +kernel
theorem dX1_nameTheJoined_16 : decode cX1_nameTheJoined 16 = .ok (.iload_n 2, 1) := by decide +kernel
theorem dX1_nameTheJoined_17 : decode cX1_nameTheJoined 17 = .ok (.goto 19, 3) := by decide +kernel
theorem dX1_nameTheJoined_20 : decode cX1_nameTheJoined 20 = .ok (.iload 5, 2) := by decide +kernel
theorem dX1_nameTheJoined_22 : decode cX1_nameTheJoined 22 = .ok (.ifCond .ge 8, 3) := by decide +kernel
theorem dX1_nameTheJoined_25 : decode cX1_nameTheJoined 25 = .ok (.iload 4, 2) := by decide +kernel
theorem dX1_nameTheJoined_27 : decode cX1_nameTheJoined 27 = .ok (.goto 9, 3) := by decide +kernel
theorem dX1_nameTheJoined_30 : decode cX1_nameTheJoined 30 = .ok (.iload_n 2, 1) := by decide +kernel
theorem dX1_nameTheJoined_31 : decode cX1_nameTheJoined 31 = .ok (.iload 4, 2) := by decide +kernel
theorem dX1_nameTheJoined_33 : decode cX1_nameTheJoined 33 = .ok (.invokestatic 183, 3) := by decide +kernel
theorem dX1_nameTheJoined_36 : decode cX1_nameTheJoined 36 = .ok (.istore 6, 2) := by decide +kernel
theorem dX1_nameTheJoined_38 : decode cX1_nameTheJoined 38 = .ok (.aload_n 0, 1) := by decide +kernel
theorem dX1_nameTheJoined_39 : decode cX1_nameTheJoined 39 = .ok (.iload_n 1, 1) := by decide +kernel
theorem dX1_nameTheJoined_40 : decode cX1_nameTheJoined 40 = .ok (.iload_n 3, 1) := by decide +kernel
theorem dX1_nameTheJoined_41 : decode cX1_nameTheJoined 41 = .ok (.ior, 1) := by decide +kernel
theorem dX1_nameTheJoined_42 : decode cX1_nameTheJoined 42 = .ok (.iload 6, 2) := by decide +kernel
theorem dX1_nameTheJoined_44 : decode cX1_nameTheJoined 44 = .ok (.invokevirtual 186, 3) := by decide +kernel
theorem dX1_nameTheJoined_47 : decode cX1_nameTheJoined 47 = .ok (.return_, 1) := by decide +kernel
theorem dX1_nameTheParted_0 : decode cX1_nameTheParted 0 = .ok (.aload_n 0, 1) := by decide +kernel
theorem dX1_nameTheParted_1 : decode cX1_nameTheParted 1 = .ok (.getfield 41, 3) := by decide +kernel
theorem dX1_nameTheParted_4 : decode cX1_nameTheParted 4 = .ok (.iconst 0, 1) := by decide +kernel
theorem dX1_nameTheParted_5 : decode cX1_nameTheParted 5 = .ok (.aaload, 1) := by decide +kernel
theorem dX1_nameTheParted_6 : decode cX1_nameTheParted 6 = .ok (.iload_n 1, 1) := by decide +kernel
theorem dX1_nameTheParted_7 : decode cX1_nameTheParted 7 = .ok (.invokevirtual 161, 3) := by decide +kernel
theorem dX1_nameTheParted_10 : decode cX1_nameTheParted 10 = .ok (.istore_n 3, 1) := by decide +kernel
theorem dX1_nameTheParted_11 : decode cX1_nameTheParted 11 = .ok (.aload_n 0, 1) := by decide +kernel
theorem dX1_nameTheParted_12 : decode cX1_nameTheParted 12 = .ok (.getfield 41, 3) := by decide +kernel
theorem dX1_nameTheParted_15 : decode cX1_nameTheParted 15 = .ok (.iconst 0, 1) := by decide +kernel
theorem dX1_nameTheParted_16 : decode cX1_nameTheParted 16 = .ok (.aaload, 1) := by decide +kernel
theorem dX1_nameTheParted_17 : decode cX1_nameTheParted 17 = .ok (.iload_n 2, 1) := by decide +kernel
theorem dX1_nameTheParted_18 : decode cX1_nameTheParted 18 = .ok (.invokevirtual 161, 3) := by decide +kernel
theorem dX1_nameTheParted_21 : decode cX1_nameTheParted 21 = .ok (.istore 4, 2) := by decide +kernel
theorem dX1_nameTheParted_23 : decode cX1_nameTheParted 23 = .ok (.iload_n 3, 1) := by decide +kernel
theorem dX1_nameTheParted_24 : decode cX1_nameTheParted 24 = .ok (.invokestatic 175, 3) := by decide +kernel
theorem dX1_nameTheParted_27 : decode cX1_nameTheParted 27 = .ok (.iload 4, 2) := by decide +kernel
theorem dX1_nameTheParted_29 : decode cX1_nameTheParted 29 = .ok (.invokestatic 175, 3) := by decide +kernel
theorem dX1_nameTheParted_32 : decode cX1_nameTheParted 32 = .ok (.if_icmp .lt 8, 3) := by decide +kernel
theorem dX1_nameTheParted_35 : decode cX1_nameTheParted 35 = .ok (.iload 4, 2) := by decide +kernel
theorem dX1_nameTheParted_37 : decode cX1_nameTheParted 37 = .ok (.goto 4, 3) := by decide +kernel
theorem dX1_nameTheParted_40 : decode cX1_nameTheParted 40 = .ok (.iload_n 3, 1) := by decide +kernel
theorem dX1_nameTheParted_41 : decode cX1_nameTheParted 41 = .ok (.istore 5, 2) := by decide +kernel
theorem dX1_nameTheParted_43 : decode cX1_nameTheParted 43 = .ok (.aload_n 0, 1) := by decide +kernel
theorem dX1_nameTheParted_44 : decode cX1_nameTheParted 44 = .ok (.iload 5, 2) := by decide +kernel
theorem dX1_nameTheParted_46 : decode cX1_nameTheParted 46 = .ok (.aload_n 0, 1) := by decide +kernel
theorem dX1_nameTheParted_47 : decode cX1_nameTheParted 47 = .ok (.iload 5, 2) := by decide +kernel
theorem dX1_nameTheParted_49 : decode cX1_nameTheParted 49 = .ok (.invokevirtual 189, 3) := by decide +kernel
theorem dX1_nameTheParted_52 : decode cX1_nameTheParted 52 = .ok (.invokevirtual 186, 3) := by decide +kernel
theorem dX1_nameTheParted_55 : decode cX1_nameTheParted 55 = .ok (.return_, 1) := by decide +kernel
theorem dX1_freeName_0 : decode cX1_freeName 0 = .ok (.iconst 0, 1) := by decide +kernel
theorem dX1_freeName_1 : decode cX1_freeName 1 = .ok (.istore_n 2, 1) := by decide +kernel
theorem dX1_freeName_2 : decode cX1_freeName 2 = .ok (.iconst 0, 1) := by decide +kernel
theorem dX1_freeName_3 : decode cX1_freeName 3 = .ok (.istore_n 3, 1) := by decide +kernel
theorem dX1_freeName_4 : decode cX1_freeName 4 = .ok (.iload_n 3, 1) := by decide +kernel
theorem dX1_freeName_5 : decode cX1_freeName 5 = .ok (.aload_n 0, 1) := by decide +kernel
theorem dX1_freeName_6 : decode cX1_freeName 6 = .ok (.getfield 45, 3) := by decide +kernel
theorem dX1_freeName_9 : decode cX1_freeName 9 = .ok (.if_icmp .ge 28, 3) := by decide +kernel
theorem dX1_freeName_12 : decode cX1_freeName 12 = .ok (.iload_n 1, 1) := by decide +kernel
theorem dX1_freeName_13 : decode cX1_freeName 13 = .ok (.iload_n 3, 1) := by decide +kernel
theorem dX1_freeName_14 : decode cX1_freeName 14 = .ok (.invokestatic 140, 3) := by decide +kernel
theorem dX1_freeName_17 : decode cX1_freeName 17 = .ok (.ifCond .ne 14, 3) := by decide +kernel
theorem dX1_freeName_20 : decode cX1_freeName 20 = .ok (.iload_n 2, 1) := by decide +kernel
theorem dX1_freeName_21 : decode cX1_freeName 21 = .ok (.iconst 1, 1) := by decide +kernel
theorem dX1_freeName_22 : decode cX1_freeName 22 = .ok (.aload_n 0, 1) := by decide +kernel
theorem dX1_freeName_23 : decode cX1_freeName 23 = .ok (.getfield 30, 3) := by decide +kernel
theorem dX1_freeName_26 : decode cX1_freeName 26 = .ok (.iload_n 3, 1) := by decide +kernel
theorem dX1_freeName_27 : decode cX1_freeName 27 = .ok (.iaload, 1) := by decide +kernel
theorem dX1_freeName_28 : decode cX1_freeName 28 = .ok (.ishl, 1) := by decide +kernel
theorem dX1_freeName_29 : decode cX1_freeName 29 = .ok (.ior, 1) := by decide +kernel
theorem dX1_freeName_30 : decode cX1_freeName 30 = .ok (.istore_n 2, 1) := by decide +kernel
theorem dX1_freeName_31 : decode cX1_freeName 31 = .ok (.iinc 3 1, 3) := by decide +kernel
theorem dX1_freeName_34 : decode cX1_freeName 34 = .ok (.goto (-30), 3) := by decide +kernel
theorem dX1_freeName_37 : decode cX1_freeName 37 = .ok (.iload_n 2, 1) := by decide +kernel
theorem dX1_freeName_38 : decode cX1_freeName 38 = .ok (.iconst (-1), 1) := by decide +kernel
theorem dX1_freeName_39 : decode cX1_freeName 39 = .ok (.ixor, 1) := by decide +kernel
theorem dX1_freeName_40 : decode cX1_freeName 40 = .ok (.invokestatic 192, 3) := by decide +kernel
theorem dX1_freeName_43 : decode cX1_freeName 43 = .ok (.ireturn, 1) := by decide +kernel
theorem dX1_giveName_0 : decode cX1_giveName 0 = .ok (.iconst 0, 1) := by decide +kernel
theorem dX1_giveName_1 : decode cX1_giveName 1 = .ok (.istore_n 3, 1) := by decide +kernel
theorem dX1_giveName_2 : decode cX1_giveName 2 = .ok (.iload_n 3, 1) := by decide +kernel
theorem dX1_giveName_3 : decode cX1_giveName 3 = .ok (.aload_n 0, 1) := by decide +kernel
theorem dX1_giveName_4 : decode cX1_giveName 4 = .ok (.getfield 45, 3) := by decide +kernel
theorem dX1_giveName_7 : decode cX1_giveName 7 = .ok (.if_icmp .ge 24, 3) := by decide +kernel
theorem dX1_giveName_10 : decode cX1_giveName 10 = .ok (.iload_n 1, 1) := by decide +kernel
theorem dX1_giveName_11 : decode cX1_giveName 11 = .ok (.iload_n 3, 1) := by decide +kernel
theorem dX1_giveName_12 : decode cX1_giveName 12 = .ok (.invokestatic 140, 3) := by decide +kernel
theorem dX1_giveName_15 : decode cX1_giveName 15 = .ok (.ifCond .eq 10, 3) := by decide +kernel
theorem dX1_giveName_18 : decode cX1_giveName 18 = .ok (.aload_n 0, 1) := by decide +kernel
theorem dX1_giveName_19 : decode cX1_giveName 19 = .ok (.getfield 30, 3) := by decide +kernel
theorem dX1_giveName_22 : decode cX1_giveName 22 = .ok (.iload_n 3, 1) := by decide +kernel
theorem dX1_giveName_23 : decode cX1_giveName 23 = .ok (.iload_n 2, 1) := by decide +kernel
theorem dX1_giveName_24 : decode cX1_giveName 24 = .ok (.iastore, 1) := by decide +kernel
theorem dX1_giveName_25 : decode cX1_giveName 25 = .ok (.iinc 3 1, 3) := by decide +kernel
theorem dX1_giveName_28 : decode cX1_giveName 28 = .ok (.goto (-26), 3) := by decide +kernel
theorem dX1_giveName_31 : decode cX1_giveName 31 = .ok (.return_, 1) := by decide +kernel
theorem dX1_note_0 : decode cX1_note 0 = .ok (.aload_n 0, 1) := by decide +kernel
theorem dX1_note_1 : decode cX1_note 1 = .ok (.getfield 64, 3) := by decide +kernel
theorem dX1_note_4 : decode cX1_note 4 = .ok (.aload_n 0, 1) := by decide +kernel
theorem dX1_note_5 : decode cX1_note 5 = .ok (.getfield 61, 3) := by decide +kernel
theorem dX1_note_8 : decode cX1_note 8 = .ok (.iadd, 1) := by decide +kernel
theorem dX1_note_9 : decode cX1_note 9 = .ok (.bipush 40, 2) := by decide +kernel
theorem dX1_note_11 : decode cX1_note 11 = .ok (.irem, 1) := by decide +kernel
theorem dX1_note_12 : decode cX1_note 12 = .ok (.iconst 3, 1) := by decide +kernel
theorem dX1_note_13 : decode cX1_note 13 = .ok (.imul, 1) := by decide +kernel
theorem dX1_note_14 : decode cX1_note 14 = .ok (.istore 4, 2) := by decide +kernel
theorem dX1_note_16 : decode cX1_note 16 = .ok (.aload_n 0, 1) := by decide +kernel
theorem dX1_note_17 : decode cX1_note 17 = .ok (.getfield 33, 3) := by decide +kernel
theorem dX1_note_20 : decode cX1_note 20 = .ok (.iload 4, 2) := by decide +kernel
theorem dX1_note_22 : decode cX1_note 22 = .ok (.iload_n 1, 1) := by decide +kernel
theorem dX1_note_23 : decode cX1_note 23 = .ok (.iastore, 1) := by decide +kernel
theorem dX1_note_24 : decode cX1_note 24 = .ok (.aload_n 0, 1) := by decide +kernel
theorem dX1_note_25 : decode cX1_note 25 = .ok (.getfield 33, 3) := by decide +kernel
theorem dX1_note_28 : decode cX1_note 28 = .ok (.iload 4, 2) := by decide +kernel
theorem dX1_note_30 : decode cX1_note 30 = .ok (.iconst 1, 1) := by decide +kernel
theorem dX1_note_31 : decode cX1_note 31 = .ok (.iadd, 1) := by decide +kernel
theorem dX1_note_32 : decode cX1_note 32 = .ok (.iload_n 2, 1) := by decide +kernel
theorem dX1_note_33 : decode cX1_note 33 = .ok (.iastore, 1) := by decide +kernel
theorem dX1_note_34 : decode cX1_note 34 = .ok (.aload_n 0, 1) := by decide +kernel
theorem dX1_note_35 : decode cX1_note 35 = .ok (.getfield 33, 3) := by decide +kernel
theorem dX1_note_38 : decode cX1_note 38 = .ok (.iload 4, 2) := by decide +kernel
theorem dX1_note_40 : decode cX1_note 40 = .ok (.iconst 2, 1) := by decide +kernel
theorem dX1_note_41 : decode cX1_note 41 = .ok (.iadd, 1) := by decide +kernel
theorem dX1_note_42 : decode cX1_note 42 = .ok (.iload_n 3, 1) := by decide +kernel
theorem dX1_note_43 : decode cX1_note 43 = .ok (.iastore, 1) := by decide +kernel
theorem dX1_note_44 : decode cX1_note 44 = .ok (.aload_n 0, 1) := by decide +kernel
theorem dX1_note_45 : decode cX1_note 45 = .ok (.getfield 61, 3) := by decide +kernel
theorem dX1_note_48 : decode cX1_note 48 = .ok (.bipush 40, 2) := by decide +kernel
theorem dX1_note_50 : decode cX1_note 50 = .ok (.if_icmp .ge 16, 3) := by decide +kernel
theorem dX1_note_53 : decode cX1_note 53 = .ok (.aload_n 0, 1) := by decide +kernel
theorem dX1_note_54 : decode cX1_note 54 = .ok (.dup, 1) := by decide +kernel
theorem dX1_note_55 : decode cX1_note 55 = .ok (.getfield 61, 3) := by decide +kernel
theorem dX1_note_58 : decode cX1_note 58 = .ok (.iconst 1, 1) := by decide +kernel
theorem dX1_note_59 : decode cX1_note 59 = .ok (.iadd, 1) := by decide +kernel
theorem dX1_note_60 : decode cX1_note 60 = .ok (.putfield 61, 3) := by decide +kernel
theorem dX1_note_63 : decode cX1_note 63 = .ok (.goto 16, 3) := by decide +kernel
theorem dX1_note_66 : decode cX1_note 66 = .ok (.aload_n 0, 1) := by decide +kernel
theorem dX1_note_67 : decode cX1_note 67 = .ok (.aload_n 0, 1) := by decide +kernel
theorem dX1_note_68 : decode cX1_note 68 = .ok (.getfield 64, 3) := by decide +kernel
theorem dX1_note_71 : decode cX1_note 71 = .ok (.iconst 1, 1) := by decide +kernel
theorem dX1_note_72 : decode cX1_note 72 = .ok (.iadd, 1) := by decide +kernel
theorem dX1_note_73 : decode cX1_note 73 = .ok (.bipush 40, 2) := by decide +kernel
theorem dX1_note_75 : decode cX1_note 75 = .ok (.irem, 1) := by decide +kernel
theorem dX1_note_76 : decode cX1_note 76 = .ok (.putfield 64, 3) := by decide +kernel
theorem dX1_note_79 : decode cX1_note 79 = .ok (.return_, 1) := by decide +kernel

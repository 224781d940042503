theorem dX5_init_0 : decode cX5_init 0 = .ok (.aload_n 0, 1) := by decide +kernel
theorem dX5_init_1 : decode cX5_init 1 = .ok (.invokespecial 1, 3) := by decide +kernel
theorem dX5_init_4 : decode cX5_init 4 = .ok (.aload_n 0, 1) := by decide +kernel
theorem dX5_init_5 : decode cX5_init 5 = .ok (.iconst 4, 1) := by decide +kernel
theorem dX5_init_6 : decode cX5_init 6 = .ok (.newarray .int, 2) := by decide +kernel
theorem dX5_init_8 : decode cX5_init 8 = .ok (.putfield 7, 3) := by decide +kernel
theorem dX5_init_11 : decode cX5_init 11 = .ok (.aload_n 0, 1) := by decide +kernel
theorem dX5_init_12 : decode cX5_init 12 = .ok (.iconst 4, 1) := by decide +kernel
theorem dX5_init_13 : decode cX5_init 13 = .ok (.newarray .int, 2) := by decide +kernel
theorem dX5_init_15 : decode cX5_init 15 = .ok (.putfield 13, 3) := by decide +kernel
theorem dX5_init_18 : decode cX5_init 18 = .ok (.aload_n 0, 1) := by decide +kernel
theorem dX5_init_19 : decode cX5_init 19 = .ok (.bipush 12, 2) := by decide +kernel
theorem dX5_init_21 : decode cX5_init 21 = .ok (.newarray .int, 2) := by decide +kernel
theorem dX5_init_23 : decode cX5_init 23 = .ok (.putfield 16, 3) := by decide +kernel
theorem dX5_init_26 : decode cX5_init 26 = .ok (.aload_n 0, 1) := by decide +kernel
theorem dX5_init_27 : decode cX5_init 27 = .ok (.iconst 4, 1) := by decide +kernel
theorem dX5_init_28 : decode cX5_init 28 = .ok (.newarray .int, 2) := by decide +kernel
theorem dX5_init_30 : decode cX5_init 30 = .ok (.putfield 19, 3) := by decide +kernel
theorem dX5_init_33 : decode cX5_init 33 = .ok (.aload_n 0, 1) := by decide +kernel
theorem dX5_init_34 : decode cX5_init 34 = .ok (.bipush 24, 2) := by decide +kernel
theorem dX5_init_36 : decode cX5_init 36 = .ok (.newarray .int, 2) := by decide +kernel
theorem dX5_init_38 : decode cX5_init 38 = .ok (.putfield 22, 3) := by decide +kernel
theorem dX5_init_41 : decode cX5_init 41 = .ok (.aload_n 0, 1) := by decide +kernel
theorem dX5_init_42 : decode cX5_init 42 = .ok (.bipush 24, 2) := by decide +kernel
theorem dX5_init_44 : decode cX5_init 44 = .ok (.newarray .int, 2) := by decide +kernel
theorem dX5_init_46 : decode cX5_init 46 = .ok (.putfield 25, 3) := by decide +kernel
theorem dX5_init_49 : decode cX5_init 49 = .ok (.aload_n 0, 1) := by decide +kernel
theorem dX5_init_50 : decode cX5_init 50 = .ok (.bipush 24, 2) := by decide +kernel
theorem dX5_init_52 : decode cX5_init 52 = .ok (.newarray .int, 2) := by decide +kernel
theorem dX5_init_54 : decode cX5_init 54 = .ok (.putfield 28, 3) := by decide +kernel
theorem dX5_init_57 : decode cX5_init 57 = .ok (.aload_n 0, 1) := by decide +kernel
theorem dX5_init_58 : decode cX5_init 58 = .ok (.sipush 1920, 3) := by decide +kernel
theorem dX5_init_61 : decode cX5_init 61 = .ok (.newarray .int, 2) := by decide +kernel
theorem dX5_init_63 : decode cX5_init 63 = .ok (.putfield 31, 3) := by decide +kernel
theorem dX5_init_66 : decode cX5_init 66 = .ok (.aload_n 0, 1) := by decide +kernel
theorem dX5_init_67 : decode cX5_init 67 = .ok (.sipush 960, 3) := by decide +kernel
theorem dX5_init_70 : decode cX5_init 70 = .ok (.newarray .int, 2) := by decide +kernel
theorem dX5_init_72 : decode cX5_init 72 = .ok (.putfield 34, 3) := by decide +kernel
theorem dX5_init_75 : decode cX5_init 75 = .ok (.aload_n 0, 1) := by decide +kernel
theorem dX5_init_76 : decode cX5_init 76 = .ok (.sipush 1681, 3) := by decide +kernel
theorem dX5_init_79 : decode cX5_init 79 = .ok (.newarray .int, 2) := by decide +kernel
theorem dX5_init_81 : decode cX5_init 81 = .ok (.putfield 37, 3) := by decide +kernel
theorem dX5_init_84 : decode cX5_init 84 = .ok (.aload_n 0, 1) := by decide +kernel
theorem dX5_init_85 : decode cX5_init 85 = .ok (.bipush 41, 2) := by decide +kernel
theorem dX5_init_87 : decode cX5_init 87 = .ok (.newarray .int, 2) := by decide +kernel
theorem dX5_init_89 : decode cX5_init 89 = .ok (.putfield 40, 3) := by decide +kernel
theorem dX5_init_92 : decode cX5_init 92 = .ok (.aload_n 0, 1) := by decide +kernel
theorem dX5_init_93 : decode cX5_init 93 = .ok (.bipush 41, 2) := by decide +kernel
theorem dX5_init_95 : decode cX5_init 95 = .ok (.newarray .int, 2) := by decide +kernel
theorem dX5_init_97 : decode cX5_init 97 = .ok (.putfield 43, 3) := by decide +kernel
theorem dX5_init_100 : decode cX5_init 100 = .ok (.aload_n 0, 1) := by decide +kernel
theorem dX5_init_101 : decode cX5_init 101 = .ok (.sipush 1681, 3) := by decide +kernel
theorem dX5_init_104 : decode cX5_init 104 = .ok (.newarray .int, 2) := by decide +kernel
theorem dX5_init_106 : decode cX5_init 106 = .ok (.putfield 46, 3) := by decide +kernel
theorem dX5_init_109 : decode cX5_init 109 = .ok (.aload_n 0, 1) := by decide +kernel
theorem dX5_init_110 : decode cX5_init 110 = .ok (.bipush 41, 2) := by decide +kernel
theorem dX5_init_112 : decode cX5_init 112 = .ok (.newarray .int, 2) := by decide +kernel
theorem dX5_init_114 : decode cX5_init 114 = .ok (.putfield 49, 3) := by decide +kernel
theorem dX5_init_117 : decode cX5_init 117 = .ok (.aload_n 0, 1) := by decide +kernel
theorem dX5_init_118 : decode cX5_init 118 = .ok (.bipush 41, 2) := by decide +kernel
theorem dX5_init_120 : decode cX5_init 120 = .ok (.newarray .int, 2) := by decide +kernel
theorem dX5_init_122 : decode cX5_init 122 = .ok (.putfield 52, 3) := by decide +kernel
theorem dX5_init_125 : decode cX5_init 125 = .ok (.aload_n 0, 1) := by decide +kernel
theorem dX5_init_126 : decode cX5_init 126 = .ok (.bipush 40, 2) := by decide +kernel
theorem dX5_init_128 : decode cX5_init 128 = .ok (.newarray .int, 2) := by decide +kernel
theorem dX5_init_130 : decode cX5_init 130 = .ok (.putfield 55, 3) := by decide +kernel
theorem dX5_init_133 : decode cX5_init 133 = .ok (.aload_n 0, 1) := by decide +kernel
theorem dX5_init_134 : decode cX5_init 134 = .ok (.iconst 4, 1) := by decide +kernel
theorem dX5_init_135 : decode cX5_init 135 = .ok (.newarray .int, 2) := by decide +kernel
theorem dX5_init_137 : decode cX5_init 137 = .ok (.putfield 58, 3) := by decide +kernel
theorem dX5_init_140 : decode cX5_init 140 = .ok (.aload_n 0, 1) := by decide +kernel
theorem dX5_init_141 : decode cX5_init 141 = .ok (.iconst 4, 1) := by decide +kernel
theorem dX5_init_142 : decode cX5_init 142 = .ok (.newarray .int, 2) := by decide +kernel
theorem dX5_init_144 : decode cX5_init 144 = .ok (.putfield 61, 3) := by decide +kernel
theorem dX5_init_147 : decode cX5_init 147 = .ok (.aload_n 0, 1) := by decide +kernel
theorem dX5_init_148 : decode cX5_init 148 = .ok (.iconst 4, 1) := by decide +kernel
theorem dX5_init_149 : decode cX5_init 149 = .ok (.newarray .long, 2) := by decide +kernel
theorem dX5_init_151 : decode cX5_init 151 = .ok (.putfield 64, 3) := by decide +kernel
theorem dX5_init_154 : decode cX5_init 154 = .ok (.aload_n 0, 1) := by decide +kernel
theorem dX5_init_155 : decode cX5_init 155 = .ok (.iconst 3, 1) := by decide +kernel
theorem dX5_init_156 : decode cX5_init 156 = .ok (.newarray .boolean, 2) := by decide +kernel
theorem dX5_init_158 : decode cX5_init 158 = .ok (.putfield 68, 3) := by decide +kernel
theorem dX5_init_161 : decode cX5_init 161 = .ok (.aload_n 0, 1) := by decide +kernel
theorem dX5_init_162 : decode cX5_init 162 = .ok (.getfield 7, 3) := by decide +kernel
theorem dX5_init_165 : decode cX5_init 165 = .ok (.iconst 0, 1) := by decide +kernel
theorem dX5_init_166 : decode cX5_init 166 = .ok (.bipush 24, 2) := by decide +kernel
theorem dX5_init_168 : decode cX5_init 168 = .ok (.iastore, 1) := by decide +kernel
theorem dX5_init_169 : decode cX5_init 169 = .ok (.return_, 1) := by decide +kernel
theorem dX5_in_0 : decode cX5_in 0 = .ok (.iload_n 0, 1) := by decide +kernel
theorem dX5_in_1 : decode cX5_in 1 = .ok (.iload_n 1, 1) := by decide +kernel
theorem dX5_in_2 : decode cX5_in 2 = .ok (.if_icmp .lt 12, 3) := by decide +kernel
theorem dX5_in_5 : decode cX5_in 5 = .ok (.iload_n 0, 1) := by decide +kernel
theorem dX5_in_6 : decode cX5_in 6 = .ok (.iload_n 2, 1) := by decide +kernel
theorem dX5_in_7 : decode cX5_in 7 = .ok (.if_icmp .gt 7, 3) := by decide +kernel
theorem dX5_in_10 : decode cX5_in 10 = .ok (.iconst 1, 1) := by decide +kernel
theorem dX5_in_11 : decode cX5_in 11 = .ok (.goto 4, 3) := by decide +kernel
theorem dX5_in_14 : decode cX5_in 14 = .ok (.iconst 0, 1) := by decide +kernel
theorem dX5_in_15 : decode cX5_in 15 = .ok (.ireturn, 1) := by decide +kernel
theorem dX5_move_0 : decode cX5_move 0 = .ok (.iconst 0, 1) := by decide +kernel
theorem dX5_move_1 : decode cX5_move 1 = .ok (.istore 4, 2) := by decide +kernel
theorem dX5_move_3 : decode cX5_move 3 = .ok (.iload 4, 2) := by decide +kernel
theorem dX5_move_5 : decode cX5_move 5 = .ok (.iload_n 1, 1) := by decide +kernel
theorem dX5_move_6 : decode cX5_move 6 = .ok (.if_icmp .ge 25, 3) := by decide +kernel
theorem dX5_move_9 : decode cX5_move 9 = .ok (.aload_n 0, 1) := by decide +kernel
theorem dX5_move_10 : decode cX5_move 10 = .ok (.iload_n 1, 1) := by decide +kernel
theorem dX5_move_11 : decode cX5_move 11 = .ok (.iload_n 3, 1) := by decide +kernel
theorem dX5_move_12 : decode cX5_move 12 = .ok (.imul, 1) := by decide +kernel
theorem dX5_move_13 : decode cX5_move 13 = .ok (.iload 4, 2) := by decide +kernel
theorem dX5_move_15 : decode cX5_move 15 = .ok (.iadd, 1) := by decide +kernel
theorem dX5_move_16 : decode cX5_move 16 = .ok (.aload_n 0, 1) := by decide +kernel
theorem dX5_move_17 : decode cX5_move 17 = .ok (.iload_n 1, 1) := by decide +kernel
theorem dX5_move_18 : decode cX5_move 18 = .ok (.iload_n 2, 1) := by decide +kernel
theorem dX5_move_19 : decode cX5_move 19 = .ok (.imul, 1) := by decide +kernel
theorem dX5_move_20 : decode cX5_move 20 = .ok (.iload 4, 2) := by decide +kernel
theorem dX5_move_22 : decode cX5_move 22 = .ok (.iadd, 1) := by decide +kernel
theorem dX5_move_23 : decode cX5_move 23 = .ok (.iaload, 1) := by decide +kernel
theorem dX5_move_24 : decode cX5_move 24 = .ok (.iastore, 1) := by decide +kernel
theorem dX5_move_25 : decode cX5_move 25 = .ok (.iinc 4 1, 3) := by decide +kernel
theorem dX5_move_28 : decode cX5_move 28 = .ok (.goto (-25), 3) := by decide +kernel
theorem dX5_move_31 : decode cX5_move 31 = .ok (.return_, 1) := by decide +kernel
theorem dX5_copy_0 : decode cX5_copy 0 = .ok (.aload_n 0, 1) := by decide +kernel
theorem dX5_copy_1 : decode cX5_copy 1 = .ok (.getfield 7, 3) := by decide +kernel
theorem dX5_copy_4 : decode cX5_copy 4 = .ok (.iconst 1, 1) := by decide +kernel
theorem dX5_copy_5 : decode cX5_copy 5 = .ok (.iload_n 1, 1) := by decide +kernel
theorem dX5_copy_6 : decode cX5_copy 6 = .ok (.iload_n 2, 1) := by decide +kernel
theorem dX5_copy_7 : decode cX5_copy 7 = .ok (.invokestatic 76, 3) := by decide +kernel
theorem dX5_copy_10 : decode cX5_copy 10 = .ok (.aload_n 0, 1) := by decide +kernel
theorem dX5_copy_11 : decode cX5_copy 11 = .ok (.getfield 13, 3) := by decide +kernel
theorem dX5_copy_14 : decode cX5_copy 14 = .ok (.iconst 1, 1) := by decide +kernel
theorem dX5_copy_15 : decode cX5_copy 15 = .ok (.iload_n 1, 1) := by decide +kernel
theorem dX5_copy_16 : decode cX5_copy 16 = .ok (.iload_n 2, 1) := by decide +kernel
theorem dX5_copy_17 : decode cX5_copy 17 = .ok (.invokestatic 76, 3) := by decide +kernel
theorem dX5_copy_20 : decode cX5_copy 20 = .ok (.aload_n 0, 1) := by decide +kernel
theorem dX5_copy_21 : decode cX5_copy 21 = .ok (.getfield 16, 3) := by decide +kernel
theorem dX5_copy_24 : decode cX5_copy 24 = .ok (.iconst 3, 1) := by decide +kernel
theorem dX5_copy_25 : decode cX5_copy 25 = .ok (.iload_n 1, 1) := by decide +kernel
theorem dX5_copy_26 : decode cX5_copy 26 = .ok (.iload_n 2, 1) := by decide +kernel
theorem dX5_copy_27 : decode cX5_copy 27 = .ok (.invokestatic 76, 3) := by decide +kernel
theorem dX5_copy_30 : decode cX5_copy 30 = .ok (.aload_n 0, 1) := by decide +kernel
theorem dX5_copy_31 : decode cX5_copy 31 = .ok (.getfield 19, 3) := by decide +kernel
theorem dX5_copy_34 : decode cX5_copy 34 = .ok (.iconst 1, 1) := by decide +kernel
theorem dX5_copy_35 : decode cX5_copy 35 = .ok (.iload_n 1, 1) := by decide +kernel
theorem dX5_copy_36 : decode cX5_copy 36 = .ok (.iload_n 2, 1) := by decide +kernel
theorem dX5_copy_37 : decode cX5_copy 37 = .ok (.invokestatic 76, 3) := by decide +kernel
theorem dX5_copy_40 : decode cX5_copy 40 = .ok (.aload_n 0, 1) := by decide +kernel
theorem dX5_copy_41 : decode cX5_copy 41 = .ok (.getfield 22, 3) := by decide +kernel
theorem dX5_copy_44 : decode cX5_copy 44 = .ok (.bipush 6, 2) := by decide +kernel
theorem dX5_copy_46 : decode cX5_copy 46 = .ok (.iload_n 1, 1) := by decide +kernel
theorem dX5_copy_47 : decode cX5_copy 47 = .ok (.iload_n 2, 1) := by decide +kernel
theorem dX5_copy_48 : decode cX5_copy 48 = .ok (.invokestatic 76, 3) := by decide +kernel
theorem dX5_copy_51 : decode cX5_copy 51 = .ok (.aload_n 0, 1) := by decide +kernel
theorem dX5_copy_52 : decode cX5_copy 52 = .ok (.getfield 25, 3) := by decide +kernel
theorem dX5_copy_55 : decode cX5_copy 55 = .ok (.bipush 6, 2) := by decide +kernel
theorem dX5_copy_57 : decode cX5_copy 57 = .ok (.iload_n 1, 1) := by decide +kernel
theorem dX5_copy_58 : decode cX5_copy 58 = .ok (.iload_n 2, 1) := by decide +kernel
theorem dX5_copy_59 : decode cX5_copy 59 = .ok (.invokestatic 76, 3) := by decide +kernel
theorem dX5_copy_62 : decode cX5_copy 62 = .ok (.aload_n 0, 1) := by decide +kernel
theorem dX5_copy_63 : decode cX5_copy 63 = .ok (.getfield 28, 3) := by decide +kernel
theorem dX5_copy_66 : decode cX5_copy 66 = .ok (.bipush 6, 2) := by decide +kernel
theorem dX5_copy_68 : decode cX5_copy 68 = .ok (.iload_n 1, 1) := by decide +kernel
theorem dX5_copy_69 : decode cX5_copy 69 = .ok (.iload_n 2, 1) := by decide +kernel
theorem dX5_copy_70 : decode cX5_copy 70 = .ok (.invokestatic 76, 3) := by decide +kernel
theorem dX5_copy_73 : decode cX5_copy 73 = .ok (.aload_n 0, 1) := by decide +kernel
theorem dX5_copy_74 : decode cX5_copy 74 = .ok (.getfield 31, 3) := by decide +kernel
theorem dX5_copy_77 : decode cX5_copy 77 = .ok (.sipush 480, 3) := by decide +kernel
theorem dX5_copy_80 : decode cX5_copy 80 = .ok (.iload_n 1, 1) := by decide +kernel
theorem dX5_copy_81 : decode cX5_copy 81 = .ok (.iload_n 2, 1) := by decide +kernel
theorem dX5_copy_82 : decode cX5_copy 82 = .ok (.invokestatic 76, 3) := by decide +kernel
theorem dX5_copy_85 : decode cX5_copy 85 = .ok (.aload_n 0, 1) := by decide +kernel
theorem dX5_copy_86 : decode cX5_copy 86 = .ok (.getfield 34, 3) := by decide +kernel
theorem dX5_copy_89 : decode cX5_copy 89 = .ok (.sipush 240, 3) := by decide +kernel
theorem dX5_copy_92 : decode cX5_copy 92 = .ok (.iload_n 1, 1) := by decide +kernel
theorem dX5_copy_93 : decode cX5_copy 93 = .ok (.iload_n 2, 1) := by decide +kernel
theorem dX5_copy_94 : decode cX5_copy 94 = .ok (.invokestatic 76, 3) := by decide +kernel
theorem dX5_copy_97 : decode cX5_copy 97 = .ok (.return_, 1) := by decide +kernel
theorem dX5_cell_0 : decode cX5_cell 0 = .ok (.bipush 40, 2) := by decide +kernel
theorem dX5_cell_2 : decode cX5_cell 2 = .ok (.iconst 3, 1) := by decide +kernel
theorem dX5_cell_3 : decode cX5_cell 3 = .ok (.iload_n 0, 1) := by decide +kernel
theorem dX5_cell_4 : decode cX5_cell 4 = .ok (.imul, 1) := by decide +kernel
theorem dX5_cell_5 : decode cX5_cell 5 = .ok (.iload_n 1, 1) := by decide +kernel
theorem dX5_cell_6 : decode cX5_cell 6 = .ok (.iadd, 1) := by decide +kernel
theorem dX5_cell_7 : decode cX5_cell 7 = .ok (.imul, 1) := by decide +kernel
theorem dX5_cell_8 : decode cX5_cell 8 = .ok (.iload_n 2, 1) := by decide +kernel
theorem dX5_cell_9 : decode cX5_cell 9 = .ok (.iadd, 1) := by decide +kernel
theorem dX5_cell_10 : decode cX5_cell 10 = .ok (.ireturn, 1) := by decide +kernel
theorem dX5_isKind_0 : decode cX5_isKind 0 = .ok (.iload_n 1, 1) := by decide +kernel
theorem dX5_isKind_1 : decode cX5_isKind 1 = .ok (.iconst 0, 1) := by decide +kernel
theorem dX5_isKind_2 : decode cX5_isKind 2 = .ok (.aload_n 0, 1) := by decide +kernel
theorem dX5_isKind_3 : decode cX5_isKind 3 = .ok (.getfield 13, 3) := by decide +kernel
theorem dX5_isKind_6 : decode cX5_isKind 6 = .ok (.iconst 0, 1) := by decide +kernel
theorem dX5_isKind_7 : decode cX5_isKind 7 = .ok (.iaload, 1) := by decide +kernel
theorem dX5_isKind_8 : decode cX5_isKind 8 = .ok (.iconst 1, 1) := by decide +kernel
theorem dX5_isKind_9 : decode cX5_isKind 9 = .ok (.isub, 1) := by decide +kernel
theorem dX5_isKind_10 : decode cX5_isKind 10 = .ok (.invokestatic 80, 3) := by decide +kernel
theorem dX5_isKind_13 : decode cX5_isKind 13 = .ok (.ireturn, 1) := by decide +kernel
theorem dX5_isHour_0 : decode cX5_isHour 0 = .ok (.iload_n 1, 1) := by decide +kernel
theorem dX5_isHour_1 : decode cX5_isHour 1 = .ok (.iconst 0, 1) := by decide +kernel
theorem dX5_isHour_2 : decode cX5_isHour 2 = .ok (.aload_n 0, 1) := by decide +kernel
theorem dX5_isHour_3 : decode cX5_isHour 3 = .ok (.getfield 7, 3) := by decide +kernel
theorem dX5_isHour_6 : decode cX5_isHour 6 = .ok (.iconst 0, 1) := by decide +kernel
theorem dX5_isHour_7 : decode cX5_isHour 7 = .ok (.iaload, 1) := by decide +kernel
theorem dX5_isHour_8 : decode cX5_isHour 8 = .ok (.iconst 1, 1) := by decide +kernel
theorem dX5_isHour_9 : decode cX5_isHour 9 = .ok (.isub, 1) := by decide +kernel
theorem dX5_isHour_10 : decode cX5_isHour 10 = .ok (.invokestatic 80, 3) := by decide +kernel
theorem dX5_isHour_13 : decode cX5_isHour 13 = .ok (.ireturn, 1) := by decide +kernel
theorem dX5_isOffer_0 : decode cX5_isOffer 0 = .ok (.iload_n 1, 1) := by decide +kernel
theorem dX5_isOffer_1 : decode cX5_isOffer 1 = .ok (.iconst 0, 1) := by decide +kernel
theorem dX5_isOffer_2 : decode cX5_isOffer 2 = .ok (.aload_n 0, 1) := by decide +kernel
theorem dX5_isOffer_3 : decode cX5_isOffer 3 = .ok (.getfield 19, 3) := by decide +kernel
theorem dX5_isOffer_6 : decode cX5_isOffer 6 = .ok (.iconst 0, 1) := by decide +kernel
theorem dX5_isOffer_7 : decode cX5_isOffer 7 = .ok (.iaload, 1) := by decide +kernel
theorem dX5_isOffer_8 : decode cX5_isOffer 8 = .ok (.iconst 1, 1) := by decide +kernel
theorem dX5_isOffer_9 : decode cX5_isOffer 9 = .ok (.isub, 1) := by decide +kernel
theorem dX5_isOffer_10 : decode cX5_isOffer 10 = .ok (.invokestatic 80, 3) := by decide +kernel
theorem dX5_isOffer_13 : decode cX5_isOffer 13 = .ok (.ireturn, 1) := by decide +kernel
theorem dX5_hours_0 : decode cX5_hours 0 = .ok (.aload_n 0, 1) := by decide +kernel
theorem dX5_hours_1 : decode cX5_hours 1 = .ok (.iconst 0, 1) := by decide +kernel
theorem dX5_hours_2 : decode cX5_hours 2 = .ok (.putfield 72, 3) := by decide +kernel
theorem dX5_hours_5 : decode cX5_hours 5 = .ok (.iload_n 1, 1) := by decide +kernel
theorem dX5_hours_6 : decode cX5_hours 6 = .ok (.iconst 1, 1) := by decide +kernel
theorem dX5_hours_7 : decode cX5_hours 7 = .ok (.bipush 40, 2) := by decide +kernel
theorem dX5_hours_9 : decode cX5_hours 9 = .ok (.invokestatic 80, 3) := by decide +kernel
theorem dX5_hours_12 : decode cX5_hours 12 = .ok (.ifCond .ne 5, 3) := by decide +kernel
theorem dX5_hours_15 : decode cX5_hours 15 = .ok (.iconst 0, 1) := by decide +kernel
theorem dX5_hours_16 : decode cX5_hours 16 = .ok (.ireturn, 1) := by decide +kernel
theorem dX5_hours_17 : decode cX5_hours 17 = .ok (.aload_n 0, 1) := by decide +kernel
theorem dX5_hours_18 : decode cX5_hours 18 = .ok (.getfield 7, 3) := by decide +kernel
theorem dX5_hours_21 : decode cX5_hours 21 = .ok (.iconst 0, 1) := by decide +kernel
theorem dX5_hours_22 : decode cX5_hours 22 = .ok (.iload_n 1, 1) := by decide +kernel
theorem dX5_hours_23 : decode cX5_hours 23 = .ok (.iastore, 1) := by decide +kernel
theorem dX5_hours_24 : decode cX5_hours 24 = .ok (.iload_n 1, 1) := by decide +kernel
theorem dX5_hours_25 : decode cX5_hours 25 = .ok (.istore_n 2, 1) := by decide +kernel
theorem dX5_hours_26 : decode cX5_hours 26 = .ok (.iload_n 2, 1) := by decide +kernel
theorem dX5_hours_27 : decode cX5_hours 27 = .ok (.bipush 40, 2) := by decide +kernel
theorem dX5_hours_29 : decode cX5_hours 29 = .ok (.if_icmp .ge 61, 3) := by decide +kernel
theorem dX5_hours_32 : decode cX5_hours 32 = .ok (.iconst 0, 1) := by decide +kernel
theorem dX5_hours_33 : decode cX5_hours 33 = .ok (.istore_n 3, 1) := by decide +kernel
theorem dX5_hours_34 : decode cX5_hours 34 = .ok (.iload_n 3, 1) := by decide +kernel
theorem dX5_hours_35 : decode cX5_hours 35 = .ok (.bipush 12, 2) := by decide +kernel
theorem dX5_hours_37 : decode cX5_hours 37 = .ok (.if_icmp .ge 21, 3) := by decide +kernel
theorem dX5_hours_40 : decode cX5_hours 40 = .ok (.aload_n 0, 1) := by decide +kernel
theorem dX5_hours_41 : decode cX5_hours 41 = .ok (.getfield 31, 3) := by decide +kernel
theorem dX5_hours_44 : decode cX5_hours 44 = .ok (.bipush 40, 2) := by decide +kernel
theorem dX5_hours_46 : decode cX5_hours 46 = .ok (.iload_n 3, 1) := by decide +kernel
theorem dX5_hours_47 : decode cX5_hours 47 = .ok (.imul, 1) := by decide +kernel
theorem dX5_hours_48 : decode cX5_hours 48 = .ok (.iload_n 2, 1) := by decide +kernel
theorem dX5_hours_49 : decode cX5_hours 49 = .ok (.iadd, 1) := by decide +kernel
theorem dX5_hours_50 : decode cX5_hours 50 = .ok (.iconst 0, 1) := by decide +kernel
theorem dX5_hours_51 : decode cX5_hours 51 = .ok (.iastore, 1) := by decide +kernel
theorem dX5_hours_52 : decode cX5_hours 52 = .ok (.iinc 3 1, 3) := by decide +kernel
theorem dX5_hours_55 : decode cX5_hours 55 = .ok (.goto (-21), 3) := by decide +kernel
theorem dX5_hours_58 : decode cX5_hours 58 = .ok (.iconst 0, 1) := by decide +kernel
theorem dX5_hours_59 : decode cX5_hours 59 = .ok (.istore_n 3, 1) := by decide +kernel
theorem dX5_hours_60 : decode cX5_hours 60 = .ok (.iload_n 3, 1) := by decide +kernel
theorem dX5_hours_61 : decode cX5_hours 61 = .ok (.bipush 6, 2) := by decide +kernel
theorem dX5_hours_63 : decode cX5_hours 63 = .ok (.if_icmp .ge 21, 3) := by decide +kernel
theorem dX5_hours_66 : decode cX5_hours 66 = .ok (.aload_n 0, 1) := by decide +kernel
theorem dX5_hours_67 : decode cX5_hours 67 = .ok (.getfield 34, 3) := by decide +kernel
theorem dX5_hours_70 : decode cX5_hours 70 = .ok (.bipush 40, 2) := by decide +kernel
theorem dX5_hours_72 : decode cX5_hours 72 = .ok (.iload_n 3, 1) := by decide +kernel
theorem dX5_hours_73 : decode cX5_hours 73 = .ok (.imul, 1) := by decide +kernel
theorem dX5_hours_74 : decode cX5_hours 74 = .ok (.iload_n 2, 1) := by decide +kernel
theorem dX5_hours_75 : decode cX5_hours 75 = .ok (.iadd, 1) := by decide +kernel
theorem dX5_hours_76 : decode cX5_hours 76 = .ok (.iconst 0, 1) := by decide +kernel
theorem dX5_hours_77 : decode cX5_hours 77 = .ok (.iastore, 1) := by decide +kernel
theorem dX5_hours_78 : decode cX5_hours 78 = .ok (.iinc 3 1, 3) := by decide +kernel
theorem dX5_hours_81 : decode cX5_hours 81 = .ok (.goto (-21), 3) := by decide +kernel
theorem dX5_hours_84 : decode cX5_hours 84 = .ok (.iinc 2 1, 3) := by decide +kernel
theorem dX5_hours_87 : decode cX5_hours 87 = .ok (.goto (-61), 3) := by decide +kernel
theorem dX5_hours_90 : decode cX5_hours 90 = .ok (.iconst 1, 1) := by decide +kernel
theorem dX5_hours_91 : decode cX5_hours 91 = .ok (.ireturn, 1) := by decide +kernel
theorem dX5_kind_0 : decode cX5_kind 0 = .ok (.aload_n 0, 1) := by decide +kernel
theorem dX5_kind_1 : decode cX5_kind 1 = .ok (.iconst 0, 1) := by decide +kernel
theorem dX5_kind_2 : decode cX5_kind 2 = .ok (.putfield 72, 3) := by decide +kernel
theorem dX5_kind_5 : decode cX5_kind 5 = .ok (.aload_n 0, 1) := by decide +kernel
theorem dX5_kind_6 : decode cX5_kind 6 = .ok (.getfield 13, 3) := by decide +kernel
theorem dX5_kind_9 : decode cX5_kind 9 = .ok (.iconst 0, 1) := by decide +kernel
theorem dX5_kind_10 : decode cX5_kind 10 = .ok (.iaload, 1) := by decide +kernel
theorem dX5_kind_11 : decode cX5_kind 11 = .ok (.iconst 3, 1) := by decide +kernel
theorem dX5_kind_12 : decode cX5_kind 12 = .ok (.if_icmp .eq 14, 3) := by decide +kernel
theorem dX5_kind_15 : decode cX5_kind 15 = .ok (.iload_n 1, 1) := by decide +kernel
theorem dX5_kind_16 : decode cX5_kind 16 = .ok (.iconst 1, 1) := by decide +kernel
theorem dX5_kind_17 : decode cX5_kind 17 = .ok (.sipush 1000, 3) := by decide +kernel
theorem dX5_kind_20 : decode cX5_kind 20 = .ok (.invokestatic 80, 3) := by decide +kernel
theorem dX5_kind_23 : decode cX5_kind 23 = .ok (.ifCond .ne 5, 3) := by decide +kernel
theorem dX5_kind_26 : decode cX5_kind 26 = .ok (.iconst (-1), 1) := by decide +kernel
theorem dX5_kind_27 : decode cX5_kind 27 = .ok (.ireturn, 1) := by decide +kernel
theorem dX5_kind_28 : decode cX5_kind 28 = .ok (.aload_n 0, 1) := by decide +kernel
theorem dX5_kind_29 : decode cX5_kind 29 = .ok (.getfield 16, 3) := by decide +kernel
theorem dX5_kind_32 : decode cX5_kind 32 = .ok (.aload_n 0, 1) := by decide +kernel
theorem dX5_kind_33 : decode cX5_kind 33 = .ok (.getfield 13, 3) := by decide +kernel
theorem dX5_kind_36 : decode cX5_kind 36 = .ok (.iconst 0, 1) := by decide +kernel
theorem dX5_kind_37 : decode cX5_kind 37 = .ok (.iaload, 1) := by decide +kernel
theorem dX5_kind_38 : decode cX5_kind 38 = .ok (.iload_n 1, 1) := by decide +kernel
theorem dX5_kind_39 : decode cX5_kind 39 = .ok (.iastore, 1) := by decide +kernel
theorem dX5_kind_40 : decode cX5_kind 40 = .ok (.aload_n 0, 1) := by decide +kernel
theorem dX5_kind_41 : decode cX5_kind 41 = .ok (.getfield 13, 3) := by decide +kernel
theorem dX5_kind_44 : decode cX5_kind 44 = .ok (.iconst 0, 1) := by decide +kernel
theorem dX5_kind_45 : decode cX5_kind 45 = .ok (.dup2, 1) := by decide +kernel
theorem dX5_kind_46 : decode cX5_kind 46 = .ok (.iaload, 1) := by decide +kernel
theorem dX5_kind_47 : decode cX5_kind 47 = .ok (.iconst 1, 1) := by decide +kernel
theorem dX5_kind_48 : decode cX5_kind 48 = .ok (.iadd, 1) := by decide +kernel
theorem dX5_kind_49 : decode cX5_kind 49 = .ok (.iastore, 1) := by decide +kernel
theorem dX5_kind_50 : decode cX5_kind 50 = .ok (.aload_n 0, 1) := by decide +kernel
theorem dX5_kind_51 : decode cX5_kind 51 = .ok (.getfield 13, 3) := by decide +kernel
theorem dX5_kind_54 : decode cX5_kind 54 = .ok (.iconst 0, 1) := by decide +kernel
theorem dX5_kind_55 : decode cX5_kind 55 = .ok (.iaload, 1) := by decide +kernel
theorem dX5_kind_56 : decode cX5_kind 56 = .ok (.iconst 1, 1) := by decide +kernel
theorem dX5_kind_57 : decode cX5_kind 57 = .ok (.isub, 1) := by decide +kernel
theorem dX5_kind_58 : decode cX5_kind 58 = .ok (.ireturn, 1) := by decide +kernel
theorem dX5_offer_0 : decode cX5_offer 0 = .ok (.aload_n 0, 1) := by decide +kernel
theorem dX5_offer_1 : decode cX5_offer 1 = .ok (.iconst 0, 1) := by decide +kernel
theorem dX5_offer_2 : decode cX5_offer 2 = .ok (.putfield 72, 3) := by decide +kernel
theorem dX5_offer_5 : decode cX5_offer 5 = .ok (.aload_n 0, 1) := by decide +kernel
theorem dX5_offer_6 : decode cX5_offer 6 = .ok (.getfield 19, 3) := by decide +kernel
theorem dX5_offer_9 : decode cX5_offer 9 = .ok (.iconst 0, 1) := by decide +kernel
theorem dX5_offer_10 : decode cX5_offer 10 = .ok (.iaload, 1) := by decide +kernel
theorem dX5_offer_11 : decode cX5_offer 11 = .ok (.bipush 6, 2) := by decide +kernel
theorem dX5_offer_13 : decode cX5_offer 13 = .ok (.if_icmp .eq 31, 3) := by decide +kernel
theorem dX5_offer_16 : decode cX5_offer 16 = .ok (.aload_n 0, 1) := by decide +kernel
theorem dX5_offer_17 : decode cX5_offer 17 = .ok (.iload_n 1, 1) := by decide +kernel
theorem dX5_offer_18 : decode cX5_offer 18 = .ok (.invokevirtual 84, 3) := by decide +kernel
theorem dX5_offer_21 : decode cX5_offer 21 = .ok (.ifCond .eq 23, 3) := by decide +kernel
theorem dX5_offer_24 : decode cX5_offer 24 = .ok (.iload_n 2, 1) := by decide +kernel
theorem dX5_offer_25 : decode cX5_offer 25 = .ok (.iconst 1, 1) := by decide +kernel
theorem dX5_offer_26 : decode cX5_offer 26 = .ok (.bipush 40, 2) := by decide +kernel
theorem dX5_offer_28 : decode cX5_offer 28 = .ok (.invokestatic 80, 3) := by decide +kernel
theorem dX5_offer_31 : decode cX5_offer 31 = .ok (.ifCond .eq 13, 3) := by decide +kernel
theorem dX5_offer_34 : decode cX5_offer 34 = .ok (.iload_n 3, 1) := by decide +kernel
theorem dX5_offer_35 : decode cX5_offer 35 = .ok (.iconst 0, 1) := by decide +kernel
theorem dX5_offer_36 : decode cX5_offer 36 = .ok (.ldc 88, 2) := by decide +kernel
theorem dX5_offer_38 : decode cX5_offer 38 = .ok (.invokestatic 80, 3) := by decide +kernel
theorem dX5_offer_41 : decode cX5_offer 41 = .ok (.ifCond .ne 5, 3) := by decide +kernel
theorem dX5_offer_44 : decode cX5_offer 44 = .ok (.iconst (-1), 1) := by decide +kernel
theorem dX5_offer_45 : decode cX5_offer 45 = .ok (.ireturn, 1) := by decide +kernel
theorem dX5_offer_46 : decode cX5_offer 46 = .ok (.aload_n 0, 1) := by decide +kernel
theorem dX5_offer_47 : decode cX5_offer 47 = .ok (.getfield 19, 3) := by decide +kernel
theorem dX5_offer_50 : decode cX5_offer 50 = .ok (.iconst 0, 1) := by decide +kernel
theorem dX5_offer_51 : decode cX5_offer 51 = .ok (.iaload, 1) := by decide +kernel
theorem dX5_offer_52 : decode cX5_offer 52 = .ok (.istore 4, 2) := by decide +kernel
theorem dX5_offer_54 : decode cX5_offer 54 = .ok (.aload_n 0, 1) := by decide +kernel
theorem dX5_offer_55 : decode cX5_offer 55 = .ok (.getfield 19, 3) := by decide +kernel
theorem dX5_offer_58 : decode cX5_offer 58 = .ok (.iconst 0, 1) := by decide +kernel
theorem dX5_offer_59 : decode cX5_offer 59 = .ok (.dup2, 1) := by decide +kernel
theorem dX5_offer_60 : decode cX5_offer 60 = .ok (.iaload, 1) := by decide +kernel
theorem dX5_offer_61 : decode cX5_offer 61 = .ok (.iconst 1, 1) := by decide +kernel
theorem dX5_offer_62 : decode cX5_offer 62 = .ok (.iadd, 1) := by decide +kernel
theorem dX5_offer_63 : decode cX5_offer 63 = .ok (.iastore, 1) := by decide +kernel
theorem dX5_offer_64 : decode cX5_offer 64 = .ok (.aload_n 0, 1) := by decide +kernel
theorem dX5_offer_65 : decode cX5_offer 65 = .ok (.getfield 22, 3) := by decide +kernel
theorem dX5_offer_68 : decode cX5_offer 68 = .ok (.iload 4, 2) := by decide +kernel
theorem dX5_offer_70 : decode cX5_offer 70 = .ok (.iload_n 1, 1) := by decide +kernel
theorem dX5_offer_71 : decode cX5_offer 71 = .ok (.iastore, 1) := by decide +kernel
theorem dX5_offer_72 : decode cX5_offer 72 = .ok (.aload_n 0, 1) := by decide +kernel
theorem dX5_offer_73 : decode cX5_offer 73 = .ok (.getfield 25, 3) := by decide +kernel
theorem dX5_offer_76 : decode cX5_offer 76 = .ok (.iload 4, 2) := by decide +kernel
theorem dX5_offer_78 : decode cX5_offer 78 = .ok (.iload_n 2, 1) := by decide +kernel
theorem dX5_offer_79 : decode cX5_offer 79 = .ok (.iastore, 1) := by decide +kernel
theorem dX5_offer_80 : decode cX5_offer 80 = .ok (.aload_n 0, 1) := by decide +kernel
theorem dX5_offer_81 : decode cX5_offer 81 = .ok (.getfield 28, 3) := by decide +kernel
theorem dX5_offer_84 : decode cX5_offer 84 = .ok (.iload 4, 2) := by decide +kernel
theorem dX5_offer_86 : decode cX5_offer 86 = .ok (.iload_n 3, 1) := by decide +kernel
theorem dX5_offer_87 : decode cX5_offer 87 = .ok (.iastore, 1) := by decide +kernel
theorem dX5_offer_88 : decode cX5_offer 88 = .ok (.iload 4, 2) := by decide +kernel
theorem dX5_offer_90 : decode cX5_offer 90 = .ok (.ireturn, 1) := by decide +kernel
theorem dX5_reprice_0 : decode cX5_reprice 0 = .ok (.aload_n 0, 1) := by decide +kernel
theorem dX5_reprice_1 : decode cX5_reprice 1 = .ok (.iconst 0, 1) := by decide +kernel
theorem dX5_reprice_2 : decode cX5_reprice 2 = .ok (.putfield 72, 3) := by decide +kernel
theorem dX5_reprice_5 : decode cX5_reprice 5 = .ok (.aload_n 0, 1) := by decide +kernel
theorem dX5_reprice_6 : decode cX5_reprice 6 = .ok (.iload_n 1, 1) := by decide +kernel
theorem dX5_reprice_7 : decode cX5_reprice 7 = .ok (.invokevirtual 89, 3) := by decide +kernel
theorem dX5_reprice_10 : decode cX5_reprice 10 = .ok (.ifCond .eq 13, 3) := by decide +kernel
theorem dX5_reprice_13 : decode cX5_reprice 13 = .ok (.iload_n 2, 1) := by decide +kernel
theorem dX5_reprice_14 : decode cX5_reprice 14 = .ok (.iconst 0, 1) := by decide +kernel
theorem dX5_reprice_15 : decode cX5_reprice 15 = .ok (.ldc 88, 2) := by decide +kernel
theorem dX5_reprice_17 : decode cX5_reprice 17 = .ok (.invokestatic 80, 3) := by decide +kernel
theorem dX5_reprice_20 : decode cX5_reprice 20 = .ok (.ifCond .ne 5, 3) := by decide +kernel
theorem dX5_reprice_23 : decode cX5_reprice 23 = .ok (.iconst 0, 1) := by decide +kernel
theorem dX5_reprice_24 : decode cX5_reprice 24 = .ok (.ireturn, 1) := by decide +kernel
theorem dX5_reprice_25 : decode cX5_reprice 25 = .ok (.aload_n 0, 1) := by decide +kernel
theorem dX5_reprice_26 : decode cX5_reprice 26 = .ok (.getfield 28, 3) := by decide +kernel
theorem dX5_reprice_29 : decode cX5_reprice 29 = .ok (.iload_n 1, 1) := by decide +kernel
theorem dX5_reprice_30 : decode cX5_reprice 30 = .ok (.iload_n 2, 1) := by decide +kernel
theorem dX5_reprice_31 : decode cX5_reprice 31 = .ok (.iastore, 1) := by decide +kernel
theorem dX5_reprice_32 : decode cX5_reprice 32 = .ok (.iconst 1, 1) := by decide +kernel
theorem dX5_reprice_33 : decode cX5_reprice 33 = .ok (.ireturn, 1) := by decide +kernel
theorem dX5_need_0 : decode cX5_need 0 = .ok (.aload_n 0, 1) := by decide +kernel
theorem dX5_need_1 : decode cX5_need 1 = .ok (.iconst 0, 1) := by decide +kernel
theorem dX5_need_2 : decode cX5_need 2 = .ok (.putfield 72, 3) := by decide +kernel
theorem dX5_need_5 : decode cX5_need 5 = .ok (.iload_n 1, 1) := by decide +kernel
theorem dX5_need_6 : decode cX5_need 6 = .ok (.iconst 0, 1) := by decide +kernel
theorem dX5_need_7 : decode cX5_need 7 = .ok (.iconst 3, 1) := by decide +kernel
theorem dX5_need_8 : decode cX5_need 8 = .ok (.invokestatic 80, 3) := by decide +kernel
theorem dX5_need_11 : decode cX5_need 11 = .ok (.ifCond .eq 30, 3) := by decide +kernel
theorem dX5_need_14 : decode cX5_need 14 = .ok (.aload_n 0, 1) := by decide +kernel
theorem dX5_need_15 : decode cX5_need 15 = .ok (.iload_n 2, 1) := by decide +kernel
theorem dX5_need_16 : decode cX5_need 16 = .ok (.invokevirtual 84, 3) := by decide +kernel
theorem dX5_need_19 : decode cX5_need 19 = .ok (.ifCond .eq 22, 3) := by decide +kernel
theorem dX5_need_22 : decode cX5_need 22 = .ok (.aload_n 0, 1) := by decide +kernel
theorem dX5_need_23 : decode cX5_need 23 = .ok (.iload_n 3, 1) := by decide +kernel
theorem dX5_need_24 : decode cX5_need 24 = .ok (.invokevirtual 92, 3) := by decide +kernel
theorem dX5_need_27 : decode cX5_need 27 = .ok (.ifCond .eq 14, 3) := by decide +kernel
theorem dX5_need_30 : decode cX5_need 30 = .ok (.iload 4, 2) := by decide +kernel
theorem dX5_need_32 : decode cX5_need 32 = .ok (.iconst 0, 1) := by decide +kernel
theorem dX5_need_33 : decode cX5_need 33 = .ok (.bipush 9, 2) := by decide +kernel
theorem dX5_need_35 : decode cX5_need 35 = .ok (.invokestatic 80, 3) := by decide +kernel
theorem dX5_need_38 : decode cX5_need 38 = .ok (.ifCond .ne 5, 3) := by decide +kernel
theorem dX5_need_41 : decode cX5_need 41 = .ok (.iconst 0, 1) := by decide +kernel
theorem dX5_need_42 : decode cX5_need 42 = .ok (.ireturn, 1) := by decide +kernel
theorem dX5_need_43 : decode cX5_need 43 = .ok (.aload_n 0, 1) := by decide +kernel
theorem dX5_need_44 : decode cX5_need 44 = .ok (.getfield 31, 3) := by decide +kernel
theorem dX5_need_47 : decode cX5_need 47 = .ok (.iload_n 1, 1) := by decide +kernel
theorem dX5_need_48 : decode cX5_need 48 = .ok (.iload_n 2, 1) := by decide +kernel
theorem dX5_need_49 : decode cX5_need 49 = .ok (.iload_n 3, 1) := by decide +kernel
theorem dX5_need_50 : decode cX5_need 50 = .ok (.invokestatic 95, 3) := by decide +kernel
theorem dX5_need_53 : decode cX5_need 53 = .ok (.iload 4, 2) := by decide +kernel
theorem dX5_need_55 : decode cX5_need 55 = .ok (.iastore, 1) := by decide +kernel
theorem dX5_need_56 : decode cX5_need 56 = .ok (.iconst 1, 1) := by decide +kernel
theorem dX5_need_57 : decode cX5_need 57 = .ok (.ireturn, 1) := by decide +kernel
theorem dX5_needs_0 : decode cX5_needs 0 = .ok (.aload_n 0, 1) := by decide +kernel
theorem dX5_needs_1 : decode cX5_needs 1 = .ok (.iconst 0, 1) := by decide +kernel
theorem dX5_needs_2 : decode cX5_needs 2 = .ok (.putfield 72, 3) := by decide +kernel
theorem dX5_needs_5 : decode cX5_needs 5 = .ok (.iload_n 1, 1) := by decide +kernel
theorem dX5_needs_6 : decode cX5_needs 6 = .ok (.iconst 0, 1) := by decide +kernel
theorem dX5_needs_7 : decode cX5_needs 7 = .ok (.iconst 3, 1) := by decide +kernel
theorem dX5_needs_8 : decode cX5_needs 8 = .ok (.invokestatic 80, 3) := by decide +kernel
theorem dX5_needs_11 : decode cX5_needs 11 = .ok (.ifCond .eq 32, 3) := by decide +kernel
theorem dX5_needs_14 : decode cX5_needs 14 = .ok (.aload_n 0, 1) := by decide +kernel
theorem dX5_needs_15 : decode cX5_needs 15 = .ok (.iload_n 2, 1) := by decide +kernel
theorem dX5_needs_16 : decode cX5_needs 16 = .ok (.invokevirtual 84, 3) := by decide +kernel
theorem dX5_needs_19 : decode cX5_needs 19 = .ok (.ifCond .eq 24, 3) := by decide +kernel
theorem dX5_needs_22 : decode cX5_needs 22 = .ok (.iload_n 3, 1) := by decide +kernel
theorem dX5_needs_23 : decode cX5_needs 23 = .ok (.iconst 0, 1) := by decide +kernel
theorem dX5_needs_24 : decode cX5_needs 24 = .ok (.aload_n 0, 1) := by decide +kernel
theorem dX5_needs_25 : decode cX5_needs 25 = .ok (.getfield 7, 3) := by decide +kernel
theorem dX5_needs_28 : decode cX5_needs 28 = .ok (.iconst 0, 1) := by decide +kernel
theorem dX5_needs_29 : decode cX5_needs 29 = .ok (.iaload, 1) := by decide +kernel
theorem dX5_needs_30 : decode cX5_needs 30 = .ok (.bipush 8, 2) := by decide +kernel
theorem dX5_needs_32 : decode cX5_needs 32 = .ok (.isub, 1) := by decide +kernel
theorem dX5_needs_33 : decode cX5_needs 33 = .ok (.invokestatic 80, 3) := by decide +kernel
theorem dX5_needs_36 : decode cX5_needs 36 = .ok (.ifCond .eq 7, 3) := by decide +kernel
theorem dX5_needs_39 : decode cX5_needs 39 = .ok (.iconst 1, 1) := by decide +kernel
theorem dX5_needs_40 : decode cX5_needs 40 = .ok (.goto 4, 3) := by decide +kernel
theorem dX5_needs_43 : decode cX5_needs 43 = .ok (.iconst 0, 1) := by decide +kernel
theorem dX5_needs_44 : decode cX5_needs 44 = .ok (.istore 5, 2) := by decide +kernel
theorem dX5_needs_46 : decode cX5_needs 46 = .ok (.iconst 0, 1) := by decide +kernel
theorem dX5_needs_47 : decode cX5_needs 47 = .ok (.istore 6, 2) := by decide +kernel
theorem dX5_needs_49 : decode cX5_needs 49 = .ok (.iload 6, 2) := by decide +kernel
theorem dX5_needs_51 : decode cX5_needs 51 = .ok (.bipush 8, 2) := by decide +kernel
theorem dX5_needs_53 : decode cX5_needs 53 = .ok (.if_icmp .ge 39, 3) := by decide +kernel
theorem dX5_needs_56 : decode cX5_needs 56 = .ok (.iload 5, 2) := by decide +kernel
theorem dX5_needs_58 : decode cX5_needs 58 = .ok (.ifCond .eq 25, 3) := by decide +kernel
theorem dX5_needs_61 : decode cX5_needs 61 = .ok (.iload 4, 2) := by decide +kernel
theorem dX5_needs_63 : decode cX5_needs 63 = .ok (.bipush 28, 2) := by decide +kernel
theorem dX5_needs_65 : decode cX5_needs 65 = .ok (.iconst 4, 1) := by decide +kernel
theorem dX5_needs_66 : decode cX5_needs 66 = .ok (.iload 6, 2) := by decide +kernel
theorem dX5_needs_68 : decode cX5_needs 68 = .ok (.imul, 1) := by decide +kernel
theorem dX5_needs_69 : decode cX5_needs 69 = .ok (.isub, 1) := by decide +kernel
theorem dX5_needs_70 : decode cX5_needs 70 = .ok (.ishr, 1) := by decide +kernel
theorem dX5_needs_71 : decode cX5_needs 71 = .ok (.bipush 15, 2) := by decide +kernel
theorem dX5_needs_73 : decode cX5_needs 73 = .ok (.iand, 1) := by decide +kernel
theorem dX5_needs_74 : decode cX5_needs 74 = .ok (.bipush 10, 2) := by decide +kernel
theorem dX5_needs_76 : decode cX5_needs 76 = .ok (.if_icmp .ge 7, 3) := by decide +kernel
theorem dX5_needs_79 : decode cX5_needs 79 = .ok (.iconst 1, 1) := by decide +kernel
theorem dX5_needs_80 : decode cX5_needs 80 = .ok (.goto 4, 3) := by decide +kernel
theorem dX5_needs_83 : decode cX5_needs 83 = .ok (.iconst 0, 1) := by decide +kernel
theorem dX5_needs_84 : decode cX5_needs 84 = .ok (.istore 5, 2) := by decide +kernel
theorem dX5_needs_86 : decode cX5_needs 86 = .ok (.iinc 6 1, 3) := by decide +kernel
theorem dX5_needs_89 : decode cX5_needs 89 = .ok (.goto (-40), 3) := by decide +kernel
theorem dX5_needs_92 : decode cX5_needs 92 = .ok (.iconst 0, 1) := by decide +kernel
theorem dX5_needs_93 : decode cX5_needs 93 = .ok (.istore 6, 2) := by decide +kernel
theorem dX5_needs_95 : decode cX5_needs 95 = .ok (.iload 6, 2) := by decide +kernel
theorem dX5_needs_97 : decode cX5_needs 97 = .ok (.bipush 8, 2) := by decide +kernel
theorem dX5_needs_99 : decode cX5_needs 99 = .ok (.if_icmp .ge 41, 3) := by decide +kernel
theorem dX5_needs_102 : decode cX5_needs 102 = .ok (.iload 5, 2) := by decide +kernel
theorem dX5_needs_104 : decode cX5_needs 104 = .ok (.ifCond .eq 36, 3) := by decide +kernel
theorem dX5_needs_107 : decode cX5_needs 107 = .ok (.aload_n 0, 1) := by decide +kernel
theorem dX5_needs_108 : decode cX5_needs 108 = .ok (.getfield 31, 3) := by decide +kernel
theorem dX5_needs_111 : decode cX5_needs 111 = .ok (.iload_n 1, 1) := by decide +kernel
theorem dX5_needs_112 : decode cX5_needs 112 = .ok (.iload_n 2, 1) := by decide +kernel
theorem dX5_needs_113 : decode cX5_needs 113 = .ok (.iload_n 3, 1) := by decide +kernel
theorem dX5_needs_114 : decode cX5_needs 114 = .ok (.iload 6, 2) := by decide +kernel
theorem dX5_needs_116 : decode cX5_needs 116 = .ok (.iadd, 1) := by decide +kernel
theorem dX5_needs_117 : decode cX5_needs 117 = .ok (.invokestatic 95, 3) := by decide +kernel
theorem dX5_needs_120 : decode cX5_needs 120 = .ok (.iload 4, 2) := by decide +kernel
theorem dX5_needs_122 : decode cX5_needs 122 = .ok (.bipush 28, 2) := by decide +kernel
theorem dX5_needs_124 : decode cX5_needs 124 = .ok (.iconst 4, 1) := by decide +kernel
theorem dX5_needs_125 : decode cX5_needs 125 = .ok (.iload 6, 2) := by decide +kernel
theorem dX5_needs_127 : decode cX5_needs 127 = .ok (.imul, 1) := by decide +kernel
theorem dX5_needs_128 : decode cX5_needs 128 = .ok (.isub, 1) := by decide +kernel
theorem dX5_needs_129 : decode cX5_needs 129 = .ok (.ishr, 1) := by decide +kernel
theorem dX5_needs_130 : decode cX5_needs 130 = .ok (.bipush 15, 2) := by decide +kernel
theorem dX5_needs_132 : decode cX5_needs 132 = .ok (.iand, 1) := by decide +kernel
theorem dX5_needs_133 : decode cX5_needs 133 = .ok (.iastore, 1) := by decide +kernel
theorem dX5_needs_134 : decode cX5_needs 134 = .ok (.iinc 6 1, 3) := by decide +kernel
theorem dX5_needs_137 : decode cX5_needs 137 = .ok (.goto (-42), 3) := by decide +kernel
theorem dX5_needs_140 : decode cX5_needs 140 = .ok (.iload 5, 2) := by decide +kernel
theorem dX5_needs_142 : decode cX5_needs 142 = .ok (.ireturn, 1) := by decide +kernel
theorem dX5_buy_0 : decode cX5_buy 0 = .ok (.aload_n 0, 1) := by decide +kernel
theorem dX5_buy_1 : decode cX5_buy 1 = .ok (.iconst 0, 1) := by decide +kernel
theorem dX5_buy_2 : decode cX5_buy 2 = .ok (.putfield 72, 3) := by decide +kernel
theorem dX5_buy_5 : decode cX5_buy 5 = .ok (.aload_n 0, 1) := by decide +kernel
theorem dX5_buy_6 : decode cX5_buy 6 = .ok (.iload_n 1, 1) := by decide +kernel
theorem dX5_buy_7 : decode cX5_buy 7 = .ok (.invokevirtual 89, 3) := by decide +kernel
theorem dX5_buy_10 : decode cX5_buy 10 = .ok (.ifCond .eq 21, 3) := by decide +kernel
theorem dX5_buy_13 : decode cX5_buy 13 = .ok (.aload_n 0, 1) := by decide +kernel
theorem dX5_buy_14 : decode cX5_buy 14 = .ok (.iload_n 2, 1) := by decide +kernel
theorem dX5_buy_15 : decode cX5_buy 15 = .ok (.invokevirtual 92, 3) := by decide +kernel
theorem dX5_buy_18 : decode cX5_buy 18 = .ok (.ifCond .eq 13, 3) := by decide +kernel
theorem dX5_buy_21 : decode cX5_buy 21 = .ok (.iload_n 3, 1) := by decide +kernel
theorem dX5_buy_22 : decode cX5_buy 22 = .ok (.iconst 0, 1) := by decide +kernel
theorem dX5_buy_23 : decode cX5_buy 23 = .ok (.bipush 60, 2) := by decide +kernel
theorem dX5_buy_25 : decode cX5_buy 25 = .ok (.invokestatic 80, 3) := by decide +kernel
theorem dX5_buy_28 : decode cX5_buy 28 = .ok (.ifCond .ne 5, 3) := by decide +kernel
theorem dX5_buy_31 : decode cX5_buy 31 = .ok (.iconst 0, 1) := by decide +kernel
theorem dX5_buy_32 : decode cX5_buy 32 = .ok (.ireturn, 1) := by decide +kernel
theorem dX5_buy_33 : decode cX5_buy 33 = .ok (.aload_n 0, 1) := by decide +kernel
theorem dX5_buy_34 : decode cX5_buy 34 = .ok (.getfield 34, 3) := by decide +kernel
theorem dX5_buy_37 : decode cX5_buy 37 = .ok (.bipush 40, 2) := by decide +kernel
theorem dX5_buy_39 : decode cX5_buy 39 = .ok (.iload_n 1, 1) := by decide +kernel
theorem dX5_buy_40 : decode cX5_buy 40 = .ok (.imul, 1) := by decide +kernel
theorem dX5_buy_41 : decode cX5_buy 41 = .ok (.iload_n 2, 1) := by decide +kernel
theorem dX5_buy_42 : decode cX5_buy 42 = .ok (.iadd, 1) := by decide +kernel
theorem dX5_buy_43 : decode cX5_buy 43 = .ok (.iload_n 3, 1) := by decide +kernel
theorem dX5_buy_44 : decode cX5_buy 44 = .ok (.iastore, 1) := by decide +kernel
theorem dX5_buy_45 : decode cX5_buy 45 = .ok (.iconst 1, 1) := by decide +kernel
theorem dX5_buy_46 : decode cX5_buy 46 = .ok (.ireturn, 1) := by decide +kernel
theorem dX5_clearKind_0 : decode cX5_clearKind 0 = .ok (.iconst 0, 1) := by decide +kernel
theorem dX5_clearKind_1 : decode cX5_clearKind 1 = .ok (.istore_n 2, 1) := by decide +kernel
theorem dX5_clearKind_2 : decode cX5_clearKind 2 = .ok (.iload_n 2, 1) := by decide +kernel
theorem dX5_clearKind_3 : decode cX5_clearKind 3 = .ok (.aload_n 0, 1) := by decide +kernel
theorem dX5_clearKind_4 : decode cX5_clearKind 4 = .ok (.getfield 19, 3) := by decide +kernel
theorem dX5_clearKind_7 : decode cX5_clearKind 7 = .ok (.iconst 0, 1) := by decide +kernel
theorem dX5_clearKind_8 : decode cX5_clearKind 8 = .ok (.iaload, 1) := by decide +kernel
theorem dX5_clearKind_9 : decode cX5_clearKind 9 = .ok (.if_icmp .ge 45, 3) := by decide +kernel
theorem dX5_clearKind_12 : decode cX5_clearKind 12 = .ok (.iconst 0, 1) := by decide +kernel
theorem dX5_clearKind_13 : decode cX5_clearKind 13 = .ok (.istore_n 3, 1) := by decide +kernel
theorem dX5_clearKind_14 : decode cX5_clearKind 14 = .ok (.iload_n 3, 1) := by decide +kernel
theorem dX5_clearKind_15 : decode cX5_clearKind 15 = .ok (.bipush 40, 2) := by decide +kernel
theorem dX5_clearKind_17 : decode cX5_clearKind 17 = .ok (.if_icmp .ge 31, 3) := by decide +kernel
theorem dX5_clearKind_20 : decode cX5_clearKind 20 = .ok (.aload_n 0, 1) := by decide +kernel
theorem dX5_clearKind_21 : decode cX5_clearKind 21 = .ok (.getfield 22, 3) := by decide +kernel
theorem dX5_clearKind_24 : decode cX5_clearKind 24 = .ok (.iload_n 2, 1) := by decide +kernel
theorem dX5_clearKind_25 : decode cX5_clearKind 25 = .ok (.iaload, 1) := by decide +kernel
theorem dX5_clearKind_26 : decode cX5_clearKind 26 = .ok (.iload_n 1, 1) := by decide +kernel
theorem dX5_clearKind_27 : decode cX5_clearKind 27 = .ok (.if_icmp .ne 21, 3) := by decide +kernel
theorem dX5_clearKind_30 : decode cX5_clearKind 30 = .ok (.aload_n 0, 1) := by decide +kernel
theorem dX5_clearKind_31 : decode cX5_clearKind 31 = .ok (.getfield 34, 3) := by decide +kernel
theorem dX5_clearKind_34 : decode cX5_clearKind 34 = .ok (.bipush 40, 2) := by decide +kernel
theorem dX5_clearKind_36 : decode cX5_clearKind 36 = .ok (.iload_n 2, 1) := by decide +kernel
theorem dX5_clearKind_37 : decode cX5_clearKind 37 = .ok (.imul, 1) := by decide +kernel
theorem dX5_clearKind_38 : decode cX5_clearKind 38 = .ok (.iload_n 3, 1) := by decide +kernel
theorem dX5_clearKind_39 : decode cX5_clearKind 39 = .ok (.iadd, 1) := by decide +kernel
theorem dX5_clearKind_40 : decode cX5_clearKind 40 = .ok (.iconst 0, 1) := by decide +kernel
theorem dX5_clearKind_41 : decode cX5_clearKind 41 = .ok (.iastore, 1) := by decide +kernel
theorem dX5_clearKind_42 : decode cX5_clearKind 42 = .ok (.iinc 3 1, 3) := by decide +kernel
theorem dX5_clearKind_45 : decode cX5_clearKind 45 = .ok (.goto (-31), 3) := by decide +kernel
theorem dX5_clearKind_48 : decode cX5_clearKind 48 = .ok (.iinc 2 1, 3) := by decide +kernel
theorem dX5_clearKind_51 : decode cX5_clearKind 51 = .ok (.goto (-49), 3) := by decide +kernel
theorem dX5_clearKind_54 : decode cX5_clearKind 54 = .ok (.return_, 1) := by decide +kernel
theorem dX5_clear_0 : decode cX5_clear 0 = .ok (.aload_n 0, 1) := by decide +kernel
theorem dX5_clear_1 : decode cX5_clear 1 = .ok (.iconst 0, 1) := by decide +kernel
theorem dX5_clear_2 : decode cX5_clear 2 = .ok (.putfield 72, 3) := by decide +kernel
theorem dX5_clear_5 : decode cX5_clear 5 = .ok (.aload_n 0, 1) := by decide +kernel
theorem dX5_clear_6 : decode cX5_clear 6 = .ok (.iload_n 1, 1) := by decide +kernel
theorem dX5_clear_7 : decode cX5_clear 7 = .ok (.invokevirtual 84, 3) := by decide +kernel
theorem dX5_clear_10 : decode cX5_clear 10 = .ok (.ifCond .ne 5, 3) := by decide +kernel
theorem dX5_clear_13 : decode cX5_clear 13 = .ok (.iconst 0, 1) := by decide +kernel
theorem dX5_clear_14 : decode cX5_clear 14 = .ok (.ireturn, 1) := by decide +kernel
theorem dX5_clear_15 : decode cX5_clear 15 = .ok (.aload_n 0, 1) := by decide +kernel
theorem dX5_clear_16 : decode cX5_clear 16 = .ok (.iload_n 1, 1) := by decide +kernel
theorem dX5_clear_17 : decode cX5_clear 17 = .ok (.invokevirtual 99, 3) := by decide +kernel
theorem dX5_clear_20 : decode cX5_clear 20 = .ok (.iconst 1, 1) := by decide +kernel
theorem dX5_clear_21 : decode cX5_clear 21 = .ok (.ireturn, 1) := by decide +kernel
theorem dX5_needOf_0 : decode cX5_needOf 0 = .ok (.iconst 0, 1) := by decide +kernel
theorem dX5_needOf_1 : decode cX5_needOf 1 = .ok (.istore_n 3, 1) := by decide +kernel
theorem dX5_needOf_2 : decode cX5_needOf 2 = .ok (.iconst 0, 1) := by decide +kernel
theorem dX5_needOf_3 : decode cX5_needOf 3 = .ok (.istore 4, 2) := by decide +kernel
theorem dX5_needOf_5 : decode cX5_needOf 5 = .ok (.iload 4, 2) := by decide +kernel
theorem dX5_needOf_7 : decode cX5_needOf 7 = .ok (.iconst 4, 1) := by decide +kernel
theorem dX5_needOf_8 : decode cX5_needOf 8 = .ok (.if_icmp .ge 24, 3) := by decide +kernel
theorem dX5_needOf_11 : decode cX5_needOf 11 = .ok (.iload_n 3, 1) := by decide +kernel
theorem dX5_needOf_12 : decode cX5_needOf 12 = .ok (.aload_n 0, 1) := by decide +kernel
theorem dX5_needOf_13 : decode cX5_needOf 13 = .ok (.getfield 31, 3) := by decide +kernel
theorem dX5_needOf_16 : decode cX5_needOf 16 = .ok (.iload 4, 2) := by decide +kernel
theorem dX5_needOf_18 : decode cX5_needOf 18 = .ok (.iload_n 1, 1) := by decide +kernel
theorem dX5_needOf_19 : decode cX5_needOf 19 = .ok (.iload_n 2, 1) := by decide +kernel
theorem dX5_needOf_20 : decode cX5_needOf 20 = .ok (.invokestatic 95, 3) := by decide +kernel
theorem dX5_needOf_23 : decode cX5_needOf 23 = .ok (.iaload, 1) := by decide +kernel
theorem dX5_needOf_24 : decode cX5_needOf 24 = .ok (.iadd, 1) := by decide +kernel
theorem dX5_needOf_25 : decode cX5_needOf 25 = .ok (.istore_n 3, 1) := by decide +kernel
theorem dX5_needOf_26 : decode cX5_needOf 26 = .ok (.iinc 4 1, 3) := by decide +kernel
theorem dX5_needOf_29 : decode cX5_needOf 29 = .ok (.goto (-24), 3) := by decide +kernel
theorem dX5_needOf_32 : decode cX5_needOf 32 = .ok (.iload_n 3, 1) := by decide +kernel
theorem dX5_needOf_33 : decode cX5_needOf 33 = .ok (.ireturn, 1) := by decide +kernel
theorem dX5_aheadOf_0 : decode cX5_aheadOf 0 = .ok (.iconst 0, 1) := by decide +kernel
theorem dX5_aheadOf_1 : decode cX5_aheadOf 1 = .ok (.istore_n 3, 1) := by decide +kernel
theorem dX5_aheadOf_2 : decode cX5_aheadOf 2 = .ok (.iconst 0, 1) := by decide +kernel
theorem dX5_aheadOf_3 : decode cX5_aheadOf 3 = .ok (.istore 4, 2) := by decide +kernel
theorem dX5_aheadOf_5 : decode cX5_aheadOf 5 = .ok (.iload 4, 2) := by decide +kernel
theorem dX5_aheadOf_7 : decode cX5_aheadOf 7 = .ok (.aload_n 0, 1) := by decide +kernel
theorem dX5_aheadOf_8 : decode cX5_aheadOf 8 = .ok (.getfield 19, 3) := by decide +kernel
theorem dX5_aheadOf_11 : decode cX5_aheadOf 11 = .ok (.iconst 0, 1) := by decide +kernel
theorem dX5_aheadOf_12 : decode cX5_aheadOf 12 = .ok (.iaload, 1) := by decide +kernel
theorem dX5_aheadOf_13 : decode cX5_aheadOf 13 = .ok (.if_icmp .ge 69, 3) := by decide +kernel
theorem dX5_aheadOf_16 : decode cX5_aheadOf 16 = .ok (.iconst 0, 1) := by decide +kernel
theorem dX5_aheadOf_17 : decode cX5_aheadOf 17 = .ok (.istore 5, 2) := by decide +kernel
theorem dX5_aheadOf_19 : decode cX5_aheadOf 19 = .ok (.iload 5, 2) := by decide +kernel
theorem dX5_aheadOf_21 : decode cX5_aheadOf 21 = .ok (.iload_n 2, 1) := by decide +kernel
theorem dX5_aheadOf_22 : decode cX5_aheadOf 22 = .ok (.if_icmp .gt 54, 3) := by decide +kernel
theorem dX5_aheadOf_25 : decode cX5_aheadOf 25 = .ok (.aload_n 0, 1) := by decide +kernel
theorem dX5_aheadOf_26 : decode cX5_aheadOf 26 = .ok (.getfield 22, 3) := by decide +kernel
theorem dX5_aheadOf_29 : decode cX5_aheadOf 29 = .ok (.iload 4, 2) := by decide +kernel
theorem dX5_aheadOf_31 : decode cX5_aheadOf 31 = .ok (.iaload, 1) := by decide +kernel
theorem dX5_aheadOf_32 : decode cX5_aheadOf 32 = .ok (.iload_n 1, 1) := by decide +kernel
theorem dX5_aheadOf_33 : decode cX5_aheadOf 33 = .ok (.if_icmp .ne 43, 3) := by decide +kernel
theorem dX5_aheadOf_36 : decode cX5_aheadOf 36 = .ok (.iload_n 3, 1) := by decide +kernel
theorem dX5_aheadOf_37 : decode cX5_aheadOf 37 = .ok (.iload 5, 2) := by decide +kernel
theorem dX5_aheadOf_39 : decode cX5_aheadOf 39 = .ok (.aload_n 0, 1) := by decide +kernel
theorem dX5_aheadOf_40 : decode cX5_aheadOf 40 = .ok (.getfield 25, 3) := by decide +kernel
theorem dX5_aheadOf_43 : decode cX5_aheadOf 43 = .ok (.iload 4, 2) := by decide +kernel
theorem dX5_aheadOf_45 : decode cX5_aheadOf 45 = .ok (.iaload, 1) := by decide +kernel
theorem dX5_aheadOf_46 : decode cX5_aheadOf 46 = .ok (.iadd, 1) := by decide +kernel
theorem dX5_aheadOf_47 : decode cX5_aheadOf 47 = .ok (.iload_n 2, 1) := by decide +kernel
theorem dX5_aheadOf_48 : decode cX5_aheadOf 48 = .ok (.if_icmp .le 19, 3) := by decide +kernel
theorem dX5_aheadOf_51 : decode cX5_aheadOf 51 = .ok (.aload_n 0, 1) := by decide +kernel
theorem dX5_aheadOf_52 : decode cX5_aheadOf 52 = .ok (.getfield 34, 3) := by decide +kernel
theorem dX5_aheadOf_55 : decode cX5_aheadOf 55 = .ok (.bipush 40, 2) := by decide +kernel
theorem dX5_aheadOf_57 : decode cX5_aheadOf 57 = .ok (.iload 4, 2) := by decide +kernel
theorem dX5_aheadOf_59 : decode cX5_aheadOf 59 = .ok (.imul, 1) := by decide +kernel
theorem dX5_aheadOf_60 : decode cX5_aheadOf 60 = .ok (.iload 5, 2) := by decide +kernel
theorem dX5_aheadOf_62 : decode cX5_aheadOf 62 = .ok (.iadd, 1) := by decide +kernel
theorem dX5_aheadOf_63 : decode cX5_aheadOf 63 = .ok (.iaload, 1) := by decide +kernel
theorem dX5_aheadOf_64 : decode cX5_aheadOf 64 = .ok (.goto 4, 3) := by decide +kernel
theorem dX5_aheadOf_67 : decode cX5_aheadOf 67 = .ok (.iconst 0, 1) := by decide +kernel
theorem dX5_aheadOf_68 : decode cX5_aheadOf 68 = .ok (.iadd, 1) := by decide +kernel
theorem dX5_aheadOf_69 : decode cX5_aheadOf 69 = .ok (.istore_n 3, 1) := by decide +kernel
theorem dX5_aheadOf_70 : decode cX5_aheadOf 70 = .ok (.iinc 5 1, 3) := by decide +kernel
theorem dX5_aheadOf_73 : decode cX5_aheadOf 73 = .ok (.goto (-54), 3) := by decide +kernel
theorem dX5_aheadOf_76 : decode cX5_aheadOf 76 = .ok (.iinc 4 1, 3) := by decide +kernel
theorem dX5_aheadOf_79 : decode cX5_aheadOf 79 = .ok (.goto (-74), 3) := by decide +kernel
theorem dX5_aheadOf_82 : decode cX5_aheadOf 82 = .ok (.iload_n 3, 1) := by decide +kernel
theorem dX5_aheadOf_83 : decode cX5_aheadOf 83 = .ok (.ireturn, 1) := by decide +kernel
theorem dX5_besideOf_0 : decode cX5_besideOf 0 = .ok (.aload_n 0, 1) := by decide +kernel
theorem dX5_besideOf_1 : decode cX5_besideOf 1 = .ok (.iload_n 1, 1) := by decide +kernel
theorem dX5_besideOf_2 : decode cX5_besideOf 2 = .ok (.iload_n 2, 1) := by decide +kernel
theorem dX5_besideOf_3 : decode cX5_besideOf 3 = .ok (.invokevirtual 103, 3) := by decide +kernel
theorem dX5_besideOf_6 : decode cX5_besideOf 6 = .ok (.aload_n 0, 1) := by decide +kernel
theorem dX5_besideOf_7 : decode cX5_besideOf 7 = .ok (.iload_n 1, 1) := by decide +kernel
theorem dX5_besideOf_8 : decode cX5_besideOf 8 = .ok (.iload_n 2, 1) := by decide +kernel
theorem dX5_besideOf_9 : decode cX5_besideOf 9 = .ok (.invokevirtual 107, 3) := by decide +kernel
theorem dX5_besideOf_12 : decode cX5_besideOf 12 = .ok (.isub, 1) := by decide +kernel
theorem dX5_besideOf_13 : decode cX5_besideOf 13 = .ok (.istore_n 3, 1) := by decide +kernel
theorem dX5_besideOf_14 : decode cX5_besideOf 14 = .ok (.iload_n 3, 1) := by decide +kernel
theorem dX5_besideOf_15 : decode cX5_besideOf 15 = .ok (.ifCond .ge 7, 3) := by decide +kernel
theorem dX5_besideOf_18 : decode cX5_besideOf 18 = .ok (.iconst 0, 1) := by decide +kernel
theorem dX5_besideOf_19 : decode cX5_besideOf 19 = .ok (.goto 4, 3) := by decide +kernel
theorem dX5_besideOf_22 : decode cX5_besideOf 22 = .ok (.iload_n 3, 1) := by decide +kernel
theorem dX5_besideOf_23 : decode cX5_besideOf 23 = .ok (.ireturn, 1) := by decide +kernel
theorem dX5_tell_0 : decode cX5_tell 0 = .ok (.aload_n 0, 1) := by decide +kernel
theorem dX5_tell_1 : decode cX5_tell 1 = .ok (.iconst 0, 1) := by decide +kernel
theorem dX5_tell_2 : decode cX5_tell 2 = .ok (.putfield 72, 3) := by decide +kernel
theorem dX5_tell_5 : decode cX5_tell 5 = .ok (.aload_n 0, 1) := by decide +kernel
theorem dX5_tell_6 : decode cX5_tell 6 = .ok (.iload_n 1, 1) := by decide +kernel
theorem dX5_tell_7 : decode cX5_tell 7 = .ok (.invokevirtual 84, 3) := by decide +kernel
theorem dX5_tell_10 : decode cX5_tell 10 = .ok (.ifCond .eq 11, 3) := by decide +kernel
theorem dX5_tell_13 : decode cX5_tell 13 = .ok (.aload_n 0, 1) := by decide +kernel
theorem dX5_tell_14 : decode cX5_tell 14 = .ok (.iload_n 2, 1) := by decide +kernel
theorem dX5_tell_15 : decode cX5_tell 15 = .ok (.invokevirtual 92, 3) := by decide +kernel
theorem dX5_tell_18 : decode cX5_tell 18 = .ok (.ifCond .ne 5, 3) := by decide +kernel
theorem dX5_tell_21 : decode cX5_tell 21 = .ok (.iconst (-1), 1) := by decide +kernel
theorem dX5_tell_22 : decode cX5_tell 22 = .ok (.ireturn, 1) := by decide +kernel
theorem dX5_tell_23 : decode cX5_tell 23 = .ok (.iload_n 3, 1) := by decide +kernel
theorem dX5_tell_24 : decode cX5_tell 24 = .ok (.tableswitch 74 0 3 #[32, 39, 46, 53], 32) := by decide +kernel
theorem dX5_tell_56 : decode cX5_tell 56 = .ok (.aload_n 0, 1) := by decide +kernel
theorem dX5_tell_57 : decode cX5_tell 57 = .ok (.iload_n 1, 1) := by decide +kernel
theorem dX5_tell_58 : decode cX5_tell 58 = .ok (.iload_n 2, 1) := by decide +kernel
theorem dX5_tell_59 : decode cX5_tell 59 = .ok (.invokevirtual 103, 3) := by decide +kernel
theorem dX5_tell_62 : decode cX5_tell 62 = .ok (.ireturn, 1) := by decide +kernel
theorem dX5_tell_63 : decode cX5_tell 63 = .ok (.aload_n 0, 1) := by decide +kernel
theorem dX5_tell_64 : decode cX5_tell 64 = .ok (.iload_n 1, 1) := by decide +kernel
theorem dX5_tell_65 : decode cX5_tell 65 = .ok (.iload_n 2, 1) := by decide +kernel
theorem dX5_tell_66 : decode cX5_tell 66 = .ok (.invokevirtual 107, 3) := by decide +kernel
theorem dX5_tell_69 : decode cX5_tell 69 = .ok (.ireturn, 1) := by decide +kernel
theorem dX5_tell_70 : decode cX5_tell 70 = .ok (.aload_n 0, 1) := by decide +kernel
theorem dX5_tell_71 : decode cX5_tell 71 = .ok (.iload_n 1, 1) := by decide +kernel
theorem dX5_tell_72 : decode cX5_tell 72 = .ok (.iload_n 2, 1) := by decide +kernel
theorem dX5_tell_73 : decode cX5_tell 73 = .ok (.invokevirtual 110, 3) := by decide +kernel
theorem dX5_tell_76 : decode cX5_tell 76 = .ok (.ireturn, 1) := by decide +kernel
theorem dX5_tell_77 : decode cX5_tell 77 = .ok (.aload_n 0, 1) := by decide +kernel
theorem dX5_tell_78 : decode cX5_tell 78 = .ok (.iload_n 1, 1) := by decide +kernel
theorem dX5_tell_79 : decode cX5_tell 79 = .ok (.iload_n 2, 1) := by decide +kernel
theorem dX5_tell_80 : decode cX5_tell 80 = .ok (.invokevirtual 110, 3) := by decide +kernel
theorem dX5_tell_83 : decode cX5_tell 83 = .ok (.aload_n 0, 1) := by decide +kernel
theorem dX5_tell_84 : decode cX5_tell 84 = .ok (.iload_n 1, 1) := by decide +kernel
theorem dX5_tell_85 : decode cX5_tell 85 = .ok (.iload_n 2, 1) := by decide +kernel
theorem dX5_tell_86 : decode cX5_tell 86 = .ok (.invokevirtual 107, 3) := by decide +kernel
theorem dX5_tell_89 : decode cX5_tell 89 = .ok (.iadd, 1) := by decide +kernel
theorem dX5_tell_90 : decode cX5_tell 90 = .ok (.aload_n 0, 1) := by decide +kernel
theorem dX5_tell_91 : decode cX5_tell 91 = .ok (.iload_n 1, 1) := by decide +kernel
theorem dX5_tell_92 : decode cX5_tell 92 = .ok (.iload_n 2, 1) := by decide +kernel
theorem dX5_tell_93 : decode cX5_tell 93 = .ok (.invokevirtual 103, 3) := by decide +kernel
theorem dX5_tell_96 : decode cX5_tell 96 = .ok (.isub, 1) := by decide +kernel
theorem dX5_tell_97 : decode cX5_tell 97 = .ok (.ireturn, 1) := by decide +kernel
theorem dX5_tell_98 : decode cX5_tell 98 = .ok (.iload_n 3, 1) := by decide +kernel
theorem dX5_tell_99 : decode cX5_tell 99 = .ok (.bipush 10, 2) := by decide +kernel
theorem dX5_tell_101 : decode cX5_tell 101 = .ok (.bipush 13, 2) := by decide +kernel
theorem dX5_tell_103 : decode cX5_tell 103 = .ok (.invokestatic 80, 3) := by decide +kernel
theorem dX5_tell_106 : decode cX5_tell 106 = .ok (.ifCond .eq 18, 3) := by decide +kernel
theorem dX5_tell_109 : decode cX5_tell 109 = .ok (.aload_n 0, 1) := by decide +kernel
theorem dX5_tell_110 : decode cX5_tell 110 = .ok (.getfield 31, 3) := by decide +kernel
theorem dX5_tell_113 : decode cX5_tell 113 = .ok (.iload_n 3, 1) := by decide +kernel
theorem dX5_tell_114 : decode cX5_tell 114 = .ok (.bipush 10, 2) := by decide +kernel
theorem dX5_tell_116 : decode cX5_tell 116 = .ok (.isub, 1) := by decide +kernel
theorem dX5_tell_117 : decode cX5_tell 117 = .ok (.iload_n 1, 1) := by decide +kernel
theorem dX5_tell_118 : decode cX5_tell 118 = .ok (.iload_n 2, 1) := by decide +kernel
theorem dX5_tell_119 : decode cX5_tell 119 = .ok (.invokestatic 95, 3) := by decide +kernel
theorem dX5_tell_122 : decode cX5_tell 122 = .ok (.iaload, 1) := by decide +kernel
theorem dX5_tell_123 : decode cX5_tell 123 = .ok (.ireturn, 1) := by decide +kernel
theorem dX5_tell_124 : decode cX5_tell 124 = .ok (.aload_n 0, 1) := by decide +kernel
theorem dX5_tell_125 : decode cX5_tell 125 = .ok (.iload_n 3, 1) := by decide +kernel
theorem dX5_tell_126 : decode cX5_tell 126 = .ok (.bipush 20, 2) := by decide +kernel
theorem dX5_tell_128 : decode cX5_tell 128 = .ok (.isub, 1) := by decide +kernel
theorem dX5_tell_129 : decode cX5_tell 129 = .ok (.invokevirtual 89, 3) := by decide +kernel
theorem dX5_tell_132 : decode cX5_tell 132 = .ok (.ifCond .eq 33, 3) := by decide +kernel
theorem dX5_tell_135 : decode cX5_tell 135 = .ok (.aload_n 0, 1) := by decide +kernel
theorem dX5_tell_136 : decode cX5_tell 136 = .ok (.getfield 22, 3) := by decide +kernel
theorem dX5_tell_139 : decode cX5_tell 139 = .ok (.iload_n 3, 1) := by decide +kernel
theorem dX5_tell_140 : decode cX5_tell 140 = .ok (.bipush 20, 2) := by decide +kernel
theorem dX5_tell_142 : decode cX5_tell 142 = .ok (.isub, 1) := by decide +kernel
theorem dX5_tell_143 : decode cX5_tell 143 = .ok (.iaload, 1) := by decide +kernel
theorem dX5_tell_144 : decode cX5_tell 144 = .ok (.iload_n 1, 1) := by decide +kernel
theorem dX5_tell_145 : decode cX5_tell 145 = .ok (.if_icmp .ne 20, 3) := by decide +kernel
theorem dX5_tell_148 : decode cX5_tell 148 = .ok (.aload_n 0, 1) := by decide +kernel
theorem dX5_tell_149 : decode cX5_tell 149 = .ok (.getfield 34, 3) := by decide +kernel
theorem dX5_tell_152 : decode cX5_tell 152 = .ok (.bipush 40, 2) := by decide +kernel
theorem dX5_tell_154 : decode cX5_tell 154 = .ok (.iload_n 3, 1) := by decide +kernel
theorem dX5_tell_155 : decode cX5_tell 155 = .ok (.bipush 20, 2) := by decide +kernel
theorem dX5_tell_157 : decode cX5_tell 157 = .ok (.isub, 1) := by decide +kernel
theorem dX5_tell_158 : decode cX5_tell 158 = .ok (.imul, 1) := by decide +kernel
theorem dX5_tell_159 : decode cX5_tell 159 = .ok (.iload_n 2, 1) := by decide +kernel
theorem dX5_tell_160 : decode cX5_tell 160 = .ok (.iadd, 1) := by decide +kernel
theorem dX5_tell_161 : decode cX5_tell 161 = .ok (.iaload, 1) := by decide +kernel
theorem dX5_tell_162 : decode cX5_tell 162 = .ok (.goto 4, 3) := by decide +kernel
theorem dX5_tell_165 : decode cX5_tell 165 = .ok (.iconst (-1), 1) := by decide +kernel
theorem dX5_tell_166 : decode cX5_tell 166 = .ok (.ireturn, 1) := by decide +kernel
theorem dX5_offersCost_0 : decode cX5_offersCost 0 = .ok (.lconst 0, 1) := by decide +kernel
theorem dX5_offersCost_1 : decode cX5_offersCost 1 = .ok (.lstore_n 2, 1) := by decide +kernel
theorem dX5_offersCost_2 : decode cX5_offersCost 2 = .ok (.iconst 0, 1) := by decide +kernel
theorem dX5_offersCost_3 : decode cX5_offersCost 3 = .ok (.istore 4, 2) := by decide +kernel
theorem dX5_offersCost_5 : decode cX5_offersCost 5 = .ok (.iload 4, 2) := by decide +kernel
theorem dX5_offersCost_7 : decode cX5_offersCost 7 = .ok (.aload_n 0, 1) := by decide +kernel
theorem dX5_offersCost_8 : decode cX5_offersCost 8 = .ok (.getfield 19, 3) := by decide +kernel
theorem dX5_offersCost_11 : decode cX5_offersCost 11 = .ok (.iconst 0, 1) := by decide +kernel
theorem dX5_offersCost_12 : decode cX5_offersCost 12 = .ok (.iaload, 1) := by decide +kernel
theorem dX5_offersCost_13 : decode cX5_offersCost 13 = .ok (.if_icmp .ge 66, 3) := by decide +kernel
theorem dX5_offersCost_16 : decode cX5_offersCost 16 = .ok (.iconst 0, 1) := by decide +kernel
theorem dX5_offersCost_17 : decode cX5_offersCost 17 = .ok (.istore 5, 2) := by decide +kernel
theorem dX5_offersCost_19 : decode cX5_offersCost 19 = .ok (.iload 5, 2) := by decide +kernel
theorem dX5_offersCost_21 : decode cX5_offersCost 21 = .ok (.aload_n 0, 1) := by decide +kernel
theorem dX5_offersCost_22 : decode cX5_offersCost 22 = .ok (.getfield 7, 3) := by decide +kernel
theorem dX5_offersCost_25 : decode cX5_offersCost 25 = .ok (.iconst 0, 1) := by decide +kernel
theorem dX5_offersCost_26 : decode cX5_offersCost 26 = .ok (.iaload, 1) := by decide +kernel
theorem dX5_offersCost_27 : decode cX5_offersCost 27 = .ok (.if_icmp .ge 46, 3) := by decide +kernel
theorem dX5_offersCost_30 : decode cX5_offersCost 30 = .ok (.aload_n 0, 1) := by decide +kernel
theorem dX5_offersCost_31 : decode cX5_offersCost 31 = .ok (.getfield 22, 3) := by decide +kernel
theorem dX5_offersCost_34 : decode cX5_offersCost 34 = .ok (.iload 4, 2) := by decide +kernel
theorem dX5_offersCost_36 : decode cX5_offersCost 36 = .ok (.iaload, 1) := by decide +kernel
theorem dX5_offersCost_37 : decode cX5_offersCost 37 = .ok (.iload_n 1, 1) := by decide +kernel
theorem dX5_offersCost_38 : decode cX5_offersCost 38 = .ok (.if_icmp .ne 35, 3) := by decide +kernel
theorem dX5_offersCost_41 : decode cX5_offersCost 41 = .ok (.lload_n 2, 1) := by decide +kernel
theorem dX5_offersCost_42 : decode cX5_offersCost 42 = .ok (.aload_n 0, 1) := by decide +kernel
theorem dX5_offersCost_43 : decode cX5_offersCost 43 = .ok (.getfield 28, 3) := by decide +kernel
theorem dX5_offersCost_46 : decode cX5_offersCost 46 = .ok (.iload 4, 2) := by decide +kernel
theorem dX5_offersCost_48 : decode cX5_offersCost 48 = .ok (.iaload, 1) := by decide +kernel
theorem dX5_offersCost_49 : decode cX5_offersCost 49 = .ok (.i2l, 1) := by decide +kernel
theorem dX5_offersCost_50 : decode cX5_offersCost 50 = .ok (.aload_n 0, 1) := by decide +kernel
theorem dX5_offersCost_51 : decode cX5_offersCost 51 = .ok (.getfield 34, 3) := by decide +kernel
theorem dX5_offersCost_54 : decode cX5_offersCost 54 = .ok (.bipush 40, 2) := by decide +kernel
theorem dX5_offersCost_56 : decode cX5_offersCost 56 = .ok (.iload 4, 2) := by decide +kernel
theorem dX5_offersCost_58 : decode cX5_offersCost 58 = .ok (.imul, 1) := by decide +kernel
theorem dX5_offersCost_59 : decode cX5_offersCost 59 = .ok (.iload 5, 2) := by decide +kernel
theorem dX5_offersCost_61 : decode cX5_offersCost 61 = .ok (.iadd, 1) := by decide +kernel
theorem dX5_offersCost_62 : decode cX5_offersCost 62 = .ok (.iaload, 1) := by decide +kernel
theorem dX5_offersCost_63 : decode cX5_offersCost 63 = .ok (.i2l, 1) := by decide +kernel
theorem dX5_offersCost_64 : decode cX5_offersCost 64 = .ok (.lmul, 1) := by decide +kernel
theorem dX5_offersCost_65 : decode cX5_offersCost 65 = .ok (.ladd, 1) := by decide +kernel
theorem dX5_offersCost_66 : decode cX5_offersCost 66 = .ok (.lstore_n 2, 1) := by decide +kernel
theorem dX5_offersCost_67 : decode cX5_offersCost 67 = .ok (.iinc 5 1, 3) := by decide +kernel
theorem dX5_offersCost_70 : decode cX5_offersCost 70 = .ok (.goto (-51), 3) := by decide +kernel
theorem dX5_offersCost_73 : decode cX5_offersCost 73 = .ok (.iinc 4 1, 3) := by decide +kernel
theorem dX5_offersCost_76 : decode cX5_offersCost 76 = .ok (.goto (-71), 3) := by decide +kernel
theorem dX5_offersCost_79 : decode cX5_offersCost 79 = .ok (.lload_n 2, 1) := by decide +kernel
theorem dX5_offersCost_80 : decode cX5_offersCost 80 = .ok (.lreturn, 1) := by decide +kernel
theorem dX5_planCost_0 : decode cX5_planCost 0 = .ok (.aload_n 0, 1) := by decide +kernel
theorem dX5_planCost_1 : decode cX5_planCost 1 = .ok (.iload_n 1, 1) := by decide +kernel
theorem dX5_planCost_2 : decode cX5_planCost 2 = .ok (.invokevirtual 113, 3) := by decide +kernel
theorem dX5_planCost_5 : decode cX5_planCost 5 = .ok (.lstore_n 2, 1) := by decide +kernel
theorem dX5_planCost_6 : decode cX5_planCost 6 = .ok (.iconst 0, 1) := by decide +kernel
theorem dX5_planCost_7 : decode cX5_planCost 7 = .ok (.istore 4, 2) := by decide +kernel
theorem dX5_planCost_9 : decode cX5_planCost 9 = .ok (.iload 4, 2) := by decide +kernel
theorem dX5_planCost_11 : decode cX5_planCost 11 = .ok (.aload_n 0, 1) := by decide +kernel
theorem dX5_planCost_12 : decode cX5_planCost 12 = .ok (.getfield 7, 3) := by decide +kernel
theorem dX5_planCost_15 : decode cX5_planCost 15 = .ok (.iconst 0, 1) := by decide +kernel
theorem dX5_planCost_16 : decode cX5_planCost 16 = .ok (.iaload, 1) := by decide +kernel
theorem dX5_planCost_17 : decode cX5_planCost 17 = .ok (.if_icmp .ge 28, 3) := by decide +kernel
theorem dX5_planCost_20 : decode cX5_planCost 20 = .ok (.lload_n 2, 1) := by decide +kernel
theorem dX5_planCost_21 : decode cX5_planCost 21 = .ok (.aload_n 0, 1) := by decide +kernel
theorem dX5_planCost_22 : decode cX5_planCost 22 = .ok (.getfield 16, 3) := by decide +kernel
theorem dX5_planCost_25 : decode cX5_planCost 25 = .ok (.iload_n 1, 1) := by decide +kernel
theorem dX5_planCost_26 : decode cX5_planCost 26 = .ok (.iaload, 1) := by decide +kernel
theorem dX5_planCost_27 : decode cX5_planCost 27 = .ok (.i2l, 1) := by decide +kernel
theorem dX5_planCost_28 : decode cX5_planCost 28 = .ok (.aload_n 0, 1) := by decide +kernel
theorem dX5_planCost_29 : decode cX5_planCost 29 = .ok (.iload_n 1, 1) := by decide +kernel
theorem dX5_planCost_30 : decode cX5_planCost 30 = .ok (.iload 4, 2) := by decide +kernel
theorem dX5_planCost_32 : decode cX5_planCost 32 = .ok (.invokevirtual 110, 3) := by decide +kernel
theorem dX5_planCost_35 : decode cX5_planCost 35 = .ok (.i2l, 1) := by decide +kernel
theorem dX5_planCost_36 : decode cX5_planCost 36 = .ok (.lmul, 1) := by decide +kernel
theorem dX5_planCost_37 : decode cX5_planCost 37 = .ok (.ladd, 1) := by decide +kernel
theorem dX5_planCost_38 : decode cX5_planCost 38 = .ok (.lstore_n 2, 1) := by decide +kernel
theorem dX5_planCost_39 : decode cX5_planCost 39 = .ok (.iinc 4 1, 3) := by decide +kernel
theorem dX5_planCost_42 : decode cX5_planCost 42 = .ok (.goto (-33), 3) := by decide +kernel
theorem dX5_planCost_45 : decode cX5_planCost 45 = .ok (.lload_n 2, 1) := by decide +kernel
theorem dX5_planCost_46 : decode cX5_planCost 46 = .ok (.lreturn, 1) := by decide +kernel
theorem dX5_cost_0 : decode cX5_cost 0 = .ok (.aload_n 0, 1) := by decide +kernel
theorem dX5_cost_1 : decode cX5_cost 1 = .ok (.iconst 0, 1) := by decide +kernel
theorem dX5_cost_2 : decode cX5_cost 2 = .ok (.putfield 72, 3) := by decide +kernel
theorem dX5_cost_5 : decode cX5_cost 5 = .ok (.aload_n 0, 1) := by decide +kernel
theorem dX5_cost_6 : decode cX5_cost 6 = .ok (.iload_n 1, 1) := by decide +kernel
theorem dX5_cost_7 : decode cX5_cost 7 = .ok (.invokevirtual 84, 3) := by decide +kernel
theorem dX5_cost_10 : decode cX5_cost 10 = .ok (.ifCond .eq 11, 3) := by decide +kernel
theorem dX5_cost_13 : decode cX5_cost 13 = .ok (.aload_n 0, 1) := by decide +kernel
theorem dX5_cost_14 : decode cX5_cost 14 = .ok (.iload_n 1, 1) := by decide +kernel
theorem dX5_cost_15 : decode cX5_cost 15 = .ok (.invokevirtual 117, 3) := by decide +kernel
theorem dX5_cost_18 : decode cX5_cost 18 = .ok (.goto 6, 3) := by decide +kernel
theorem dX5_cost_21 : decode cX5_cost 21 = .ok (.ldc2_w 120, 3) := by decide +kernel
theorem dX5_cost_24 : decode cX5_cost 24 = .ok (.lreturn, 1) := by decide +kernel
theorem dX5_shorter_0 : decode cX5_shorter 0 = .ok (.aload_n 0, 1) := by decide +kernel
theorem dX5_shorter_1 : decode cX5_shorter 1 = .ok (.getfield 37, 3) := by decide +kernel
theorem dX5_shorter_4 : decode cX5_shorter 4 = .ok (.bipush 41, 2) := by decide +kernel
theorem dX5_shorter_6 : decode cX5_shorter 6 = .ok (.iload_n 1, 1) := by decide +kernel
theorem dX5_shorter_7 : decode cX5_shorter 7 = .ok (.imul, 1) := by decide +kernel
theorem dX5_shorter_8 : decode cX5_shorter 8 = .ok (.iload_n 2, 1) := by decide +kernel
theorem dX5_shorter_9 : decode cX5_shorter 9 = .ok (.iadd, 1) := by decide +kernel
theorem dX5_shorter_10 : decode cX5_shorter 10 = .ok (.iload_n 3, 1) := by decide +kernel
theorem dX5_shorter_11 : decode cX5_shorter 11 = .ok (.aload_n 0, 1) := by decide +kernel
theorem dX5_shorter_12 : decode cX5_shorter 12 = .ok (.getfield 37, 3) := by decide +kernel
theorem dX5_shorter_15 : decode cX5_shorter 15 = .ok (.bipush 41, 2) := by decide +kernel
theorem dX5_shorter_17 : decode cX5_shorter 17 = .ok (.iload_n 1, 1) := by decide +kernel
theorem dX5_shorter_18 : decode cX5_shorter 18 = .ok (.imul, 1) := by decide +kernel
theorem dX5_shorter_19 : decode cX5_shorter 19 = .ok (.iload_n 2, 1) := by decide +kernel
theorem dX5_shorter_20 : decode cX5_shorter 20 = .ok (.iadd, 1) := by decide +kernel
theorem dX5_shorter_21 : decode cX5_shorter 21 = .ok (.iaload, 1) := by decide +kernel
theorem dX5_shorter_22 : decode cX5_shorter 22 = .ok (.if_icmp .ge 7, 3) := by decide +kernel
theorem dX5_shorter_25 : decode cX5_shorter 25 = .ok (.iload_n 3, 1) := by decide +kernel
theorem dX5_shorter_26 : decode cX5_shorter 26 = .ok (.goto 14, 3) := by decide +kernel
theorem dX5_shorter_29 : decode cX5_shorter 29 = .ok (.aload_n 0, 1) := by decide +kernel
theorem dX5_shorter_30 : decode cX5_shorter 30 = .ok (.getfield 37, 3) := by decide +kernel
theorem dX5_shorter_33 : decode cX5_shorter 33 = .ok (.bipush 41, 2) := by decide +kernel
theorem dX5_shorter_35 : decode cX5_shorter 35 = .ok (.iload_n 1, 1) := by decide +kernel
theorem dX5_shorter_36 : decode cX5_shorter 36 = .ok (.imul, 1) := by decide +kernel
theorem dX5_shorter_37 : decode cX5_shorter 37 = .ok (.iload_n 2, 1) := by decide +kernel
theorem dX5_shorter_38 : decode cX5_shorter 38 = .ok (.iadd, 1) := by decide +kernel
theorem dX5_shorter_39 : decode cX5_shorter 39 = .ok (.iaload, 1) := by decide +kernel
theorem dX5_shorter_40 : decode cX5_shorter 40 = .ok (.iastore, 1) := by decide +kernel
theorem dX5_shorter_41 : decode cX5_shorter 41 = .ok (.return_, 1) := by decide +kernel
theorem dX5_findWays_0 : decode cX5_findWays 0 = .ok (.aload_n 0, 1) := by decide +kernel
theorem dX5_findWays_1 : decode cX5_findWays 1 = .ok (.getfield 7, 3) := by decide +kernel
theorem dX5_findWays_4 : decode cX5_findWays 4 = .ok (.iconst 0, 1) := by decide +kernel
theorem dX5_findWays_5 : decode cX5_findWays 5 = .ok (.iaload, 1) := by decide +kernel
theorem dX5_findWays_6 : decode cX5_findWays 6 = .ok (.istore_n 2, 1) := by decide +kernel
theorem dX5_findWays_7 : decode cX5_findWays 7 = .ok (.iconst 0, 1) := by decide +kernel
theorem dX5_findWays_8 : decode cX5_findWays 8 = .ok (.istore_n 3, 1) := by decide +kernel
theorem dX5_findWays_9 : decode cX5_findWays 9 = .ok (.iload_n 3, 1) := by decide +kernel
theorem dX5_findWays_10 : decode cX5_findWays 10 = .ok (.iload_n 2, 1) := by decide +kernel
theorem dX5_findWays_11 : decode cX5_findWays 11 = .ok (.if_icmp .gt 48, 3) := by decide +kernel
theorem dX5_findWays_14 : decode cX5_findWays 14 = .ok (.iconst 0, 1) := by decide +kernel
theorem dX5_findWays_15 : decode cX5_findWays 15 = .ok (.istore 4, 2) := by decide +kernel
theorem dX5_findWays_17 : decode cX5_findWays 17 = .ok (.iload 4, 2) := by decide +kernel
theorem dX5_findWays_19 : decode cX5_findWays 19 = .ok (.iload_n 2, 1) := by decide +kernel
theorem dX5_findWays_20 : decode cX5_findWays 20 = .ok (.if_icmp .gt 33, 3) := by decide +kernel
theorem dX5_findWays_23 : decode cX5_findWays 23 = .ok (.aload_n 0, 1) := by decide +kernel
theorem dX5_findWays_24 : decode cX5_findWays 24 = .ok (.getfield 37, 3) := by decide +kernel
theorem dX5_findWays_27 : decode cX5_findWays 27 = .ok (.bipush 41, 2) := by decide +kernel
theorem dX5_findWays_29 : decode cX5_findWays 29 = .ok (.iload_n 3, 1) := by decide +kernel
theorem dX5_findWays_30 : decode cX5_findWays 30 = .ok (.imul, 1) := by decide +kernel
theorem dX5_findWays_31 : decode cX5_findWays 31 = .ok (.iload 4, 2) := by decide +kernel
theorem dX5_findWays_33 : decode cX5_findWays 33 = .ok (.iadd, 1) := by decide +kernel
theorem dX5_findWays_34 : decode cX5_findWays 34 = .ok (.iload_n 3, 1) := by decide +kernel
theorem dX5_findWays_35 : decode cX5_findWays 35 = .ok (.iload 4, 2) := by decide +kernel
theorem dX5_findWays_37 : decode cX5_findWays 37 = .ok (.if_icmp .ne 7, 3) := by decide +kernel
theorem dX5_findWays_40 : decode cX5_findWays 40 = .ok (.iconst 0, 1) := by decide +kernel
theorem dX5_findWays_41 : decode cX5_findWays 41 = .ok (.goto 5, 3) := by decide +kernel
theorem dX5_findWays_44 : decode cX5_findWays 44 = .ok (.ldc 122, 2) := by decide +kernel
theorem dX5_findWays_46 : decode cX5_findWays 46 = .ok (.iastore, 1) := by decide +kernel
theorem dX5_findWays_47 : decode cX5_findWays 47 = .ok (.iinc 4 1, 3) := by decide +kernel
theorem dX5_findWays_50 : decode cX5_findWays 50 = .ok (.goto (-33), 3) := by decide +kernel
theorem dX5_findWays_53 : decode cX5_findWays 53 = .ok (.iinc 3 1, 3) := by decide +kernel
theorem dX5_findWays_56 : decode cX5_findWays 56 = .ok (.goto (-47), 3) := by decide +kernel
theorem dX5_findWays_59 : decode cX5_findWays 59 = .ok (.iconst 0, 1) := by decide +kernel
theorem dX5_findWays_60 : decode cX5_findWays 60 = .ok (.istore_n 3, 1) := by decide +kernel
theorem dX5_findWays_61 : decode cX5_findWays 61 = .ok (.iload_n 3, 1) := by decide +kernel
theorem dX5_findWays_62 : decode cX5_findWays 62 = .ok (.iload_n 2, 1) := by decide +kernel
theorem dX5_findWays_63 : decode cX5_findWays 63 = .ok (.if_icmp .ge 101, 3) := by decide +kernel
theorem dX5_findWays_66 : decode cX5_findWays 66 = .ok (.aload_n 0, 1) := by decide +kernel
theorem dX5_findWays_67 : decode cX5_findWays 67 = .ok (.iload_n 3, 1) := by decide +kernel
theorem dX5_findWays_68 : decode cX5_findWays 68 = .ok (.iload_n 3, 1) := by decide +kernel
theorem dX5_findWays_69 : decode cX5_findWays 69 = .ok (.iconst 1, 1) := by decide +kernel
theorem dX5_findWays_70 : decode cX5_findWays 70 = .ok (.iadd, 1) := by decide +kernel
theorem dX5_findWays_71 : decode cX5_findWays 71 = .ok (.aload_n 0, 1) := by decide +kernel
theorem dX5_findWays_72 : decode cX5_findWays 72 = .ok (.getfield 16, 3) := by decide +kernel
theorem dX5_findWays_75 : decode cX5_findWays 75 = .ok (.iload_n 1, 1) := by decide +kernel
theorem dX5_findWays_76 : decode cX5_findWays 76 = .ok (.iaload, 1) := by decide +kernel
theorem dX5_findWays_77 : decode cX5_findWays 77 = .ok (.invokevirtual 123, 3) := by decide +kernel
theorem dX5_findWays_80 : decode cX5_findWays 80 = .ok (.aload_n 0, 1) := by decide +kernel
theorem dX5_findWays_81 : decode cX5_findWays 81 = .ok (.iload_n 3, 1) := by decide +kernel
theorem dX5_findWays_82 : decode cX5_findWays 82 = .ok (.iconst 1, 1) := by decide +kernel
theorem dX5_findWays_83 : decode cX5_findWays 83 = .ok (.iadd, 1) := by decide +kernel
theorem dX5_findWays_84 : decode cX5_findWays 84 = .ok (.iload_n 3, 1) := by decide +kernel
theorem dX5_findWays_85 : decode cX5_findWays 85 = .ok (.iconst 0, 1) := by decide +kernel
theorem dX5_findWays_86 : decode cX5_findWays 86 = .ok (.invokevirtual 123, 3) := by decide +kernel
theorem dX5_findWays_89 : decode cX5_findWays 89 = .ok (.iconst 0, 1) := by decide +kernel
theorem dX5_findWays_90 : decode cX5_findWays 90 = .ok (.istore 4, 2) := by decide +kernel
theorem dX5_findWays_92 : decode cX5_findWays 92 = .ok (.iload 4, 2) := by decide +kernel
theorem dX5_findWays_94 : decode cX5_findWays 94 = .ok (.aload_n 0, 1) := by decide +kernel
theorem dX5_findWays_95 : decode cX5_findWays 95 = .ok (.getfield 19, 3) := by decide +kernel
theorem dX5_findWays_98 : decode cX5_findWays 98 = .ok (.iconst 0, 1) := by decide +kernel
theorem dX5_findWays_99 : decode cX5_findWays 99 = .ok (.iaload, 1) := by decide +kernel
theorem dX5_findWays_100 : decode cX5_findWays 100 = .ok (.if_icmp .ge 58, 3) := by decide +kernel
theorem dX5_findWays_103 : decode cX5_findWays 103 = .ok (.aload_n 0, 1) := by decide +kernel
theorem dX5_findWays_104 : decode cX5_findWays 104 = .ok (.getfield 22, 3) := by decide +kernel
theorem dX5_findWays_107 : decode cX5_findWays 107 = .ok (.iload 4, 2) := by decide +kernel
theorem dX5_findWays_109 : decode cX5_findWays 109 = .ok (.iaload, 1) := by decide +kernel
theorem dX5_findWays_110 : decode cX5_findWays 110 = .ok (.iload_n 1, 1) := by decide +kernel
theorem dX5_findWays_111 : decode cX5_findWays 111 = .ok (.if_icmp .ne 41, 3) := by decide +kernel
theorem dX5_findWays_114 : decode cX5_findWays 114 = .ok (.aload_n 0, 1) := by decide +kernel
theorem dX5_findWays_115 : decode cX5_findWays 115 = .ok (.iload_n 3, 1) := by decide +kernel
theorem dX5_findWays_116 : decode cX5_findWays 116 = .ok (.iload_n 3, 1) := by decide +kernel
theorem dX5_findWays_117 : decode cX5_findWays 117 = .ok (.aload_n 0, 1) := by decide +kernel
theorem dX5_findWays_118 : decode cX5_findWays 118 = .ok (.getfield 25, 3) := by decide +kernel
theorem dX5_findWays_121 : decode cX5_findWays 121 = .ok (.iload 4, 2) := by decide +kernel
theorem dX5_findWays_123 : decode cX5_findWays 123 = .ok (.iaload, 1) := by decide +kernel
theorem dX5_findWays_124 : decode cX5_findWays 124 = .ok (.iadd, 1) := by decide +kernel
theorem dX5_findWays_125 : decode cX5_findWays 125 = .ok (.iload_n 2, 1) := by decide +kernel
theorem dX5_findWays_126 : decode cX5_findWays 126 = .ok (.if_icmp .ge 15, 3) := by decide +kernel
theorem dX5_findWays_129 : decode cX5_findWays 129 = .ok (.iload_n 3, 1) := by decide +kernel
theorem dX5_findWays_130 : decode cX5_findWays 130 = .ok (.aload_n 0, 1) := by decide +kernel
theorem dX5_findWays_131 : decode cX5_findWays 131 = .ok (.getfield 25, 3) := by decide +kernel
theorem dX5_findWays_134 : decode cX5_findWays 134 = .ok (.iload 4, 2) := by decide +kernel
theorem dX5_findWays_136 : decode cX5_findWays 136 = .ok (.iaload, 1) := by decide +kernel
theorem dX5_findWays_137 : decode cX5_findWays 137 = .ok (.iadd, 1) := by decide +kernel
theorem dX5_findWays_138 : decode cX5_findWays 138 = .ok (.goto 4, 3) := by decide +kernel
theorem dX5_findWays_141 : decode cX5_findWays 141 = .ok (.iload_n 2, 1) := by decide +kernel
theorem dX5_findWays_142 : decode cX5_findWays 142 = .ok (.aload_n 0, 1) := by decide +kernel
theorem dX5_findWays_143 : decode cX5_findWays 143 = .ok (.getfield 28, 3) := by decide +kernel
theorem dX5_findWays_146 : decode cX5_findWays 146 = .ok (.iload 4, 2) := by decide +kernel
theorem dX5_findWays_148 : decode cX5_findWays 148 = .ok (.iaload, 1) := by decide +kernel
theorem dX5_findWays_149 : decode cX5_findWays 149 = .ok (.invokevirtual 123, 3) := by decide +kernel
theorem dX5_findWays_152 : decode cX5_findWays 152 = .ok (.iinc 4 1, 3) := by decide +kernel
theorem dX5_findWays_155 : decode cX5_findWays 155 = .ok (.goto (-63), 3) := by decide +kernel
theorem dX5_findWays_158 : decode cX5_findWays 158 = .ok (.iinc 3 1, 3) := by decide +kernel
theorem dX5_findWays_161 : decode cX5_findWays 161 = .ok (.goto (-100), 3) := by decide +kernel
theorem dX5_findWays_164 : decode cX5_findWays 164 = .ok (.iconst 0, 1) := by decide +kernel
theorem dX5_findWays_165 : decode cX5_findWays 165 = .ok (.istore_n 3, 1) := by decide +kernel
theorem dX5_findWays_166 : decode cX5_findWays 166 = .ok (.iload_n 3, 1) := by decide +kernel
theorem dX5_findWays_167 : decode cX5_findWays 167 = .ok (.iload_n 2, 1) := by decide +kernel
theorem dX5_findWays_168 : decode cX5_findWays 168 = .ok (.if_icmp .gt 72, 3) := by decide +kernel
theorem dX5_findWays_171 : decode cX5_findWays 171 = .ok (.iconst 0, 1) := by decide +kernel
theorem dX5_findWays_172 : decode cX5_findWays 172 = .ok (.istore 4, 2) := by decide +kernel
theorem dX5_findWays_174 : decode cX5_findWays 174 = .ok (.iload 4, 2) := by decide +kernel
theorem dX5_findWays_176 : decode cX5_findWays 176 = .ok (.iload_n 2, 1) := by decide +kernel
theorem dX5_findWays_177 : decode cX5_findWays 177 = .ok (.if_icmp .gt 57, 3) := by decide +kernel
theorem dX5_findWays_180 : decode cX5_findWays 180 = .ok (.iconst 0, 1) := by decide +kernel
theorem dX5_findWays_181 : decode cX5_findWays 181 = .ok (.istore 5, 2) := by decide +kernel
theorem dX5_findWays_183 : decode cX5_findWays 183 = .ok (.iload 5, 2) := by decide +kernel
theorem dX5_findWays_185 : decode cX5_findWays 185 = .ok (.iload_n 2, 1) := by decide +kernel
theorem dX5_findWays_186 : decode cX5_findWays 186 = .ok (.if_icmp .gt 42, 3) := by decide +kernel
theorem dX5_findWays_189 : decode cX5_findWays 189 = .ok (.aload_n 0, 1) := by decide +kernel
theorem dX5_findWays_190 : decode cX5_findWays 190 = .ok (.iload 4, 2) := by decide +kernel
theorem dX5_findWays_192 : decode cX5_findWays 192 = .ok (.iload 5, 2) := by decide +kernel
theorem dX5_findWays_194 : decode cX5_findWays 194 = .ok (.aload_n 0, 1) := by decide +kernel
theorem dX5_findWays_195 : decode cX5_findWays 195 = .ok (.getfield 37, 3) := by decide +kernel
theorem dX5_findWays_198 : decode cX5_findWays 198 = .ok (.bipush 41, 2) := by decide +kernel
theorem dX5_findWays_200 : decode cX5_findWays 200 = .ok (.iload 4, 2) := by decide +kernel
theorem dX5_findWays_202 : decode cX5_findWays 202 = .ok (.imul, 1) := by decide +kernel
theorem dX5_findWays_203 : decode cX5_findWays 203 = .ok (.iload_n 3, 1) := by decide +kernel
theorem dX5_findWays_204 : decode cX5_findWays 204 = .ok (.iadd, 1) := by decide +kernel
theorem dX5_findWays_205 : decode cX5_findWays 205 = .ok (.iaload, 1) := by decide +kernel
theorem dX5_findWays_206 : decode cX5_findWays 206 = .ok (.aload_n 0, 1) := by decide +kernel
theorem dX5_findWays_207 : decode cX5_findWays 207 = .ok (.getfield 37, 3) := by decide +kernel
theorem dX5_findWays_210 : decode cX5_findWays 210 = .ok (.bipush 41, 2) := by decide +kernel
theorem dX5_findWays_212 : decode cX5_findWays 212 = .ok (.iload_n 3, 1) := by decide +kernel
theorem dX5_findWays_213 : decode cX5_findWays 213 = .ok (.imul, 1) := by decide +kernel
theorem dX5_findWays_214 : decode cX5_findWays 214 = .ok (.iload 5, 2) := by decide +kernel
theorem dX5_findWays_216 : decode cX5_findWays 216 = .ok (.iadd, 1) := by decide +kernel
theorem dX5_findWays_217 : decode cX5_findWays 217 = .ok (.iaload, 1) := by decide +kernel
theorem dX5_findWays_218 : decode cX5_findWays 218 = .ok (.iadd, 1) := by decide +kernel
theorem dX5_findWays_219 : decode cX5_findWays 219 = .ok (.invokevirtual 123, 3) := by decide +kernel
theorem dX5_findWays_222 : decode cX5_findWays 222 = .ok (.iinc 5 1, 3) := by decide +kernel
theorem dX5_findWays_225 : decode cX5_findWays 225 = .ok (.goto (-42), 3) := by decide +kernel
theorem dX5_findWays_228 : decode cX5_findWays 228 = .ok (.iinc 4 1, 3) := by decide +kernel
theorem dX5_findWays_231 : decode cX5_findWays 231 = .ok (.goto (-57), 3) := by decide +kernel
theorem dX5_findWays_234 : decode cX5_findWays 234 = .ok (.iinc 3 1, 3) := by decide +kernel
theorem dX5_findWays_237 : decode cX5_findWays 237 = .ok (.goto (-71), 3) := by decide +kernel
theorem dX5_findWays_240 : decode cX5_findWays 240 = .ok (.return_, 1) := by decide +kernel
theorem dX5_findSends_0 : decode cX5_findSends 0 = .ok (.aload_n 0, 1) := by decide +kernel
theorem dX5_findSends_1 : decode cX5_findSends 1 = .ok (.getfield 7, 3) := by decide +kernel
theorem dX5_findSends_4 : decode cX5_findSends 4 = .ok (.iconst 0, 1) := by decide +kernel
theorem dX5_findSends_5 : decode cX5_findSends 5 = .ok (.iaload, 1) := by decide +kernel
theorem dX5_findSends_6 : decode cX5_findSends 6 = .ok (.istore 4, 2) := by decide +kernel
theorem dX5_findSends_8 : decode cX5_findSends 8 = .ok (.iconst 0, 1) := by decide +kernel
theorem dX5_findSends_9 : decode cX5_findSends 9 = .ok (.istore 5, 2) := by decide +kernel
theorem dX5_findSends_11 : decode cX5_findSends 11 = .ok (.iconst 0, 1) := by decide +kernel
theorem dX5_findSends_12 : decode cX5_findSends 12 = .ok (.istore 6, 2) := by decide +kernel
theorem dX5_findSends_14 : decode cX5_findSends 14 = .ok (.iload 6, 2) := by decide +kernel
theorem dX5_findSends_16 : decode cX5_findSends 16 = .ok (.iload 4, 2) := by decide +kernel
theorem dX5_findSends_18 : decode cX5_findSends 18 = .ok (.if_icmp .gt 70, 3) := by decide +kernel
theorem dX5_findSends_21 : decode cX5_findSends 21 = .ok (.iload 6, 2) := by decide +kernel
theorem dX5_findSends_23 : decode cX5_findSends 23 = .ok (.iload 4, 2) := by decide +kernel
theorem dX5_findSends_25 : decode cX5_findSends 25 = .ok (.if_icmp .ge 25, 3) := by decide +kernel
theorem dX5_findSends_28 : decode cX5_findSends 28 = .ok (.aload_n 0, 1) := by decide +kernel
theorem dX5_findSends_29 : decode cX5_findSends 29 = .ok (.iload_n 1, 1) := by decide +kernel
theorem dX5_findSends_30 : decode cX5_findSends 30 = .ok (.iload 6, 2) := by decide +kernel
theorem dX5_findSends_32 : decode cX5_findSends 32 = .ok (.invokevirtual 103, 3) := by decide +kernel
theorem dX5_findSends_35 : decode cX5_findSends 35 = .ok (.iload 6, 2) := by decide +kernel
theorem dX5_findSends_37 : decode cX5_findSends 37 = .ok (.iload_n 2, 1) := by decide +kernel
theorem dX5_findSends_38 : decode cX5_findSends 38 = .ok (.if_icmp .ne 7, 3) := by decide +kernel
theorem dX5_findSends_41 : decode cX5_findSends 41 = .ok (.iload_n 3, 1) := by decide +kernel
theorem dX5_findSends_42 : decode cX5_findSends 42 = .ok (.goto 4, 3) := by decide +kernel
theorem dX5_findSends_45 : decode cX5_findSends 45 = .ok (.iconst 0, 1) := by decide +kernel
theorem dX5_findSends_46 : decode cX5_findSends 46 = .ok (.iadd, 1) := by decide +kernel
theorem dX5_findSends_47 : decode cX5_findSends 47 = .ok (.goto 4, 3) := by decide +kernel
theorem dX5_findSends_50 : decode cX5_findSends 50 = .ok (.iconst 0, 1) := by decide +kernel
theorem dX5_findSends_51 : decode cX5_findSends 51 = .ok (.istore 7, 2) := by decide +kernel
theorem dX5_findSends_53 : decode cX5_findSends 53 = .ok (.iload 7, 2) := by decide +kernel
theorem dX5_findSends_55 : decode cX5_findSends 55 = .ok (.ifCond .ge 7, 3) := by decide +kernel
theorem dX5_findSends_58 : decode cX5_findSends 58 = .ok (.iconst 0, 1) := by decide +kernel
theorem dX5_findSends_59 : decode cX5_findSends 59 = .ok (.goto 5, 3) := by decide +kernel
theorem dX5_findSends_62 : decode cX5_findSends 62 = .ok (.iload 7, 2) := by decide +kernel
theorem dX5_findSends_64 : decode cX5_findSends 64 = .ok (.istore 7, 2) := by decide +kernel
theorem dX5_findSends_66 : decode cX5_findSends 66 = .ok (.aload_n 0, 1) := by decide +kernel
theorem dX5_findSends_67 : decode cX5_findSends 67 = .ok (.getfield 40, 3) := by decide +kernel
theorem dX5_findSends_70 : decode cX5_findSends 70 = .ok (.iload 6, 2) := by decide +kernel
theorem dX5_findSends_72 : decode cX5_findSends 72 = .ok (.iload 7, 2) := by decide +kernel
theorem dX5_findSends_74 : decode cX5_findSends 74 = .ok (.iload 5, 2) := by decide +kernel
theorem dX5_findSends_76 : decode cX5_findSends 76 = .ok (.isub, 1) := by decide +kernel
theorem dX5_findSends_77 : decode cX5_findSends 77 = .ok (.iastore, 1) := by decide +kernel
theorem dX5_findSends_78 : decode cX5_findSends 78 = .ok (.iload 7, 2) := by decide +kernel
theorem dX5_findSends_80 : decode cX5_findSends 80 = .ok (.istore 5, 2) := by decide +kernel
theorem dX5_findSends_82 : decode cX5_findSends 82 = .ok (.iinc 6 1, 3) := by decide +kernel
theorem dX5_findSends_85 : decode cX5_findSends 85 = .ok (.goto (-71), 3) := by decide +kernel
theorem dX5_findSends_88 : decode cX5_findSends 88 = .ok (.return_, 1) := by decide +kernel
theorem dX5_nextEnd_0 : decode cX5_nextEnd 0 = .ok (.aload_n 0, 1) := by decide +kernel
theorem dX5_nextEnd_1 : decode cX5_nextEnd 1 = .ok (.getfield 7, 3) := by decide +kernel
theorem dX5_nextEnd_4 : decode cX5_nextEnd 4 = .ok (.iconst 0, 1) := by decide +kernel
theorem dX5_nextEnd_5 : decode cX5_nextEnd 5 = .ok (.iaload, 1) := by decide +kernel
theorem dX5_nextEnd_6 : decode cX5_nextEnd 6 = .ok (.istore_n 1, 1) := by decide +kernel
theorem dX5_nextEnd_7 : decode cX5_nextEnd 7 = .ok (.iconst 0, 1) := by decide +kernel
theorem dX5_nextEnd_8 : decode cX5_nextEnd 8 = .ok (.istore_n 2, 1) := by decide +kernel
theorem dX5_nextEnd_9 : decode cX5_nextEnd 9 = .ok (.iload_n 2, 1) := by decide +kernel
theorem dX5_nextEnd_10 : decode cX5_nextEnd 10 = .ok (.iload_n 1, 1) := by decide +kernel
theorem dX5_nextEnd_11 : decode cX5_nextEnd 11 = .ok (.if_icmp .gt 37, 3) := by decide +kernel
theorem dX5_nextEnd_14 : decode cX5_nextEnd 14 = .ok (.aload_n 0, 1) := by decide +kernel
theorem dX5_nextEnd_15 : decode cX5_nextEnd 15 = .ok (.getfield 49, 3) := by decide +kernel
theorem dX5_nextEnd_18 : decode cX5_nextEnd 18 = .ok (.iload_n 2, 1) := by decide +kernel
theorem dX5_nextEnd_19 : decode cX5_nextEnd 19 = .ok (.aload_n 0, 1) := by decide +kernel
theorem dX5_nextEnd_20 : decode cX5_nextEnd 20 = .ok (.getfield 43, 3) := by decide +kernel
theorem dX5_nextEnd_23 : decode cX5_nextEnd 23 = .ok (.iload_n 2, 1) := by decide +kernel
theorem dX5_nextEnd_24 : decode cX5_nextEnd 24 = .ok (.iaload, 1) := by decide +kernel
theorem dX5_nextEnd_25 : decode cX5_nextEnd 25 = .ok (.ifCond .le 7, 3) := by decide +kernel
theorem dX5_nextEnd_28 : decode cX5_nextEnd 28 = .ok (.iconst 0, 1) := by decide +kernel
theorem dX5_nextEnd_29 : decode cX5_nextEnd 29 = .ok (.goto 5, 3) := by decide +kernel
theorem dX5_nextEnd_32 : decode cX5_nextEnd 32 = .ok (.ldc 122, 2) := by decide +kernel
theorem dX5_nextEnd_34 : decode cX5_nextEnd 34 = .ok (.iastore, 1) := by decide +kernel
theorem dX5_nextEnd_35 : decode cX5_nextEnd 35 = .ok (.aload_n 0, 1) := by decide +kernel
theorem dX5_nextEnd_36 : decode cX5_nextEnd 36 = .ok (.getfield 52, 3) := by decide +kernel
theorem dX5_nextEnd_39 : decode cX5_nextEnd 39 = .ok (.iload_n 2, 1) := by decide +kernel
theorem dX5_nextEnd_40 : decode cX5_nextEnd 40 = .ok (.iconst (-1), 1) := by decide +kernel
theorem dX5_nextEnd_41 : decode cX5_nextEnd 41 = .ok (.iastore, 1) := by decide +kernel
theorem dX5_nextEnd_42 : decode cX5_nextEnd 42 = .ok (.iinc 2 1, 3) := by decide +kernel
theorem dX5_nextEnd_45 : decode cX5_nextEnd 45 = .ok (.goto (-36), 3) := by decide +kernel
theorem dX5_nextEnd_48 : decode cX5_nextEnd 48 = .ok (.iconst 1, 1) := by decide +kernel
theorem dX5_nextEnd_49 : decode cX5_nextEnd 49 = .ok (.istore_n 2, 1) := by decide +kernel
theorem dX5_nextEnd_50 : decode cX5_nextEnd 50 = .ok (.iload_n 2, 1) := by decide +kernel
theorem dX5_nextEnd_51 : decode cX5_nextEnd 51 = .ok (.ifCond .eq 220, 3) := by decide +kernel
theorem dX5_nextEnd_54 : decode cX5_nextEnd 54 = .ok (.iconst 0, 1) := by decide +kernel
theorem dX5_nextEnd_55 : decode cX5_nextEnd 55 = .ok (.istore_n 2, 1) := by decide +kernel
theorem dX5_nextEnd_56 : decode cX5_nextEnd 56 = .ok (.iconst 0, 1) := by decide +kernel
theorem dX5_nextEnd_57 : decode cX5_nextEnd 57 = .ok (.istore_n 3, 1) := by decide +kernel
theorem dX5_nextEnd_58 : decode cX5_nextEnd 58 = .ok (.iload_n 3, 1) := by decide +kernel
theorem dX5_nextEnd_59 : decode cX5_nextEnd 59 = .ok (.iload_n 1, 1) := by decide +kernel
theorem dX5_nextEnd_60 : decode cX5_nextEnd 60 = .ok (.if_icmp .gt 208, 3) := by decide +kernel
theorem dX5_nextEnd_63 : decode cX5_nextEnd 63 = .ok (.iconst 0, 1) := by decide +kernel
theorem dX5_nextEnd_64 : decode cX5_nextEnd 64 = .ok (.istore 4, 2) := by decide +kernel
theorem dX5_nextEnd_66 : decode cX5_nextEnd 66 = .ok (.iload 4, 2) := by decide +kernel
theorem dX5_nextEnd_68 : decode cX5_nextEnd 68 = .ok (.iload_n 1, 1) := by decide +kernel
theorem dX5_nextEnd_69 : decode cX5_nextEnd 69 = .ok (.if_icmp .gt 193, 3) := by decide +kernel
theorem dX5_nextEnd_72 : decode cX5_nextEnd 72 = .ok (.aload_n 0, 1) := by decide +kernel
theorem dX5_nextEnd_73 : decode cX5_nextEnd 73 = .ok (.getfield 49, 3) := by decide +kernel
theorem dX5_nextEnd_76 : decode cX5_nextEnd 76 = .ok (.iload_n 3, 1) := by decide +kernel
theorem dX5_nextEnd_77 : decode cX5_nextEnd 77 = .ok (.iaload, 1) := by decide +kernel
theorem dX5_nextEnd_78 : decode cX5_nextEnd 78 = .ok (.ldc 122, 2) := by decide +kernel
theorem dX5_nextEnd_80 : decode cX5_nextEnd 80 = .ok (.if_icmp .ge 176, 3) := by decide +kernel
theorem dX5_nextEnd_83 : decode cX5_nextEnd 83 = .ok (.iload_n 3, 1) := by decide +kernel
theorem dX5_nextEnd_84 : decode cX5_nextEnd 84 = .ok (.iload 4, 2) := by decide +kernel
theorem dX5_nextEnd_86 : decode cX5_nextEnd 86 = .ok (.if_icmp .ne 6, 3) := by decide +kernel
theorem dX5_nextEnd_89 : decode cX5_nextEnd 89 = .ok (.goto 167, 3) := by decide +kernel
theorem dX5_nextEnd_92 : decode cX5_nextEnd 92 = .ok (.aload_n 0, 1) := by decide +kernel
theorem dX5_nextEnd_93 : decode cX5_nextEnd 93 = .ok (.getfield 40, 3) := by decide +kernel
theorem dX5_nextEnd_96 : decode cX5_nextEnd 96 = .ok (.iload_n 3, 1) := by decide +kernel
theorem dX5_nextEnd_97 : decode cX5_nextEnd 97 = .ok (.iaload, 1) := by decide +kernel
theorem dX5_nextEnd_98 : decode cX5_nextEnd 98 = .ok (.ifCond .le 17, 3) := by decide +kernel
theorem dX5_nextEnd_101 : decode cX5_nextEnd 101 = .ok (.aload_n 0, 1) := by decide +kernel
theorem dX5_nextEnd_102 : decode cX5_nextEnd 102 = .ok (.getfield 40, 3) := by decide +kernel
theorem dX5_nextEnd_105 : decode cX5_nextEnd 105 = .ok (.iload 4, 2) := by decide +kernel
theorem dX5_nextEnd_107 : decode cX5_nextEnd 107 = .ok (.iaload, 1) := by decide +kernel
theorem dX5_nextEnd_108 : decode cX5_nextEnd 108 = .ok (.ifCond .ge 7, 3) := by decide +kernel
theorem dX5_nextEnd_111 : decode cX5_nextEnd 111 = .ok (.iconst 1, 1) := by decide +kernel
theorem dX5_nextEnd_112 : decode cX5_nextEnd 112 = .ok (.goto 4, 3) := by decide +kernel
theorem dX5_nextEnd_115 : decode cX5_nextEnd 115 = .ok (.iconst 0, 1) := by decide +kernel
theorem dX5_nextEnd_116 : decode cX5_nextEnd 116 = .ok (.istore 5, 2) := by decide +kernel
theorem dX5_nextEnd_118 : decode cX5_nextEnd 118 = .ok (.aload_n 0, 1) := by decide +kernel
theorem dX5_nextEnd_119 : decode cX5_nextEnd 119 = .ok (.getfield 40, 3) := by decide +kernel
theorem dX5_nextEnd_122 : decode cX5_nextEnd 122 = .ok (.iload_n 3, 1) := by decide +kernel
theorem dX5_nextEnd_123 : decode cX5_nextEnd 123 = .ok (.iaload, 1) := by decide +kernel
theorem dX5_nextEnd_124 : decode cX5_nextEnd 124 = .ok (.ifCond .ge 32, 3) := by decide +kernel
theorem dX5_nextEnd_127 : decode cX5_nextEnd 127 = .ok (.aload_n 0, 1) := by decide +kernel
theorem dX5_nextEnd_128 : decode cX5_nextEnd 128 = .ok (.getfield 40, 3) := by decide +kernel
theorem dX5_nextEnd_131 : decode cX5_nextEnd 131 = .ok (.iload 4, 2) := by decide +kernel
theorem dX5_nextEnd_133 : decode cX5_nextEnd 133 = .ok (.iaload, 1) := by decide +kernel
theorem dX5_nextEnd_134 : decode cX5_nextEnd 134 = .ok (.ifCond .le 22, 3) := by decide +kernel
theorem dX5_nextEnd_137 : decode cX5_nextEnd 137 = .ok (.aload_n 0, 1) := by decide +kernel
theorem dX5_nextEnd_138 : decode cX5_nextEnd 138 = .ok (.getfield 46, 3) := by decide +kernel
theorem dX5_nextEnd_141 : decode cX5_nextEnd 141 = .ok (.bipush 41, 2) := by decide +kernel
theorem dX5_nextEnd_143 : decode cX5_nextEnd 143 = .ok (.iload 4, 2) := by decide +kernel
theorem dX5_nextEnd_145 : decode cX5_nextEnd 145 = .ok (.imul, 1) := by decide +kernel
theorem dX5_nextEnd_146 : decode cX5_nextEnd 146 = .ok (.iload_n 3, 1) := by decide +kernel
theorem dX5_nextEnd_147 : decode cX5_nextEnd 147 = .ok (.iadd, 1) := by decide +kernel
theorem dX5_nextEnd_148 : decode cX5_nextEnd 148 = .ok (.iaload, 1) := by decide +kernel
theorem dX5_nextEnd_149 : decode cX5_nextEnd 149 = .ok (.ifCond .le 7, 3) := by decide +kernel
theorem dX5_nextEnd_152 : decode cX5_nextEnd 152 = .ok (.iconst 1, 1) := by decide +kernel
theorem dX5_nextEnd_153 : decode cX5_nextEnd 153 = .ok (.goto 4, 3) := by decide +kernel
theorem dX5_nextEnd_156 : decode cX5_nextEnd 156 = .ok (.iconst 0, 1) := by decide +kernel
theorem dX5_nextEnd_157 : decode cX5_nextEnd 157 = .ok (.istore 6, 2) := by decide +kernel
theorem dX5_nextEnd_159 : decode cX5_nextEnd 159 = .ok (.iload 5, 2) := by decide +kernel
theorem dX5_nextEnd_161 : decode cX5_nextEnd 161 = .ok (.ifCond .eq 18, 3) := by decide +kernel
theorem dX5_nextEnd_164 : decode cX5_nextEnd 164 = .ok (.aload_n 0, 1) := by decide +kernel
theorem dX5_nextEnd_165 : decode cX5_nextEnd 165 = .ok (.getfield 37, 3) := by decide +kernel
theorem dX5_nextEnd_168 : decode cX5_nextEnd 168 = .ok (.bipush 41, 2) := by decide +kernel
theorem dX5_nextEnd_170 : decode cX5_nextEnd 170 = .ok (.iload_n 3, 1) := by decide +kernel
theorem dX5_nextEnd_171 : decode cX5_nextEnd 171 = .ok (.imul, 1) := by decide +kernel
theorem dX5_nextEnd_172 : decode cX5_nextEnd 172 = .ok (.iload 4, 2) := by decide +kernel
theorem dX5_nextEnd_174 : decode cX5_nextEnd 174 = .ok (.iadd, 1) := by decide +kernel
theorem dX5_nextEnd_175 : decode cX5_nextEnd 175 = .ok (.iaload, 1) := by decide +kernel
theorem dX5_nextEnd_176 : decode cX5_nextEnd 176 = .ok (.goto 26, 3) := by decide +kernel
theorem dX5_nextEnd_179 : decode cX5_nextEnd 179 = .ok (.iload 6, 2) := by decide +kernel
theorem dX5_nextEnd_181 : decode cX5_nextEnd 181 = .ok (.ifCond .eq 19, 3) := by decide +kernel
theorem dX5_nextEnd_184 : decode cX5_nextEnd 184 = .ok (.aload_n 0, 1) := by decide +kernel
theorem dX5_nextEnd_185 : decode cX5_nextEnd 185 = .ok (.getfield 37, 3) := by decide +kernel
theorem dX5_nextEnd_188 : decode cX5_nextEnd 188 = .ok (.bipush 41, 2) := by decide +kernel
theorem dX5_nextEnd_190 : decode cX5_nextEnd 190 = .ok (.iload 4, 2) := by decide +kernel
theorem dX5_nextEnd_192 : decode cX5_nextEnd 192 = .ok (.imul, 1) := by decide +kernel
theorem dX5_nextEnd_193 : decode cX5_nextEnd 193 = .ok (.iload_n 3, 1) := by decide +kernel
theorem dX5_nextEnd_194 : decode cX5_nextEnd 194 = .ok (.iadd, 1) := by decide +kernel
theorem dX5_nextEnd_195 : decode cX5_nextEnd 195 = .ok (.iaload, 1) := by decide +kernel
theorem dX5_nextEnd_196 : decode cX5_nextEnd 196 = .ok (.ineg, 1) := by decide +kernel
theorem dX5_nextEnd_197 : decode cX5_nextEnd 197 = .ok (.goto 5, 3) := by decide +kernel
theorem dX5_nextEnd_200 : decode cX5_nextEnd 200 = .ok (.ldc 122, 2) := by decide +kernel
theorem dX5_nextEnd_202 : decode cX5_nextEnd 202 = .ok (.istore 7, 2) := by decide +kernel
theorem dX5_nextEnd_204 : decode cX5_nextEnd 204 = .ok (.iload 7, 2) := by decide +kernel
theorem dX5_nextEnd_206 : decode cX5_nextEnd 206 = .ok (.ldc 122, 2) := by decide +kernel
theorem dX5_nextEnd_208 : decode cX5_nextEnd 208 = .ok (.if_icmp .ge 48, 3) := by decide +kernel
theorem dX5_nextEnd_211 : decode cX5_nextEnd 211 = .ok (.aload_n 0, 1) := by decide +kernel
theorem dX5_nextEnd_212 : decode cX5_nextEnd 212 = .ok (.getfield 49, 3) := by decide +kernel
theorem dX5_nextEnd_215 : decode cX5_nextEnd 215 = .ok (.iload_n 3, 1) := by decide +kernel
theorem dX5_nextEnd_216 : decode cX5_nextEnd 216 = .ok (.iaload, 1) := by decide +kernel
theorem dX5_nextEnd_217 : decode cX5_nextEnd 217 = .ok (.iload 7, 2) := by decide +kernel
theorem dX5_nextEnd_219 : decode cX5_nextEnd 219 = .ok (.iadd, 1) := by decide +kernel
theorem dX5_nextEnd_220 : decode cX5_nextEnd 220 = .ok (.aload_n 0, 1) := by decide +kernel
theorem dX5_nextEnd_221 : decode cX5_nextEnd 221 = .ok (.getfield 49, 3) := by decide +kernel
theorem dX5_nextEnd_224 : decode cX5_nextEnd 224 = .ok (.iload 4, 2) := by decide +kernel
theorem dX5_nextEnd_226 : decode cX5_nextEnd 226 = .ok (.iaload, 1) := by decide +kernel
theorem dX5_nextEnd_227 : decode cX5_nextEnd 227 = .ok (.if_icmp .ge 29, 3) := by decide +kernel
theorem dX5_nextEnd_230 : decode cX5_nextEnd 230 = .ok (.aload_n 0, 1) := by decide +kernel
theorem dX5_nextEnd_231 : decode cX5_nextEnd 231 = .ok (.getfield 49, 3) := by decide +kernel
theorem dX5_nextEnd_234 : decode cX5_nextEnd 234 = .ok (.iload 4, 2) := by decide +kernel
theorem dX5_nextEnd_236 : decode cX5_nextEnd 236 = .ok (.aload_n 0, 1) := by decide +kernel
theorem dX5_nextEnd_237 : decode cX5_nextEnd 237 = .ok (.getfield 49, 3) := by decide +kernel
theorem dX5_nextEnd_240 : decode cX5_nextEnd 240 = .ok (.iload_n 3, 1) := by decide +kernel
theorem dX5_nextEnd_241 : decode cX5_nextEnd 241 = .ok (.iaload, 1) := by decide +kernel
theorem dX5_nextEnd_242 : decode cX5_nextEnd 242 = .ok (.iload 7, 2) := by decide +kernel
theorem dX5_nextEnd_244 : decode cX5_nextEnd 244 = .ok (.iadd, 1) := by decide +kernel
theorem dX5_nextEnd_245 : decode cX5_nextEnd 245 = .ok (.iastore, 1) := by decide +kernel
theorem dX5_nextEnd_246 : decode cX5_nextEnd 246 = .ok (.aload_n 0, 1) := by decide +kernel
theorem dX5_nextEnd_247 : decode cX5_nextEnd 247 = .ok (.getfield 52, 3) := by decide +kernel
theorem dX5_nextEnd_250 : decode cX5_nextEnd 250 = .ok (.iload 4, 2) := by decide +kernel
theorem dX5_nextEnd_252 : decode cX5_nextEnd 252 = .ok (.iload_n 3, 1) := by decide +kernel
theorem dX5_nextEnd_253 : decode cX5_nextEnd 253 = .ok (.iastore, 1) := by decide +kernel
theorem dX5_nextEnd_254 : decode cX5_nextEnd 254 = .ok (.iconst 1, 1) := by decide +kernel
theorem dX5_nextEnd_255 : decode cX5_nextEnd 255 = .ok (.istore_n 2, 1) := by decide +kernel
theorem dX5_nextEnd_256 : decode cX5_nextEnd 256 = .ok (.iinc 4 1, 3) := by decide +kernel
theorem dX5_nextEnd_259 : decode cX5_nextEnd 259 = .ok (.goto (-193), 3) := by decide +kernel
theorem dX5_nextEnd_262 : decode cX5_nextEnd 262 = .ok (.iinc 3 1, 3) := by decide +kernel
theorem dX5_nextEnd_265 : decode cX5_nextEnd 265 = .ok (.goto (-207), 3) := by decide +kernel
theorem dX5_nextEnd_268 : decode cX5_nextEnd 268 = .ok (.goto (-218), 3) := by decide +kernel
theorem dX5_nextEnd_271 : decode cX5_nextEnd 271 = .ok (.iconst (-1), 1) := by decide +kernel
theorem dX5_nextEnd_272 : decode cX5_nextEnd 272 = .ok (.istore_n 3, 1) := by decide +kernel
theorem dX5_nextEnd_273 : decode cX5_nextEnd 273 = .ok (.iconst 0, 1) := by decide +kernel
theorem dX5_nextEnd_274 : decode cX5_nextEnd 274 = .ok (.istore 4, 2) := by decide +kernel
theorem dX5_nextEnd_276 : decode cX5_nextEnd 276 = .ok (.iload 4, 2) := by decide +kernel
theorem dX5_nextEnd_278 : decode cX5_nextEnd 278 = .ok (.iload_n 1, 1) := by decide +kernel
theorem dX5_nextEnd_279 : decode cX5_nextEnd 279 = .ok (.if_icmp .gt 55, 3) := by decide +kernel
theorem dX5_nextEnd_282 : decode cX5_nextEnd 282 = .ok (.aload_n 0, 1) := by decide +kernel
theorem dX5_nextEnd_283 : decode cX5_nextEnd 283 = .ok (.getfield 43, 3) := by decide +kernel
theorem dX5_nextEnd_286 : decode cX5_nextEnd 286 = .ok (.iload 4, 2) := by decide +kernel
theorem dX5_nextEnd_288 : decode cX5_nextEnd 288 = .ok (.iaload, 1) := by decide +kernel
theorem dX5_nextEnd_289 : decode cX5_nextEnd 289 = .ok (.ifCond .ge 39, 3) := by decide +kernel
theorem dX5_nextEnd_292 : decode cX5_nextEnd 292 = .ok (.aload_n 0, 1) := by decide +kernel
theorem dX5_nextEnd_293 : decode cX5_nextEnd 293 = .ok (.getfield 49, 3) := by decide +kernel
theorem dX5_nextEnd_296 : decode cX5_nextEnd 296 = .ok (.iload 4, 2) := by decide +kernel
theorem dX5_nextEnd_298 : decode cX5_nextEnd 298 = .ok (.iaload, 1) := by decide +kernel
theorem dX5_nextEnd_299 : decode cX5_nextEnd 299 = .ok (.ldc 122, 2) := by decide +kernel
theorem dX5_nextEnd_301 : decode cX5_nextEnd 301 = .ok (.if_icmp .ge 27, 3) := by decide +kernel
theorem dX5_nextEnd_304 : decode cX5_nextEnd 304 = .ok (.iload_n 3, 1) := by decide +kernel
theorem dX5_nextEnd_305 : decode cX5_nextEnd 305 = .ok (.iconst (-1), 1) := by decide +kernel
theorem dX5_nextEnd_306 : decode cX5_nextEnd 306 = .ok (.if_icmp .eq 19, 3) := by decide +kernel
theorem dX5_nextEnd_309 : decode cX5_nextEnd 309 = .ok (.aload_n 0, 1) := by decide +kernel
theorem dX5_nextEnd_310 : decode cX5_nextEnd 310 = .ok (.getfield 49, 3) := by decide +kernel
theorem dX5_nextEnd_313 : decode cX5_nextEnd 313 = .ok (.iload 4, 2) := by decide +kernel
theorem dX5_nextEnd_315 : decode cX5_nextEnd 315 = .ok (.iaload, 1) := by decide +kernel
theorem dX5_nextEnd_316 : decode cX5_nextEnd 316 = .ok (.aload_n 0, 1) := by decide +kernel
theorem dX5_nextEnd_317 : decode cX5_nextEnd 317 = .ok (.getfield 49, 3) := by decide +kernel
theorem dX5_nextEnd_320 : decode cX5_nextEnd 320 = .ok (.iload_n 3, 1) := by decide +kernel
theorem dX5_nextEnd_321 : decode cX5_nextEnd 321 = .ok (.iaload, 1) := by decide +kernel
theorem dX5_nextEnd_322 : decode cX5_nextEnd 322 = .ok (.if_icmp .ge 6, 3) := by decide +kernel
theorem dX5_nextEnd_325 : decode cX5_nextEnd 325 = .ok (.iload 4, 2) := by decide +kernel
theorem dX5_nextEnd_327 : decode cX5_nextEnd 327 = .ok (.istore_n 3, 1) := by decide +kernel
theorem dX5_nextEnd_328 : decode cX5_nextEnd 328 = .ok (.iinc 4 1, 3) := by decide +kernel
theorem dX5_nextEnd_331 : decode cX5_nextEnd 331 = .ok (.goto (-55), 3) := by decide +kernel
theorem dX5_nextEnd_334 : decode cX5_nextEnd 334 = .ok (.iload_n 3, 1) := by decide +kernel
theorem dX5_nextEnd_335 : decode cX5_nextEnd 335 = .ok (.ireturn, 1) := by decide +kernel
theorem dX5_sendOn_0 : decode cX5_sendOn 0 = .ok (.aload_n 0, 1) := by decide +kernel
theorem dX5_sendOn_1 : decode cX5_sendOn 1 = .ok (.getfield 43, 3) := by decide +kernel
theorem dX5_sendOn_4 : decode cX5_sendOn 4 = .ok (.iload_n 1, 1) := by decide +kernel
theorem dX5_sendOn_5 : decode cX5_sendOn 5 = .ok (.iaload, 1) := by decide +kernel
theorem dX5_sendOn_6 : decode cX5_sendOn 6 = .ok (.ineg, 1) := by decide +kernel
theorem dX5_sendOn_7 : decode cX5_sendOn 7 = .ok (.istore_n 2, 1) := by decide +kernel
theorem dX5_sendOn_8 : decode cX5_sendOn 8 = .ok (.iload_n 1, 1) := by decide +kernel
theorem dX5_sendOn_9 : decode cX5_sendOn 9 = .ok (.istore_n 3, 1) := by decide +kernel
theorem dX5_sendOn_10 : decode cX5_sendOn 10 = .ok (.aload_n 0, 1) := by decide +kernel
theorem dX5_sendOn_11 : decode cX5_sendOn 11 = .ok (.getfield 52, 3) := by decide +kernel
theorem dX5_sendOn_14 : decode cX5_sendOn 14 = .ok (.iload_n 3, 1) := by decide +kernel
theorem dX5_sendOn_15 : decode cX5_sendOn 15 = .ok (.iaload, 1) := by decide +kernel
theorem dX5_sendOn_16 : decode cX5_sendOn 16 = .ok (.iconst (-1), 1) := by decide +kernel
theorem dX5_sendOn_17 : decode cX5_sendOn 17 = .ok (.if_icmp .eq 60, 3) := by decide +kernel
theorem dX5_sendOn_20 : decode cX5_sendOn 20 = .ok (.aload_n 0, 1) := by decide +kernel
theorem dX5_sendOn_21 : decode cX5_sendOn 21 = .ok (.getfield 52, 3) := by decide +kernel
theorem dX5_sendOn_24 : decode cX5_sendOn 24 = .ok (.iload_n 3, 1) := by decide +kernel
theorem dX5_sendOn_25 : decode cX5_sendOn 25 = .ok (.iaload, 1) := by decide +kernel
theorem dX5_sendOn_26 : decode cX5_sendOn 26 = .ok (.istore 4, 2) := by decide +kernel
theorem dX5_sendOn_28 : decode cX5_sendOn 28 = .ok (.aload_n 0, 1) := by decide +kernel
theorem dX5_sendOn_29 : decode cX5_sendOn 29 = .ok (.getfield 40, 3) := by decide +kernel
theorem dX5_sendOn_32 : decode cX5_sendOn 32 = .ok (.iload 4, 2) := by decide +kernel
theorem dX5_sendOn_34 : decode cX5_sendOn 34 = .ok (.iaload, 1) := by decide +kernel
theorem dX5_sendOn_35 : decode cX5_sendOn 35 = .ok (.ifCond .ge 36, 3) := by decide +kernel
theorem dX5_sendOn_38 : decode cX5_sendOn 38 = .ok (.aload_n 0, 1) := by decide +kernel
theorem dX5_sendOn_39 : decode cX5_sendOn 39 = .ok (.getfield 46, 3) := by decide +kernel
theorem dX5_sendOn_42 : decode cX5_sendOn 42 = .ok (.bipush 41, 2) := by decide +kernel
theorem dX5_sendOn_44 : decode cX5_sendOn 44 = .ok (.iload_n 3, 1) := by decide +kernel
theorem dX5_sendOn_45 : decode cX5_sendOn 45 = .ok (.imul, 1) := by decide +kernel
theorem dX5_sendOn_46 : decode cX5_sendOn 46 = .ok (.iload 4, 2) := by decide +kernel
theorem dX5_sendOn_48 : decode cX5_sendOn 48 = .ok (.iadd, 1) := by decide +kernel
theorem dX5_sendOn_49 : decode cX5_sendOn 49 = .ok (.iaload, 1) := by decide +kernel
theorem dX5_sendOn_50 : decode cX5_sendOn 50 = .ok (.iload_n 2, 1) := by decide +kernel
theorem dX5_sendOn_51 : decode cX5_sendOn 51 = .ok (.if_icmp .ge 18, 3) := by decide +kernel
theorem dX5_sendOn_54 : decode cX5_sendOn 54 = .ok (.aload_n 0, 1) := by decide +kernel
theorem dX5_sendOn_55 : decode cX5_sendOn 55 = .ok (.getfield 46, 3) := by decide +kernel
theorem dX5_sendOn_58 : decode cX5_sendOn 58 = .ok (.bipush 41, 2) := by decide +kernel
theorem dX5_sendOn_60 : decode cX5_sendOn 60 = .ok (.iload_n 3, 1) := by decide +kernel
theorem dX5_sendOn_61 : decode cX5_sendOn 61 = .ok (.imul, 1) := by decide +kernel
theorem dX5_sendOn_62 : decode cX5_sendOn 62 = .ok (.iload 4, 2) := by decide +kernel
theorem dX5_sendOn_64 : decode cX5_sendOn 64 = .ok (.iadd, 1) := by decide +kernel
theorem dX5_sendOn_65 : decode cX5_sendOn 65 = .ok (.iaload, 1) := by decide +kernel
theorem dX5_sendOn_66 : decode cX5_sendOn 66 = .ok (.goto 4, 3) := by decide +kernel
theorem dX5_sendOn_69 : decode cX5_sendOn 69 = .ok (.iload_n 2, 1) := by decide +kernel
theorem dX5_sendOn_70 : decode cX5_sendOn 70 = .ok (.istore_n 2, 1) := by decide +kernel
theorem dX5_sendOn_71 : decode cX5_sendOn 71 = .ok (.iload 4, 2) := by decide +kernel
theorem dX5_sendOn_73 : decode cX5_sendOn 73 = .ok (.istore_n 3, 1) := by decide +kernel
theorem dX5_sendOn_74 : decode cX5_sendOn 74 = .ok (.goto (-64), 3) := by decide +kernel
theorem dX5_sendOn_77 : decode cX5_sendOn 77 = .ok (.aload_n 0, 1) := by decide +kernel
theorem dX5_sendOn_78 : decode cX5_sendOn 78 = .ok (.getfield 43, 3) := by decide +kernel
theorem dX5_sendOn_81 : decode cX5_sendOn 81 = .ok (.iload_n 3, 1) := by decide +kernel
theorem dX5_sendOn_82 : decode cX5_sendOn 82 = .ok (.iaload, 1) := by decide +kernel
theorem dX5_sendOn_83 : decode cX5_sendOn 83 = .ok (.iload_n 2, 1) := by decide +kernel
theorem dX5_sendOn_84 : decode cX5_sendOn 84 = .ok (.if_icmp .ge 12, 3) := by decide +kernel
theorem dX5_sendOn_87 : decode cX5_sendOn 87 = .ok (.aload_n 0, 1) := by decide +kernel
theorem dX5_sendOn_88 : decode cX5_sendOn 88 = .ok (.getfield 43, 3) := by decide +kernel
theorem dX5_sendOn_91 : decode cX5_sendOn 91 = .ok (.iload_n 3, 1) := by decide +kernel
theorem dX5_sendOn_92 : decode cX5_sendOn 92 = .ok (.iaload, 1) := by decide +kernel
theorem dX5_sendOn_93 : decode cX5_sendOn 93 = .ok (.goto 4, 3) := by decide +kernel
theorem dX5_sendOn_96 : decode cX5_sendOn 96 = .ok (.iload_n 2, 1) := by decide +kernel
theorem dX5_sendOn_97 : decode cX5_sendOn 97 = .ok (.istore_n 2, 1) := by decide +kernel
theorem dX5_sendOn_98 : decode cX5_sendOn 98 = .ok (.aload_n 0, 1) := by decide +kernel
theorem dX5_sendOn_99 : decode cX5_sendOn 99 = .ok (.getfield 43, 3) := by decide +kernel
theorem dX5_sendOn_102 : decode cX5_sendOn 102 = .ok (.iload_n 3, 1) := by decide +kernel
theorem dX5_sendOn_103 : decode cX5_sendOn 103 = .ok (.dup2, 1) := by decide +kernel
theorem dX5_sendOn_104 : decode cX5_sendOn 104 = .ok (.iaload, 1) := by decide +kernel
theorem dX5_sendOn_105 : decode cX5_sendOn 105 = .ok (.iload_n 2, 1) := by decide +kernel
theorem dX5_sendOn_106 : decode cX5_sendOn 106 = .ok (.isub, 1) := by decide +kernel
theorem dX5_sendOn_107 : decode cX5_sendOn 107 = .ok (.iastore, 1) := by decide +kernel
theorem dX5_sendOn_108 : decode cX5_sendOn 108 = .ok (.aload_n 0, 1) := by decide +kernel
theorem dX5_sendOn_109 : decode cX5_sendOn 109 = .ok (.getfield 43, 3) := by decide +kernel
theorem dX5_sendOn_112 : decode cX5_sendOn 112 = .ok (.iload_n 1, 1) := by decide +kernel
theorem dX5_sendOn_113 : decode cX5_sendOn 113 = .ok (.dup2, 1) := by decide +kernel
theorem dX5_sendOn_114 : decode cX5_sendOn 114 = .ok (.iaload, 1) := by decide +kernel
theorem dX5_sendOn_115 : decode cX5_sendOn 115 = .ok (.iload_n 2, 1) := by decide +kernel
theorem dX5_sendOn_116 : decode cX5_sendOn 116 = .ok (.iadd, 1) := by decide +kernel
theorem dX5_sendOn_117 : decode cX5_sendOn 117 = .ok (.iastore, 1) := by decide +kernel
theorem dX5_sendOn_118 : decode cX5_sendOn 118 = .ok (.iload_n 1, 1) := by decide +kernel
theorem dX5_sendOn_119 : decode cX5_sendOn 119 = .ok (.istore_n 3, 1) := by decide +kernel
theorem dX5_sendOn_120 : decode cX5_sendOn 120 = .ok (.aload_n 0, 1) := by decide +kernel
theorem dX5_sendOn_121 : decode cX5_sendOn 121 = .ok (.getfield 52, 3) := by decide +kernel
theorem dX5_sendOn_124 : decode cX5_sendOn 124 = .ok (.iload_n 3, 1) := by decide +kernel
theorem dX5_sendOn_125 : decode cX5_sendOn 125 = .ok (.iaload, 1) := by decide +kernel
theorem dX5_sendOn_126 : decode cX5_sendOn 126 = .ok (.iconst (-1), 1) := by decide +kernel
theorem dX5_sendOn_127 : decode cX5_sendOn 127 = .ok (.if_icmp .eq 62, 3) := by decide +kernel
theorem dX5_sendOn_130 : decode cX5_sendOn 130 = .ok (.aload_n 0, 1) := by decide +kernel
theorem dX5_sendOn_131 : decode cX5_sendOn 131 = .ok (.getfield 52, 3) := by decide +kernel
theorem dX5_sendOn_134 : decode cX5_sendOn 134 = .ok (.iload_n 3, 1) := by decide +kernel
theorem dX5_sendOn_135 : decode cX5_sendOn 135 = .ok (.iaload, 1) := by decide +kernel
theorem dX5_sendOn_136 : decode cX5_sendOn 136 = .ok (.istore 4, 2) := by decide +kernel
theorem dX5_sendOn_138 : decode cX5_sendOn 138 = .ok (.aload_n 0, 1) := by decide +kernel
theorem dX5_sendOn_139 : decode cX5_sendOn 139 = .ok (.getfield 40, 3) := by decide +kernel
theorem dX5_sendOn_142 : decode cX5_sendOn 142 = .ok (.iload 4, 2) := by decide +kernel
theorem dX5_sendOn_144 : decode cX5_sendOn 144 = .ok (.iaload, 1) := by decide +kernel
theorem dX5_sendOn_145 : decode cX5_sendOn 145 = .ok (.ifCond .le 22, 3) := by decide +kernel
theorem dX5_sendOn_148 : decode cX5_sendOn 148 = .ok (.aload_n 0, 1) := by decide +kernel
theorem dX5_sendOn_149 : decode cX5_sendOn 149 = .ok (.getfield 46, 3) := by decide +kernel
theorem dX5_sendOn_152 : decode cX5_sendOn 152 = .ok (.bipush 41, 2) := by decide +kernel
theorem dX5_sendOn_154 : decode cX5_sendOn 154 = .ok (.iload 4, 2) := by decide +kernel
theorem dX5_sendOn_156 : decode cX5_sendOn 156 = .ok (.imul, 1) := by decide +kernel
theorem dX5_sendOn_157 : decode cX5_sendOn 157 = .ok (.iload_n 3, 1) := by decide +kernel
theorem dX5_sendOn_158 : decode cX5_sendOn 158 = .ok (.iadd, 1) := by decide +kernel
theorem dX5_sendOn_159 : decode cX5_sendOn 159 = .ok (.dup2, 1) := by decide +kernel
theorem dX5_sendOn_160 : decode cX5_sendOn 160 = .ok (.iaload, 1) := by decide +kernel
theorem dX5_sendOn_161 : decode cX5_sendOn 161 = .ok (.iload_n 2, 1) := by decide +kernel
theorem dX5_sendOn_162 : decode cX5_sendOn 162 = .ok (.iadd, 1) := by decide +kernel
theorem dX5_sendOn_163 : decode cX5_sendOn 163 = .ok (.iastore, 1) := by decide +kernel
theorem dX5_sendOn_164 : decode cX5_sendOn 164 = .ok (.goto 19, 3) := by decide +kernel
theorem dX5_sendOn_167 : decode cX5_sendOn 167 = .ok (.aload_n 0, 1) := by decide +kernel
theorem dX5_sendOn_168 : decode cX5_sendOn 168 = .ok (.getfield 46, 3) := by decide +kernel
theorem dX5_sendOn_171 : decode cX5_sendOn 171 = .ok (.bipush 41, 2) := by decide +kernel
theorem dX5_sendOn_173 : decode cX5_sendOn 173 = .ok (.iload_n 3, 1) := by decide +kernel
theorem dX5_sendOn_174 : decode cX5_sendOn 174 = .ok (.imul, 1) := by decide +kernel
theorem dX5_sendOn_175 : decode cX5_sendOn 175 = .ok (.iload 4, 2) := by decide +kernel
theorem dX5_sendOn_177 : decode cX5_sendOn 177 = .ok (.iadd, 1) := by decide +kernel
theorem dX5_sendOn_178 : decode cX5_sendOn 178 = .ok (.dup2, 1) := by decide +kernel
theorem dX5_sendOn_179 : decode cX5_sendOn 179 = .ok (.iaload, 1) := by decide +kernel
theorem dX5_sendOn_180 : decode cX5_sendOn 180 = .ok (.iload_n 2, 1) := by decide +kernel
theorem dX5_sendOn_181 : decode cX5_sendOn 181 = .ok (.isub, 1) := by decide +kernel
theorem dX5_sendOn_182 : decode cX5_sendOn 182 = .ok (.iastore, 1) := by decide +kernel
theorem dX5_sendOn_183 : decode cX5_sendOn 183 = .ok (.iload 4, 2) := by decide +kernel
theorem dX5_sendOn_185 : decode cX5_sendOn 185 = .ok (.istore_n 3, 1) := by decide +kernel
theorem dX5_sendOn_186 : decode cX5_sendOn 186 = .ok (.goto (-66), 3) := by decide +kernel
theorem dX5_sendOn_189 : decode cX5_sendOn 189 = .ok (.return_, 1) := by decide +kernel
theorem dX5_bestOf_0 : decode cX5_bestOf 0 = .ok (.aload_n 0, 1) := by decide +kernel
theorem dX5_bestOf_1 : decode cX5_bestOf 1 = .ok (.getfield 7, 3) := by decide +kernel
theorem dX5_bestOf_4 : decode cX5_bestOf 4 = .ok (.iconst 0, 1) := by decide +kernel
theorem dX5_bestOf_5 : decode cX5_bestOf 5 = .ok (.iaload, 1) := by decide +kernel
theorem dX5_bestOf_6 : decode cX5_bestOf 6 = .ok (.istore 4, 2) := by decide +kernel
theorem dX5_bestOf_8 : decode cX5_bestOf 8 = .ok (.aload_n 0, 1) := by decide +kernel
theorem dX5_bestOf_9 : decode cX5_bestOf 9 = .ok (.iload_n 1, 1) := by decide +kernel
theorem dX5_bestOf_10 : decode cX5_bestOf 10 = .ok (.invokevirtual 127, 3) := by decide +kernel
theorem dX5_bestOf_13 : decode cX5_bestOf 13 = .ok (.aload_n 0, 1) := by decide +kernel
theorem dX5_bestOf_14 : decode cX5_bestOf 14 = .ok (.iload_n 1, 1) := by decide +kernel
theorem dX5_bestOf_15 : decode cX5_bestOf 15 = .ok (.iload_n 2, 1) := by decide +kernel
theorem dX5_bestOf_16 : decode cX5_bestOf 16 = .ok (.iload_n 3, 1) := by decide +kernel
theorem dX5_bestOf_17 : decode cX5_bestOf 17 = .ok (.invokevirtual 130, 3) := by decide +kernel
theorem dX5_bestOf_20 : decode cX5_bestOf 20 = .ok (.iconst 0, 1) := by decide +kernel
theorem dX5_bestOf_21 : decode cX5_bestOf 21 = .ok (.istore 5, 2) := by decide +kernel
theorem dX5_bestOf_23 : decode cX5_bestOf 23 = .ok (.iload 5, 2) := by decide +kernel
theorem dX5_bestOf_25 : decode cX5_bestOf 25 = .ok (.iload 4, 2) := by decide +kernel
theorem dX5_bestOf_27 : decode cX5_bestOf 27 = .ok (.if_icmp .gt 23, 3) := by decide +kernel
theorem dX5_bestOf_30 : decode cX5_bestOf 30 = .ok (.aload_n 0, 1) := by decide +kernel
theorem dX5_bestOf_31 : decode cX5_bestOf 31 = .ok (.getfield 43, 3) := by decide +kernel
theorem dX5_bestOf_34 : decode cX5_bestOf 34 = .ok (.iload 5, 2) := by decide +kernel
theorem dX5_bestOf_36 : decode cX5_bestOf 36 = .ok (.aload_n 0, 1) := by decide +kernel
theorem dX5_bestOf_37 : decode cX5_bestOf 37 = .ok (.getfield 40, 3) := by decide +kernel
theorem dX5_bestOf_40 : decode cX5_bestOf 40 = .ok (.iload 5, 2) := by decide +kernel
theorem dX5_bestOf_42 : decode cX5_bestOf 42 = .ok (.iaload, 1) := by decide +kernel
theorem dX5_bestOf_43 : decode cX5_bestOf 43 = .ok (.iastore, 1) := by decide +kernel
theorem dX5_bestOf_44 : decode cX5_bestOf 44 = .ok (.iinc 5 1, 3) := by decide +kernel
theorem dX5_bestOf_47 : decode cX5_bestOf 47 = .ok (.goto (-24), 3) := by decide +kernel
theorem dX5_bestOf_50 : decode cX5_bestOf 50 = .ok (.iconst 0, 1) := by decide +kernel
theorem dX5_bestOf_51 : decode cX5_bestOf 51 = .ok (.istore 5, 2) := by decide +kernel
theorem dX5_bestOf_53 : decode cX5_bestOf 53 = .ok (.iload 5, 2) := by decide +kernel
theorem dX5_bestOf_55 : decode cX5_bestOf 55 = .ok (.sipush 1681, 3) := by decide +kernel
theorem dX5_bestOf_58 : decode cX5_bestOf 58 = .ok (.if_icmp .ge 17, 3) := by decide +kernel
theorem dX5_bestOf_61 : decode cX5_bestOf 61 = .ok (.aload_n 0, 1) := by decide +kernel
theorem dX5_bestOf_62 : decode cX5_bestOf 62 = .ok (.getfield 46, 3) := by decide +kernel
theorem dX5_bestOf_65 : decode cX5_bestOf 65 = .ok (.iload 5, 2) := by decide +kernel
theorem dX5_bestOf_67 : decode cX5_bestOf 67 = .ok (.iconst 0, 1) := by decide +kernel
theorem dX5_bestOf_68 : decode cX5_bestOf 68 = .ok (.iastore, 1) := by decide +kernel
theorem dX5_bestOf_69 : decode cX5_bestOf 69 = .ok (.iinc 5 1, 3) := by decide +kernel
theorem dX5_bestOf_72 : decode cX5_bestOf 72 = .ok (.goto (-19), 3) := by decide +kernel
theorem dX5_bestOf_75 : decode cX5_bestOf 75 = .ok (.aload_n 0, 1) := by decide +kernel
theorem dX5_bestOf_76 : decode cX5_bestOf 76 = .ok (.invokevirtual 133, 3) := by decide +kernel
theorem dX5_bestOf_79 : decode cX5_bestOf 79 = .ok (.istore 5, 2) := by decide +kernel
theorem dX5_bestOf_81 : decode cX5_bestOf 81 = .ok (.iload 5, 2) := by decide +kernel
theorem dX5_bestOf_83 : decode cX5_bestOf 83 = .ok (.iconst (-1), 1) := by decide +kernel
theorem dX5_bestOf_84 : decode cX5_bestOf 84 = .ok (.if_icmp .eq 18, 3) := by decide +kernel
theorem dX5_bestOf_87 : decode cX5_bestOf 87 = .ok (.aload_n 0, 1) := by decide +kernel
theorem dX5_bestOf_88 : decode cX5_bestOf 88 = .ok (.iload 5, 2) := by decide +kernel
theorem dX5_bestOf_90 : decode cX5_bestOf 90 = .ok (.invokevirtual 137, 3) := by decide +kernel
theorem dX5_bestOf_93 : decode cX5_bestOf 93 = .ok (.aload_n 0, 1) := by decide +kernel
theorem dX5_bestOf_94 : decode cX5_bestOf 94 = .ok (.invokevirtual 133, 3) := by decide +kernel
theorem dX5_bestOf_97 : decode cX5_bestOf 97 = .ok (.istore 5, 2) := by decide +kernel
theorem dX5_bestOf_99 : decode cX5_bestOf 99 = .ok (.goto (-18), 3) := by decide +kernel
theorem dX5_bestOf_102 : decode cX5_bestOf 102 = .ok (.lconst 0, 1) := by decide +kernel
theorem dX5_bestOf_103 : decode cX5_bestOf 103 = .ok (.lstore 6, 2) := by decide +kernel
theorem dX5_bestOf_105 : decode cX5_bestOf 105 = .ok (.iconst 0, 1) := by decide +kernel
theorem dX5_bestOf_106 : decode cX5_bestOf 106 = .ok (.istore 8, 2) := by decide +kernel
theorem dX5_bestOf_108 : decode cX5_bestOf 108 = .ok (.iload 8, 2) := by decide +kernel
theorem dX5_bestOf_110 : decode cX5_bestOf 110 = .ok (.sipush 1681, 3) := by decide +kernel
theorem dX5_bestOf_113 : decode cX5_bestOf 113 = .ok (.if_icmp .ge 45, 3) := by decide +kernel
theorem dX5_bestOf_116 : decode cX5_bestOf 116 = .ok (.lload 6, 2) := by decide +kernel
theorem dX5_bestOf_118 : decode cX5_bestOf 118 = .ok (.aload_n 0, 1) := by decide +kernel
theorem dX5_bestOf_119 : decode cX5_bestOf 119 = .ok (.getfield 46, 3) := by decide +kernel
theorem dX5_bestOf_122 : decode cX5_bestOf 122 = .ok (.iload 8, 2) := by decide +kernel
theorem dX5_bestOf_124 : decode cX5_bestOf 124 = .ok (.iaload, 1) := by decide +kernel
theorem dX5_bestOf_125 : decode cX5_bestOf 125 = .ok (.ifCond .le 23, 3) := by decide +kernel
theorem dX5_bestOf_128 : decode cX5_bestOf 128 = .ok (.aload_n 0, 1) := by decide +kernel
theorem dX5_bestOf_129 : decode cX5_bestOf 129 = .ok (.getfield 46, 3) := by decide +kernel
theorem dX5_bestOf_132 : decode cX5_bestOf 132 = .ok (.iload 8, 2) := by decide +kernel
theorem dX5_bestOf_134 : decode cX5_bestOf 134 = .ok (.iaload, 1) := by decide +kernel
theorem dX5_bestOf_135 : decode cX5_bestOf 135 = .ok (.i2l, 1) := by decide +kernel
theorem dX5_bestOf_136 : decode cX5_bestOf 136 = .ok (.aload_n 0, 1) := by decide +kernel
theorem dX5_bestOf_137 : decode cX5_bestOf 137 = .ok (.getfield 37, 3) := by decide +kernel
theorem dX5_bestOf_140 : decode cX5_bestOf 140 = .ok (.iload 8, 2) := by decide +kernel
theorem dX5_bestOf_142 : decode cX5_bestOf 142 = .ok (.iaload, 1) := by decide +kernel
theorem dX5_bestOf_143 : decode cX5_bestOf 143 = .ok (.i2l, 1) := by decide +kernel
theorem dX5_bestOf_144 : decode cX5_bestOf 144 = .ok (.lmul, 1) := by decide +kernel
theorem dX5_bestOf_145 : decode cX5_bestOf 145 = .ok (.goto 4, 3) := by decide +kernel
theorem dX5_bestOf_148 : decode cX5_bestOf 148 = .ok (.lconst 0, 1) := by decide +kernel
theorem dX5_bestOf_149 : decode cX5_bestOf 149 = .ok (.ladd, 1) := by decide +kernel
theorem dX5_bestOf_150 : decode cX5_bestOf 150 = .ok (.lstore 6, 2) := by decide +kernel
theorem dX5_bestOf_152 : decode cX5_bestOf 152 = .ok (.iinc 8 1, 3) := by decide +kernel
theorem dX5_bestOf_155 : decode cX5_bestOf 155 = .ok (.goto (-47), 3) := by decide +kernel
theorem dX5_bestOf_158 : decode cX5_bestOf 158 = .ok (.lload 6, 2) := by decide +kernel
theorem dX5_bestOf_160 : decode cX5_bestOf 160 = .ok (.lreturn, 1) := by decide +kernel
theorem dX5_best_0 : decode cX5_best 0 = .ok (.aload_n 0, 1) := by decide +kernel
theorem dX5_best_1 : decode cX5_best 1 = .ok (.iconst 0, 1) := by decide +kernel
theorem dX5_best_2 : decode cX5_best 2 = .ok (.putfield 72, 3) := by decide +kernel
theorem dX5_best_5 : decode cX5_best 5 = .ok (.aload_n 0, 1) := by decide +kernel
theorem dX5_best_6 : decode cX5_best 6 = .ok (.iload_n 1, 1) := by decide +kernel
theorem dX5_best_7 : decode cX5_best 7 = .ok (.invokevirtual 84, 3) := by decide +kernel
theorem dX5_best_10 : decode cX5_best 10 = .ok (.ifCond .eq 13, 3) := by decide +kernel
theorem dX5_best_13 : decode cX5_best 13 = .ok (.aload_n 0, 1) := by decide +kernel
theorem dX5_best_14 : decode cX5_best 14 = .ok (.iload_n 1, 1) := by decide +kernel
theorem dX5_best_15 : decode cX5_best 15 = .ok (.iconst (-1), 1) := by decide +kernel
theorem dX5_best_16 : decode cX5_best 16 = .ok (.iconst 0, 1) := by decide +kernel
theorem dX5_best_17 : decode cX5_best 17 = .ok (.invokevirtual 140, 3) := by decide +kernel
theorem dX5_best_20 : decode cX5_best 20 = .ok (.goto 6, 3) := by decide +kernel
theorem dX5_best_23 : decode cX5_best 23 = .ok (.ldc2_w 120, 3) := by decide +kernel
theorem dX5_best_26 : decode cX5_best 26 = .ok (.lreturn, 1) := by decide +kernel
theorem dX5_findPrices_0 : decode cX5_findPrices 0 = .ok (.aload_n 0, 1) := by decide +kernel
theorem dX5_findPrices_1 : decode cX5_findPrices 1 = .ok (.getfield 7, 3) := by decide +kernel
theorem dX5_findPrices_4 : decode cX5_findPrices 4 = .ok (.iconst 0, 1) := by decide +kernel
theorem dX5_findPrices_5 : decode cX5_findPrices 5 = .ok (.iaload, 1) := by decide +kernel
theorem dX5_findPrices_6 : decode cX5_findPrices 6 = .ok (.istore_n 1, 1) := by decide +kernel
theorem dX5_findPrices_7 : decode cX5_findPrices 7 = .ok (.iconst 0, 1) := by decide +kernel
theorem dX5_findPrices_8 : decode cX5_findPrices 8 = .ok (.istore_n 2, 1) := by decide +kernel
theorem dX5_findPrices_9 : decode cX5_findPrices 9 = .ok (.iload_n 2, 1) := by decide +kernel
theorem dX5_findPrices_10 : decode cX5_findPrices 10 = .ok (.iload_n 1, 1) := by decide +kernel
theorem dX5_findPrices_11 : decode cX5_findPrices 11 = .ok (.if_icmp .gt 26, 3) := by decide +kernel
theorem dX5_findPrices_14 : decode cX5_findPrices 14 = .ok (.aload_n 0, 1) := by decide +kernel
theorem dX5_findPrices_15 : decode cX5_findPrices 15 = .ok (.getfield 49, 3) := by decide +kernel
theorem dX5_findPrices_18 : decode cX5_findPrices 18 = .ok (.iload_n 2, 1) := by decide +kernel
theorem dX5_findPrices_19 : decode cX5_findPrices 19 = .ok (.aload_n 0, 1) := by decide +kernel
theorem dX5_findPrices_20 : decode cX5_findPrices 20 = .ok (.getfield 37, 3) := by decide +kernel
theorem dX5_findPrices_23 : decode cX5_findPrices 23 = .ok (.bipush 41, 2) := by decide +kernel
theorem dX5_findPrices_25 : decode cX5_findPrices 25 = .ok (.iload_n 2, 1) := by decide +kernel
theorem dX5_findPrices_26 : decode cX5_findPrices 26 = .ok (.imul, 1) := by decide +kernel
theorem dX5_findPrices_27 : decode cX5_findPrices 27 = .ok (.iload_n 1, 1) := by decide +kernel
theorem dX5_findPrices_28 : decode cX5_findPrices 28 = .ok (.iadd, 1) := by decide +kernel
theorem dX5_findPrices_29 : decode cX5_findPrices 29 = .ok (.iaload, 1) := by decide +kernel
theorem dX5_findPrices_30 : decode cX5_findPrices 30 = .ok (.iastore, 1) := by decide +kernel
theorem dX5_findPrices_31 : decode cX5_findPrices 31 = .ok (.iinc 2 1, 3) := by decide +kernel
theorem dX5_findPrices_34 : decode cX5_findPrices 34 = .ok (.goto (-25), 3) := by decide +kernel
theorem dX5_findPrices_37 : decode cX5_findPrices 37 = .ok (.iconst 1, 1) := by decide +kernel
theorem dX5_findPrices_38 : decode cX5_findPrices 38 = .ok (.istore_n 2, 1) := by decide +kernel
theorem dX5_findPrices_39 : decode cX5_findPrices 39 = .ok (.iload_n 2, 1) := by decide +kernel
theorem dX5_findPrices_40 : decode cX5_findPrices 40 = .ok (.ifCond .eq 140, 3) := by decide +kernel
theorem dX5_findPrices_43 : decode cX5_findPrices 43 = .ok (.iconst 0, 1) := by decide +kernel
theorem dX5_findPrices_44 : decode cX5_findPrices 44 = .ok (.istore_n 2, 1) := by decide +kernel
theorem dX5_findPrices_45 : decode cX5_findPrices 45 = .ok (.iconst 0, 1) := by decide +kernel
theorem dX5_findPrices_46 : decode cX5_findPrices 46 = .ok (.istore_n 3, 1) := by decide +kernel
theorem dX5_findPrices_47 : decode cX5_findPrices 47 = .ok (.iload_n 3, 1) := by decide +kernel
theorem dX5_findPrices_48 : decode cX5_findPrices 48 = .ok (.iload_n 1, 1) := by decide +kernel
theorem dX5_findPrices_49 : decode cX5_findPrices 49 = .ok (.if_icmp .gt 128, 3) := by decide +kernel
theorem dX5_findPrices_52 : decode cX5_findPrices 52 = .ok (.iconst 0, 1) := by decide +kernel
theorem dX5_findPrices_53 : decode cX5_findPrices 53 = .ok (.istore 4, 2) := by decide +kernel
theorem dX5_findPrices_55 : decode cX5_findPrices 55 = .ok (.iload 4, 2) := by decide +kernel
theorem dX5_findPrices_57 : decode cX5_findPrices 57 = .ok (.iload_n 1, 1) := by decide +kernel
theorem dX5_findPrices_58 : decode cX5_findPrices 58 = .ok (.if_icmp .gt 113, 3) := by decide +kernel
theorem dX5_findPrices_61 : decode cX5_findPrices 61 = .ok (.aload_n 0, 1) := by decide +kernel
theorem dX5_findPrices_62 : decode cX5_findPrices 62 = .ok (.getfield 37, 3) := by decide +kernel
theorem dX5_findPrices_65 : decode cX5_findPrices 65 = .ok (.bipush 41, 2) := by decide +kernel
theorem dX5_findPrices_67 : decode cX5_findPrices 67 = .ok (.iload_n 3, 1) := by decide +kernel
theorem dX5_findPrices_68 : decode cX5_findPrices 68 = .ok (.imul, 1) := by decide +kernel
theorem dX5_findPrices_69 : decode cX5_findPrices 69 = .ok (.iload 4, 2) := by decide +kernel
theorem dX5_findPrices_71 : decode cX5_findPrices 71 = .ok (.iadd, 1) := by decide +kernel
theorem dX5_findPrices_72 : decode cX5_findPrices 72 = .ok (.iaload, 1) := by decide +kernel
theorem dX5_findPrices_73 : decode cX5_findPrices 73 = .ok (.istore 5, 2) := by decide +kernel
theorem dX5_findPrices_75 : decode cX5_findPrices 75 = .ok (.aload_n 0, 1) := by decide +kernel
theorem dX5_findPrices_76 : decode cX5_findPrices 76 = .ok (.getfield 46, 3) := by decide +kernel
theorem dX5_findPrices_79 : decode cX5_findPrices 79 = .ok (.bipush 41, 2) := by decide +kernel
theorem dX5_findPrices_81 : decode cX5_findPrices 81 = .ok (.iload 4, 2) := by decide +kernel
theorem dX5_findPrices_83 : decode cX5_findPrices 83 = .ok (.imul, 1) := by decide +kernel
theorem dX5_findPrices_84 : decode cX5_findPrices 84 = .ok (.iload_n 3, 1) := by decide +kernel
theorem dX5_findPrices_85 : decode cX5_findPrices 85 = .ok (.iadd, 1) := by decide +kernel
theorem dX5_findPrices_86 : decode cX5_findPrices 86 = .ok (.iaload, 1) := by decide +kernel
theorem dX5_findPrices_87 : decode cX5_findPrices 87 = .ok (.ifCond .le 37, 3) := by decide +kernel
theorem dX5_findPrices_90 : decode cX5_findPrices 90 = .ok (.aload_n 0, 1) := by decide +kernel
theorem dX5_findPrices_91 : decode cX5_findPrices 91 = .ok (.getfield 37, 3) := by decide +kernel
theorem dX5_findPrices_94 : decode cX5_findPrices 94 = .ok (.bipush 41, 2) := by decide +kernel
theorem dX5_findPrices_96 : decode cX5_findPrices 96 = .ok (.iload 4, 2) := by decide +kernel
theorem dX5_findPrices_98 : decode cX5_findPrices 98 = .ok (.imul, 1) := by decide +kernel
theorem dX5_findPrices_99 : decode cX5_findPrices 99 = .ok (.iload_n 3, 1) := by decide +kernel
theorem dX5_findPrices_100 : decode cX5_findPrices 100 = .ok (.iadd, 1) := by decide +kernel
theorem dX5_findPrices_101 : decode cX5_findPrices 101 = .ok (.iaload, 1) := by decide +kernel
theorem dX5_findPrices_102 : decode cX5_findPrices 102 = .ok (.ineg, 1) := by decide +kernel
theorem dX5_findPrices_103 : decode cX5_findPrices 103 = .ok (.iload 5, 2) := by decide +kernel
theorem dX5_findPrices_105 : decode cX5_findPrices 105 = .ok (.if_icmp .ge 19, 3) := by decide +kernel
theorem dX5_findPrices_108 : decode cX5_findPrices 108 = .ok (.aload_n 0, 1) := by decide +kernel
theorem dX5_findPrices_109 : decode cX5_findPrices 109 = .ok (.getfield 37, 3) := by decide +kernel
theorem dX5_findPrices_112 : decode cX5_findPrices 112 = .ok (.bipush 41, 2) := by decide +kernel
theorem dX5_findPrices_114 : decode cX5_findPrices 114 = .ok (.iload 4, 2) := by decide +kernel
theorem dX5_findPrices_116 : decode cX5_findPrices 116 = .ok (.imul, 1) := by decide +kernel
theorem dX5_findPrices_117 : decode cX5_findPrices 117 = .ok (.iload_n 3, 1) := by decide +kernel
theorem dX5_findPrices_118 : decode cX5_findPrices 118 = .ok (.iadd, 1) := by decide +kernel
theorem dX5_findPrices_119 : decode cX5_findPrices 119 = .ok (.iaload, 1) := by decide +kernel
theorem dX5_findPrices_120 : decode cX5_findPrices 120 = .ok (.ineg, 1) := by decide +kernel
theorem dX5_findPrices_121 : decode cX5_findPrices 121 = .ok (.goto 5, 3) := by decide +kernel
theorem dX5_findPrices_124 : decode cX5_findPrices 124 = .ok (.iload 5, 2) := by decide +kernel
theorem dX5_findPrices_126 : decode cX5_findPrices 126 = .ok (.istore 5, 2) := by decide +kernel
theorem dX5_findPrices_128 : decode cX5_findPrices 128 = .ok (.iload 5, 2) := by decide +kernel
theorem dX5_findPrices_130 : decode cX5_findPrices 130 = .ok (.aload_n 0, 1) := by decide +kernel
theorem dX5_findPrices_131 : decode cX5_findPrices 131 = .ok (.getfield 49, 3) := by decide +kernel
theorem dX5_findPrices_134 : decode cX5_findPrices 134 = .ok (.iload 4, 2) := by decide +kernel
theorem dX5_findPrices_136 : decode cX5_findPrices 136 = .ok (.iaload, 1) := by decide +kernel
theorem dX5_findPrices_137 : decode cX5_findPrices 137 = .ok (.iadd, 1) := by decide +kernel
theorem dX5_findPrices_138 : decode cX5_findPrices 138 = .ok (.aload_n 0, 1) := by decide +kernel
theorem dX5_findPrices_139 : decode cX5_findPrices 139 = .ok (.getfield 49, 3) := by decide +kernel
theorem dX5_findPrices_142 : decode cX5_findPrices 142 = .ok (.iload_n 3, 1) := by decide +kernel
theorem dX5_findPrices_143 : decode cX5_findPrices 143 = .ok (.iaload, 1) := by decide +kernel
theorem dX5_findPrices_144 : decode cX5_findPrices 144 = .ok (.if_icmp .ge 21, 3) := by decide +kernel
theorem dX5_findPrices_147 : decode cX5_findPrices 147 = .ok (.aload_n 0, 1) := by decide +kernel
theorem dX5_findPrices_148 : decode cX5_findPrices 148 = .ok (.getfield 49, 3) := by decide +kernel
theorem dX5_findPrices_151 : decode cX5_findPrices 151 = .ok (.iload_n 3, 1) := by decide +kernel
theorem dX5_findPrices_152 : decode cX5_findPrices 152 = .ok (.iload 5, 2) := by decide +kernel
theorem dX5_findPrices_154 : decode cX5_findPrices 154 = .ok (.aload_n 0, 1) := by decide +kernel
theorem dX5_findPrices_155 : decode cX5_findPrices 155 = .ok (.getfield 49, 3) := by decide +kernel
theorem dX5_findPrices_158 : decode cX5_findPrices 158 = .ok (.iload 4, 2) := by decide +kernel
theorem dX5_findPrices_160 : decode cX5_findPrices 160 = .ok (.iaload, 1) := by decide +kernel
theorem dX5_findPrices_161 : decode cX5_findPrices 161 = .ok (.iadd, 1) := by decide +kernel
theorem dX5_findPrices_162 : decode cX5_findPrices 162 = .ok (.iastore, 1) := by decide +kernel
theorem dX5_findPrices_163 : decode cX5_findPrices 163 = .ok (.iconst 1, 1) := by decide +kernel
theorem dX5_findPrices_164 : decode cX5_findPrices 164 = .ok (.istore_n 2, 1) := by decide +kernel
theorem dX5_findPrices_165 : decode cX5_findPrices 165 = .ok (.iinc 4 1, 3) := by decide +kernel
theorem dX5_findPrices_168 : decode cX5_findPrices 168 = .ok (.goto (-113), 3) := by decide +kernel
theorem dX5_findPrices_171 : decode cX5_findPrices 171 = .ok (.iinc 3 1, 3) := by decide +kernel
theorem dX5_findPrices_174 : decode cX5_findPrices 174 = .ok (.goto (-127), 3) := by decide +kernel
theorem dX5_findPrices_177 : decode cX5_findPrices 177 = .ok (.goto (-138), 3) := by decide +kernel
theorem dX5_findPrices_180 : decode cX5_findPrices 180 = .ok (.return_, 1) := by decide +kernel
theorem dX5_price_0 : decode cX5_price 0 = .ok (.aload_n 0, 1) := by decide +kernel
theorem dX5_price_1 : decode cX5_price 1 = .ok (.iconst 0, 1) := by decide +kernel
theorem dX5_price_2 : decode cX5_price 2 = .ok (.putfield 72, 3) := by decide +kernel
theorem dX5_price_5 : decode cX5_price 5 = .ok (.aload_n 0, 1) := by decide +kernel
theorem dX5_price_6 : decode cX5_price 6 = .ok (.iload_n 1, 1) := by decide +kernel
theorem dX5_price_7 : decode cX5_price 7 = .ok (.invokevirtual 84, 3) := by decide +kernel
theorem dX5_price_10 : decode cX5_price 10 = .ok (.ifCond .eq 11, 3) := by decide +kernel
theorem dX5_price_13 : decode cX5_price 13 = .ok (.aload_n 0, 1) := by decide +kernel
theorem dX5_price_14 : decode cX5_price 14 = .ok (.iload_n 2, 1) := by decide +kernel
theorem dX5_price_15 : decode cX5_price 15 = .ok (.invokevirtual 92, 3) := by decide +kernel
theorem dX5_price_18 : decode cX5_price 18 = .ok (.ifCond .ne 5, 3) := by decide +kernel
theorem dX5_price_21 : decode cX5_price 21 = .ok (.iconst (-1), 1) := by decide +kernel
theorem dX5_price_22 : decode cX5_price 22 = .ok (.ireturn, 1) := by decide +kernel
theorem dX5_price_23 : decode cX5_price 23 = .ok (.aload_n 0, 1) := by decide +kernel
theorem dX5_price_24 : decode cX5_price 24 = .ok (.iload_n 1, 1) := by decide +kernel
theorem dX5_price_25 : decode cX5_price 25 = .ok (.iconst (-1), 1) := by decide +kernel
theorem dX5_price_26 : decode cX5_price 26 = .ok (.iconst 0, 1) := by decide +kernel
theorem dX5_price_27 : decode cX5_price 27 = .ok (.invokevirtual 140, 3) := by decide +kernel
theorem dX5_price_30 : decode cX5_price 30 = .ok (.lstore_n 3, 1) := by decide +kernel
theorem dX5_price_31 : decode cX5_price 31 = .ok (.aload_n 0, 1) := by decide +kernel
theorem dX5_price_32 : decode cX5_price 32 = .ok (.invokevirtual 144, 3) := by decide +kernel
theorem dX5_price_35 : decode cX5_price 35 = .ok (.aload_n 0, 1) := by decide +kernel
theorem dX5_price_36 : decode cX5_price 36 = .ok (.getfield 49, 3) := by decide +kernel
theorem dX5_price_39 : decode cX5_price 39 = .ok (.iload_n 2, 1) := by decide +kernel
theorem dX5_price_40 : decode cX5_price 40 = .ok (.iaload, 1) := by decide +kernel
theorem dX5_price_41 : decode cX5_price 41 = .ok (.aload_n 0, 1) := by decide +kernel
theorem dX5_price_42 : decode cX5_price 42 = .ok (.getfield 49, 3) := by decide +kernel
theorem dX5_price_45 : decode cX5_price 45 = .ok (.iload_n 2, 1) := by decide +kernel
theorem dX5_price_46 : decode cX5_price 46 = .ok (.iconst 1, 1) := by decide +kernel
theorem dX5_price_47 : decode cX5_price 47 = .ok (.iadd, 1) := by decide +kernel
theorem dX5_price_48 : decode cX5_price 48 = .ok (.iaload, 1) := by decide +kernel
theorem dX5_price_49 : decode cX5_price 49 = .ok (.isub, 1) := by decide +kernel
theorem dX5_price_50 : decode cX5_price 50 = .ok (.ireturn, 1) := by decide +kernel
theorem dX5_more_0 : decode cX5_more 0 = .ok (.aload_n 0, 1) := by decide +kernel
theorem dX5_more_1 : decode cX5_more 1 = .ok (.iconst 0, 1) := by decide +kernel
theorem dX5_more_2 : decode cX5_more 2 = .ok (.putfield 72, 3) := by decide +kernel
theorem dX5_more_5 : decode cX5_more 5 = .ok (.aload_n 0, 1) := by decide +kernel
theorem dX5_more_6 : decode cX5_more 6 = .ok (.iload_n 1, 1) := by decide +kernel
theorem dX5_more_7 : decode cX5_more 7 = .ok (.invokevirtual 84, 3) := by decide +kernel
theorem dX5_more_10 : decode cX5_more 10 = .ok (.ifCond .eq 22, 3) := by decide +kernel
theorem dX5_more_13 : decode cX5_more 13 = .ok (.aload_n 0, 1) := by decide +kernel
theorem dX5_more_14 : decode cX5_more 14 = .ok (.iload_n 2, 1) := by decide +kernel
theorem dX5_more_15 : decode cX5_more 15 = .ok (.invokevirtual 92, 3) := by decide +kernel
theorem dX5_more_18 : decode cX5_more 18 = .ok (.ifCond .eq 14, 3) := by decide +kernel
theorem dX5_more_21 : decode cX5_more 21 = .ok (.iload_n 3, 1) := by decide +kernel
theorem dX5_more_22 : decode cX5_more 22 = .ok (.bipush (-60), 2) := by decide +kernel
theorem dX5_more_24 : decode cX5_more 24 = .ok (.bipush 60, 2) := by decide +kernel
theorem dX5_more_26 : decode cX5_more 26 = .ok (.invokestatic 80, 3) := by decide +kernel
theorem dX5_more_29 : decode cX5_more 29 = .ok (.ifCond .ne 6, 3) := by decide +kernel
theorem dX5_more_32 : decode cX5_more 32 = .ok (.ldc 147, 2) := by decide +kernel
theorem dX5_more_34 : decode cX5_more 34 = .ok (.ireturn, 1) := by decide +kernel
theorem dX5_more_35 : decode cX5_more 35 = .ok (.aload_n 0, 1) := by decide +kernel
theorem dX5_more_36 : decode cX5_more 36 = .ok (.iload_n 1, 1) := by decide +kernel
theorem dX5_more_37 : decode cX5_more 37 = .ok (.iconst (-1), 1) := by decide +kernel
theorem dX5_more_38 : decode cX5_more 38 = .ok (.iconst 0, 1) := by decide +kernel
theorem dX5_more_39 : decode cX5_more 39 = .ok (.invokevirtual 140, 3) := by decide +kernel
theorem dX5_more_42 : decode cX5_more 42 = .ok (.lstore 4, 2) := by decide +kernel
theorem dX5_more_44 : decode cX5_more 44 = .ok (.aload_n 0, 1) := by decide +kernel
theorem dX5_more_45 : decode cX5_more 45 = .ok (.iload_n 1, 1) := by decide +kernel
theorem dX5_more_46 : decode cX5_more 46 = .ok (.iload_n 2, 1) := by decide +kernel
theorem dX5_more_47 : decode cX5_more 47 = .ok (.iload_n 3, 1) := by decide +kernel
theorem dX5_more_48 : decode cX5_more 48 = .ok (.invokevirtual 140, 3) := by decide +kernel
theorem dX5_more_51 : decode cX5_more 51 = .ok (.lload 4, 2) := by decide +kernel
theorem dX5_more_53 : decode cX5_more 53 = .ok (.lsub, 1) := by decide +kernel
theorem dX5_more_54 : decode cX5_more 54 = .ok (.l2i, 1) := by decide +kernel
theorem dX5_more_55 : decode cX5_more 55 = .ok (.ireturn, 1) := by decide +kernel
theorem dX5_spent_0 : decode cX5_spent 0 = .ok (.iconst 0, 1) := by decide +kernel
theorem dX5_spent_1 : decode cX5_spent 1 = .ok (.istore 4, 2) := by decide +kernel
theorem dX5_spent_3 : decode cX5_spent 3 = .ok (.iload_n 2, 1) := by decide +kernel
theorem dX5_spent_4 : decode cX5_spent 4 = .ok (.istore 5, 2) := by decide +kernel
theorem dX5_spent_6 : decode cX5_spent 6 = .ok (.iload 5, 2) := by decide +kernel
theorem dX5_spent_8 : decode cX5_spent 8 = .ok (.iload_n 3, 1) := by decide +kernel
theorem dX5_spent_9 : decode cX5_spent 9 = .ok (.if_icmp .gt 36, 3) := by decide +kernel
theorem dX5_spent_12 : decode cX5_spent 12 = .ok (.iload 4, 2) := by decide +kernel
theorem dX5_spent_14 : decode cX5_spent 14 = .ok (.aload_n 0, 1) := by decide +kernel
theorem dX5_spent_15 : decode cX5_spent 15 = .ok (.iload_n 1, 1) := by decide +kernel
theorem dX5_spent_16 : decode cX5_spent 16 = .ok (.iload 5, 2) := by decide +kernel
theorem dX5_spent_18 : decode cX5_spent 18 = .ok (.invokevirtual 103, 3) := by decide +kernel
theorem dX5_spent_21 : decode cX5_spent 21 = .ok (.aload_n 0, 1) := by decide +kernel
theorem dX5_spent_22 : decode cX5_spent 22 = .ok (.getfield 55, 3) := by decide +kernel
theorem dX5_spent_25 : decode cX5_spent 25 = .ok (.iload 5, 2) := by decide +kernel
theorem dX5_spent_27 : decode cX5_spent 27 = .ok (.iaload, 1) := by decide +kernel
theorem dX5_spent_28 : decode cX5_spent 28 = .ok (.if_icmp .le 7, 3) := by decide +kernel
theorem dX5_spent_31 : decode cX5_spent 31 = .ok (.iconst 1, 1) := by decide +kernel
theorem dX5_spent_32 : decode cX5_spent 32 = .ok (.goto 4, 3) := by decide +kernel
theorem dX5_spent_35 : decode cX5_spent 35 = .ok (.iconst 0, 1) := by decide +kernel
theorem dX5_spent_36 : decode cX5_spent 36 = .ok (.iadd, 1) := by decide +kernel
theorem dX5_spent_37 : decode cX5_spent 37 = .ok (.istore 4, 2) := by decide +kernel
theorem dX5_spent_39 : decode cX5_spent 39 = .ok (.iinc 5 1, 3) := by decide +kernel
theorem dX5_spent_42 : decode cX5_spent 42 = .ok (.goto (-36), 3) := by decide +kernel
theorem dX5_spent_45 : decode cX5_spent 45 = .ok (.iload 4, 2) := by decide +kernel
theorem dX5_spent_47 : decode cX5_spent 47 = .ok (.ireturn, 1) := by decide +kernel
theorem dX5_blind_0 : decode cX5_blind 0 = .ok (.aload_n 0, 1) := by decide +kernel
theorem dX5_blind_1 : decode cX5_blind 1 = .ok (.iconst 0, 1) := by decide +kernel
theorem dX5_blind_2 : decode cX5_blind 2 = .ok (.putfield 72, 3) := by decide +kernel
theorem dX5_blind_5 : decode cX5_blind 5 = .ok (.aload_n 0, 1) := by decide +kernel
theorem dX5_blind_6 : decode cX5_blind 6 = .ok (.iload_n 1, 1) := by decide +kernel
theorem dX5_blind_7 : decode cX5_blind 7 = .ok (.invokevirtual 89, 3) := by decide +kernel
theorem dX5_blind_10 : decode cX5_blind 10 = .ok (.ifCond .ne 7, 3) := by decide +kernel
theorem dX5_blind_13 : decode cX5_blind 13 = .ok (.ldc2_w 120, 3) := by decide +kernel
theorem dX5_blind_16 : decode cX5_blind 16 = .ok (.lreturn, 1) := by decide +kernel
theorem dX5_blind_17 : decode cX5_blind 17 = .ok (.aload_n 0, 1) := by decide +kernel
theorem dX5_blind_18 : decode cX5_blind 18 = .ok (.getfield 22, 3) := by decide +kernel
theorem dX5_blind_21 : decode cX5_blind 21 = .ok (.iload_n 1, 1) := by decide +kernel
theorem dX5_blind_22 : decode cX5_blind 22 = .ok (.iaload, 1) := by decide +kernel
theorem dX5_blind_23 : decode cX5_blind 23 = .ok (.istore_n 2, 1) := by decide +kernel
theorem dX5_blind_24 : decode cX5_blind 24 = .ok (.aload_n 0, 1) := by decide +kernel
theorem dX5_blind_25 : decode cX5_blind 25 = .ok (.iload_n 2, 1) := by decide +kernel
theorem dX5_blind_26 : decode cX5_blind 26 = .ok (.invokevirtual 99, 3) := by decide +kernel
theorem dX5_blind_29 : decode cX5_blind 29 = .ok (.iconst 0, 1) := by decide +kernel
theorem dX5_blind_30 : decode cX5_blind 30 = .ok (.istore_n 3, 1) := by decide +kernel
theorem dX5_blind_31 : decode cX5_blind 31 = .ok (.iload_n 3, 1) := by decide +kernel
theorem dX5_blind_32 : decode cX5_blind 32 = .ok (.bipush 40, 2) := by decide +kernel
theorem dX5_blind_34 : decode cX5_blind 34 = .ok (.if_icmp .ge 16, 3) := by decide +kernel
theorem dX5_blind_37 : decode cX5_blind 37 = .ok (.aload_n 0, 1) := by decide +kernel
theorem dX5_blind_38 : decode cX5_blind 38 = .ok (.getfield 55, 3) := by decide +kernel
theorem dX5_blind_41 : decode cX5_blind 41 = .ok (.iload_n 3, 1) := by decide +kernel
theorem dX5_blind_42 : decode cX5_blind 42 = .ok (.iconst 0, 1) := by decide +kernel
theorem dX5_blind_43 : decode cX5_blind 43 = .ok (.iastore, 1) := by decide +kernel
theorem dX5_blind_44 : decode cX5_blind 44 = .ok (.iinc 3 1, 3) := by decide +kernel
theorem dX5_blind_47 : decode cX5_blind 47 = .ok (.goto (-16), 3) := by decide +kernel
theorem dX5_blind_50 : decode cX5_blind 50 = .ok (.iconst 0, 1) := by decide +kernel
theorem dX5_blind_51 : decode cX5_blind 51 = .ok (.istore_n 3, 1) := by decide +kernel
theorem dX5_blind_52 : decode cX5_blind 52 = .ok (.iload_n 3, 1) := by decide +kernel
theorem dX5_blind_53 : decode cX5_blind 53 = .ok (.aload_n 0, 1) := by decide +kernel
theorem dX5_blind_54 : decode cX5_blind 54 = .ok (.getfield 7, 3) := by decide +kernel
theorem dX5_blind_57 : decode cX5_blind 57 = .ok (.iconst 0, 1) := by decide +kernel
theorem dX5_blind_58 : decode cX5_blind 58 = .ok (.iaload, 1) := by decide +kernel
theorem dX5_blind_59 : decode cX5_blind 59 = .ok (.if_icmp .ge 161, 3) := by decide +kernel
theorem dX5_blind_62 : decode cX5_blind 62 = .ok (.iload_n 3, 1) := by decide +kernel
theorem dX5_blind_63 : decode cX5_blind 63 = .ok (.aload_n 0, 1) := by decide +kernel
theorem dX5_blind_64 : decode cX5_blind 64 = .ok (.getfield 25, 3) := by decide +kernel
theorem dX5_blind_67 : decode cX5_blind 67 = .ok (.iload_n 1, 1) := by decide +kernel
theorem dX5_blind_68 : decode cX5_blind 68 = .ok (.iaload, 1) := by decide +kernel
theorem dX5_blind_69 : decode cX5_blind 69 = .ok (.isub, 1) := by decide +kernel
theorem dX5_blind_70 : decode cX5_blind 70 = .ok (.iconst 1, 1) := by decide +kernel
theorem dX5_blind_71 : decode cX5_blind 71 = .ok (.iadd, 1) := by decide +kernel
theorem dX5_blind_72 : decode cX5_blind 72 = .ok (.ifCond .ge 7, 3) := by decide +kernel
theorem dX5_blind_75 : decode cX5_blind 75 = .ok (.iconst 0, 1) := by decide +kernel
theorem dX5_blind_76 : decode cX5_blind 76 = .ok (.goto 13, 3) := by decide +kernel
theorem dX5_blind_79 : decode cX5_blind 79 = .ok (.iload_n 3, 1) := by decide +kernel
theorem dX5_blind_80 : decode cX5_blind 80 = .ok (.aload_n 0, 1) := by decide +kernel
theorem dX5_blind_81 : decode cX5_blind 81 = .ok (.getfield 25, 3) := by decide +kernel
theorem dX5_blind_84 : decode cX5_blind 84 = .ok (.iload_n 1, 1) := by decide +kernel
theorem dX5_blind_85 : decode cX5_blind 85 = .ok (.iaload, 1) := by decide +kernel
theorem dX5_blind_86 : decode cX5_blind 86 = .ok (.isub, 1) := by decide +kernel
theorem dX5_blind_87 : decode cX5_blind 87 = .ok (.iconst 1, 1) := by decide +kernel
theorem dX5_blind_88 : decode cX5_blind 88 = .ok (.iadd, 1) := by decide +kernel
theorem dX5_blind_89 : decode cX5_blind 89 = .ok (.istore 4, 2) := by decide +kernel
theorem dX5_blind_91 : decode cX5_blind 91 = .ok (.iload_n 3, 1) := by decide +kernel
theorem dX5_blind_92 : decode cX5_blind 92 = .ok (.aload_n 0, 1) := by decide +kernel
theorem dX5_blind_93 : decode cX5_blind 93 = .ok (.getfield 25, 3) := by decide +kernel
theorem dX5_blind_96 : decode cX5_blind 96 = .ok (.iload_n 1, 1) := by decide +kernel
theorem dX5_blind_97 : decode cX5_blind 97 = .ok (.iaload, 1) := by decide +kernel
theorem dX5_blind_98 : decode cX5_blind 98 = .ok (.iadd, 1) := by decide +kernel
theorem dX5_blind_99 : decode cX5_blind 99 = .ok (.iconst 1, 1) := by decide +kernel
theorem dX5_blind_100 : decode cX5_blind 100 = .ok (.isub, 1) := by decide +kernel
theorem dX5_blind_101 : decode cX5_blind 101 = .ok (.aload_n 0, 1) := by decide +kernel
theorem dX5_blind_102 : decode cX5_blind 102 = .ok (.getfield 7, 3) := by decide +kernel
theorem dX5_blind_105 : decode cX5_blind 105 = .ok (.iconst 0, 1) := by decide +kernel
theorem dX5_blind_106 : decode cX5_blind 106 = .ok (.iaload, 1) := by decide +kernel
theorem dX5_blind_107 : decode cX5_blind 107 = .ok (.iconst 1, 1) := by decide +kernel
theorem dX5_blind_108 : decode cX5_blind 108 = .ok (.isub, 1) := by decide +kernel
theorem dX5_blind_109 : decode cX5_blind 109 = .ok (.if_icmp .ge 16, 3) := by decide +kernel
theorem dX5_blind_112 : decode cX5_blind 112 = .ok (.iload_n 3, 1) := by decide +kernel
theorem dX5_blind_113 : decode cX5_blind 113 = .ok (.aload_n 0, 1) := by decide +kernel
theorem dX5_blind_114 : decode cX5_blind 114 = .ok (.getfield 25, 3) := by decide +kernel
theorem dX5_blind_117 : decode cX5_blind 117 = .ok (.iload_n 1, 1) := by decide +kernel
theorem dX5_blind_118 : decode cX5_blind 118 = .ok (.iaload, 1) := by decide +kernel
theorem dX5_blind_119 : decode cX5_blind 119 = .ok (.iadd, 1) := by decide +kernel
theorem dX5_blind_120 : decode cX5_blind 120 = .ok (.iconst 1, 1) := by decide +kernel
theorem dX5_blind_121 : decode cX5_blind 121 = .ok (.isub, 1) := by decide +kernel
theorem dX5_blind_122 : decode cX5_blind 122 = .ok (.goto 11, 3) := by decide +kernel
theorem dX5_blind_125 : decode cX5_blind 125 = .ok (.aload_n 0, 1) := by decide +kernel
theorem dX5_blind_126 : decode cX5_blind 126 = .ok (.getfield 7, 3) := by decide +kernel
theorem dX5_blind_129 : decode cX5_blind 129 = .ok (.iconst 0, 1) := by decide +kernel
theorem dX5_blind_130 : decode cX5_blind 130 = .ok (.iaload, 1) := by decide +kernel
theorem dX5_blind_131 : decode cX5_blind 131 = .ok (.iconst 1, 1) := by decide +kernel
theorem dX5_blind_132 : decode cX5_blind 132 = .ok (.isub, 1) := by decide +kernel
theorem dX5_blind_133 : decode cX5_blind 133 = .ok (.istore 5, 2) := by decide +kernel
theorem dX5_blind_135 : decode cX5_blind 135 = .ok (.aload_n 0, 1) := by decide +kernel
theorem dX5_blind_136 : decode cX5_blind 136 = .ok (.getfield 28, 3) := by decide +kernel
theorem dX5_blind_139 : decode cX5_blind 139 = .ok (.iload_n 1, 1) := by decide +kernel
theorem dX5_blind_140 : decode cX5_blind 140 = .ok (.iaload, 1) := by decide +kernel
theorem dX5_blind_141 : decode cX5_blind 141 = .ok (.ifCond .le 73, 3) := by decide +kernel
theorem dX5_blind_144 : decode cX5_blind 144 = .ok (.aload_n 0, 1) := by decide +kernel
theorem dX5_blind_145 : decode cX5_blind 145 = .ok (.iload_n 2, 1) := by decide +kernel
theorem dX5_blind_146 : decode cX5_blind 146 = .ok (.iload 4, 2) := by decide +kernel
theorem dX5_blind_148 : decode cX5_blind 148 = .ok (.iload_n 3, 1) := by decide +kernel
theorem dX5_blind_149 : decode cX5_blind 149 = .ok (.invokevirtual 148, 3) := by decide +kernel
theorem dX5_blind_152 : decode cX5_blind 152 = .ok (.aload_n 0, 1) := by decide +kernel
theorem dX5_blind_153 : decode cX5_blind 153 = .ok (.getfield 16, 3) := by decide +kernel
theorem dX5_blind_156 : decode cX5_blind 156 = .ok (.iload_n 2, 1) := by decide +kernel
theorem dX5_blind_157 : decode cX5_blind 157 = .ok (.iaload, 1) := by decide +kernel
theorem dX5_blind_158 : decode cX5_blind 158 = .ok (.imul, 1) := by decide +kernel
theorem dX5_blind_159 : decode cX5_blind 159 = .ok (.aload_n 0, 1) := by decide +kernel
theorem dX5_blind_160 : decode cX5_blind 160 = .ok (.getfield 28, 3) := by decide +kernel
theorem dX5_blind_163 : decode cX5_blind 163 = .ok (.iload_n 1, 1) := by decide +kernel
theorem dX5_blind_164 : decode cX5_blind 164 = .ok (.iaload, 1) := by decide +kernel
theorem dX5_blind_165 : decode cX5_blind 165 = .ok (.if_icmp .lt 49, 3) := by decide +kernel
theorem dX5_blind_168 : decode cX5_blind 168 = .ok (.aload_n 0, 1) := by decide +kernel
theorem dX5_blind_169 : decode cX5_blind 169 = .ok (.getfield 34, 3) := by decide +kernel
theorem dX5_blind_172 : decode cX5_blind 172 = .ok (.bipush 40, 2) := by decide +kernel
theorem dX5_blind_174 : decode cX5_blind 174 = .ok (.iload_n 1, 1) := by decide +kernel
theorem dX5_blind_175 : decode cX5_blind 175 = .ok (.imul, 1) := by decide +kernel
theorem dX5_blind_176 : decode cX5_blind 176 = .ok (.iload_n 3, 1) := by decide +kernel
theorem dX5_blind_177 : decode cX5_blind 177 = .ok (.iadd, 1) := by decide +kernel
theorem dX5_blind_178 : decode cX5_blind 178 = .ok (.dup2, 1) := by decide +kernel
theorem dX5_blind_179 : decode cX5_blind 179 = .ok (.iaload, 1) := by decide +kernel
theorem dX5_blind_180 : decode cX5_blind 180 = .ok (.iconst 1, 1) := by decide +kernel
theorem dX5_blind_181 : decode cX5_blind 181 = .ok (.iadd, 1) := by decide +kernel
theorem dX5_blind_182 : decode cX5_blind 182 = .ok (.iastore, 1) := by decide +kernel
theorem dX5_blind_183 : decode cX5_blind 183 = .ok (.iload 4, 2) := by decide +kernel
theorem dX5_blind_185 : decode cX5_blind 185 = .ok (.istore 6, 2) := by decide +kernel
theorem dX5_blind_187 : decode cX5_blind 187 = .ok (.iload 6, 2) := by decide +kernel
theorem dX5_blind_189 : decode cX5_blind 189 = .ok (.iload 5, 2) := by decide +kernel
theorem dX5_blind_191 : decode cX5_blind 191 = .ok (.if_icmp .gt 20, 3) := by decide +kernel
theorem dX5_blind_194 : decode cX5_blind 194 = .ok (.aload_n 0, 1) := by decide +kernel
theorem dX5_blind_195 : decode cX5_blind 195 = .ok (.getfield 55, 3) := by decide +kernel
theorem dX5_blind_198 : decode cX5_blind 198 = .ok (.iload 6, 2) := by decide +kernel
theorem dX5_blind_200 : decode cX5_blind 200 = .ok (.dup2, 1) := by decide +kernel
theorem dX5_blind_201 : decode cX5_blind 201 = .ok (.iaload, 1) := by decide +kernel
theorem dX5_blind_202 : decode cX5_blind 202 = .ok (.iconst 1, 1) := by decide +kernel
theorem dX5_blind_203 : decode cX5_blind 203 = .ok (.iadd, 1) := by decide +kernel
theorem dX5_blind_204 : decode cX5_blind 204 = .ok (.iastore, 1) := by decide +kernel
theorem dX5_blind_205 : decode cX5_blind 205 = .ok (.iinc 6 1, 3) := by decide +kernel
theorem dX5_blind_208 : decode cX5_blind 208 = .ok (.goto (-21), 3) := by decide +kernel
theorem dX5_blind_211 : decode cX5_blind 211 = .ok (.goto (-76), 3) := by decide +kernel
theorem dX5_blind_214 : decode cX5_blind 214 = .ok (.iinc 3 1, 3) := by decide +kernel
theorem dX5_blind_217 : decode cX5_blind 217 = .ok (.goto (-165), 3) := by decide +kernel
theorem dX5_blind_220 : decode cX5_blind 220 = .ok (.aload_n 0, 1) := by decide +kernel
theorem dX5_blind_221 : decode cX5_blind 221 = .ok (.iload_n 2, 1) := by decide +kernel
theorem dX5_blind_222 : decode cX5_blind 222 = .ok (.invokevirtual 117, 3) := by decide +kernel
theorem dX5_blind_225 : decode cX5_blind 225 = .ok (.lreturn, 1) := by decide +kernel
theorem dX5_part_0 : decode cX5_part 0 = .ok (.iconst 0, 1) := by decide +kernel
theorem dX5_part_1 : decode cX5_part 1 = .ok (.istore_n 2, 1) := by decide +kernel
theorem dX5_part_2 : decode cX5_part 2 = .ok (.iload_n 2, 1) := by decide +kernel
theorem dX5_part_3 : decode cX5_part 3 = .ok (.iconst 4, 1) := by decide +kernel
theorem dX5_part_4 : decode cX5_part 4 = .ok (.if_icmp .ge 23, 3) := by decide +kernel
theorem dX5_part_7 : decode cX5_part 7 = .ok (.aload_n 0, 1) := by decide +kernel
theorem dX5_part_8 : decode cX5_part 8 = .ok (.getfield 61, 3) := by decide +kernel
theorem dX5_part_11 : decode cX5_part 11 = .ok (.iload_n 2, 1) := by decide +kernel
theorem dX5_part_12 : decode cX5_part 12 = .ok (.iconst 0, 1) := by decide +kernel
theorem dX5_part_13 : decode cX5_part 13 = .ok (.iastore, 1) := by decide +kernel
theorem dX5_part_14 : decode cX5_part 14 = .ok (.aload_n 0, 1) := by decide +kernel
theorem dX5_part_15 : decode cX5_part 15 = .ok (.getfield 64, 3) := by decide +kernel
theorem dX5_part_18 : decode cX5_part 18 = .ok (.iload_n 2, 1) := by decide +kernel
theorem dX5_part_19 : decode cX5_part 19 = .ok (.lconst 0, 1) := by decide +kernel
theorem dX5_part_20 : decode cX5_part 20 = .ok (.lastore, 1) := by decide +kernel
theorem dX5_part_21 : decode cX5_part 21 = .ok (.iinc 2 1, 3) := by decide +kernel
theorem dX5_part_24 : decode cX5_part 24 = .ok (.goto (-22), 3) := by decide +kernel
theorem dX5_part_27 : decode cX5_part 27 = .ok (.iconst 0, 1) := by decide +kernel
theorem dX5_part_28 : decode cX5_part 28 = .ok (.istore_n 2, 1) := by decide +kernel
theorem dX5_part_29 : decode cX5_part 29 = .ok (.iload_n 2, 1) := by decide +kernel
theorem dX5_part_30 : decode cX5_part 30 = .ok (.aload_n 0, 1) := by decide +kernel
theorem dX5_part_31 : decode cX5_part 31 = .ok (.getfield 7, 3) := by decide +kernel
theorem dX5_part_34 : decode cX5_part 34 = .ok (.iconst 0, 1) := by decide +kernel
theorem dX5_part_35 : decode cX5_part 35 = .ok (.iaload, 1) := by decide +kernel
theorem dX5_part_36 : decode cX5_part 36 = .ok (.if_icmp .ge 197, 3) := by decide +kernel
theorem dX5_part_39 : decode cX5_part 39 = .ok (.iconst 0, 1) := by decide +kernel
theorem dX5_part_40 : decode cX5_part 40 = .ok (.istore_n 3, 1) := by decide +kernel
theorem dX5_part_41 : decode cX5_part 41 = .ok (.iload_n 3, 1) := by decide +kernel
theorem dX5_part_42 : decode cX5_part 42 = .ok (.iconst 4, 1) := by decide +kernel
theorem dX5_part_43 : decode cX5_part 43 = .ok (.if_icmp .ge 16, 3) := by decide +kernel
theorem dX5_part_46 : decode cX5_part 46 = .ok (.aload_n 0, 1) := by decide +kernel
theorem dX5_part_47 : decode cX5_part 47 = .ok (.getfield 58, 3) := by decide +kernel
theorem dX5_part_50 : decode cX5_part 50 = .ok (.iload_n 3, 1) := by decide +kernel
theorem dX5_part_51 : decode cX5_part 51 = .ok (.iconst 0, 1) := by decide +kernel
theorem dX5_part_52 : decode cX5_part 52 = .ok (.iastore, 1) := by decide +kernel
theorem dX5_part_53 : decode cX5_part 53 = .ok (.iinc 3 1, 3) := by decide +kernel
theorem dX5_part_56 : decode cX5_part 56 = .ok (.goto (-15), 3) := by decide +kernel
theorem dX5_part_59 : decode cX5_part 59 = .ok (.iconst 0, 1) := by decide +kernel
theorem dX5_part_60 : decode cX5_part 60 = .ok (.istore_n 3, 1) := by decide +kernel
theorem dX5_part_61 : decode cX5_part 61 = .ok (.aload_n 0, 1) := by decide +kernel
theorem dX5_part_62 : decode cX5_part 62 = .ok (.iload_n 1, 1) := by decide +kernel
theorem dX5_part_63 : decode cX5_part 63 = .ok (.iload_n 2, 1) := by decide +kernel
theorem dX5_part_64 : decode cX5_part 64 = .ok (.invokevirtual 107, 3) := by decide +kernel
theorem dX5_part_67 : decode cX5_part 67 = .ok (.istore 4, 2) := by decide +kernel
theorem dX5_part_69 : decode cX5_part 69 = .ok (.iload 4, 2) := by decide +kernel
theorem dX5_part_71 : decode cX5_part 71 = .ok (.ifCond .le 85, 3) := by decide +kernel
theorem dX5_part_74 : decode cX5_part 74 = .ok (.iload_n 3, 1) := by decide +kernel
theorem dX5_part_75 : decode cX5_part 75 = .ok (.iconst (-1), 1) := by decide +kernel
theorem dX5_part_76 : decode cX5_part 76 = .ok (.if_icmp .eq 80, 3) := by decide +kernel
theorem dX5_part_79 : decode cX5_part 79 = .ok (.iconst (-1), 1) := by decide +kernel
theorem dX5_part_80 : decode cX5_part 80 = .ok (.istore_n 3, 1) := by decide +kernel
theorem dX5_part_81 : decode cX5_part 81 = .ok (.iconst 0, 1) := by decide +kernel
theorem dX5_part_82 : decode cX5_part 82 = .ok (.istore 5, 2) := by decide +kernel
theorem dX5_part_84 : decode cX5_part 84 = .ok (.iconst 0, 1) := by decide +kernel
theorem dX5_part_85 : decode cX5_part 85 = .ok (.istore 6, 2) := by decide +kernel
theorem dX5_part_87 : decode cX5_part 87 = .ok (.iload 6, 2) := by decide +kernel
theorem dX5_part_89 : decode cX5_part 89 = .ok (.iconst 4, 1) := by decide +kernel
theorem dX5_part_90 : decode cX5_part 90 = .ok (.if_icmp .ge 45, 3) := by decide +kernel
theorem dX5_part_93 : decode cX5_part 93 = .ok (.aload_n 0, 1) := by decide +kernel
theorem dX5_part_94 : decode cX5_part 94 = .ok (.getfield 31, 3) := by decide +kernel
theorem dX5_part_97 : decode cX5_part 97 = .ok (.iload 6, 2) := by decide +kernel
theorem dX5_part_99 : decode cX5_part 99 = .ok (.iload_n 1, 1) := by decide +kernel
theorem dX5_part_100 : decode cX5_part 100 = .ok (.iload_n 2, 1) := by decide +kernel
theorem dX5_part_101 : decode cX5_part 101 = .ok (.invokestatic 95, 3) := by decide +kernel
theorem dX5_part_104 : decode cX5_part 104 = .ok (.iaload, 1) := by decide +kernel
theorem dX5_part_105 : decode cX5_part 105 = .ok (.aload_n 0, 1) := by decide +kernel
theorem dX5_part_106 : decode cX5_part 106 = .ok (.getfield 58, 3) := by decide +kernel
theorem dX5_part_109 : decode cX5_part 109 = .ok (.iload 6, 2) := by decide +kernel
theorem dX5_part_111 : decode cX5_part 111 = .ok (.iaload, 1) := by decide +kernel
theorem dX5_part_112 : decode cX5_part 112 = .ok (.isub, 1) := by decide +kernel
theorem dX5_part_113 : decode cX5_part 113 = .ok (.istore 7, 2) := by decide +kernel
theorem dX5_part_115 : decode cX5_part 115 = .ok (.iload 7, 2) := by decide +kernel
theorem dX5_part_117 : decode cX5_part 117 = .ok (.iload 5, 2) := by decide +kernel
theorem dX5_part_119 : decode cX5_part 119 = .ok (.if_icmp .le 10, 3) := by decide +kernel
theorem dX5_part_122 : decode cX5_part 122 = .ok (.iload 7, 2) := by decide +kernel
theorem dX5_part_124 : decode cX5_part 124 = .ok (.istore 5, 2) := by decide +kernel
theorem dX5_part_126 : decode cX5_part 126 = .ok (.iload 6, 2) := by decide +kernel
theorem dX5_part_128 : decode cX5_part 128 = .ok (.istore_n 3, 1) := by decide +kernel
theorem dX5_part_129 : decode cX5_part 129 = .ok (.iinc 6 1, 3) := by decide +kernel
theorem dX5_part_132 : decode cX5_part 132 = .ok (.goto (-45), 3) := by decide +kernel
theorem dX5_part_135 : decode cX5_part 135 = .ok (.iload_n 3, 1) := by decide +kernel
theorem dX5_part_136 : decode cX5_part 136 = .ok (.iconst (-1), 1) := by decide +kernel
theorem dX5_part_137 : decode cX5_part 137 = .ok (.if_icmp .eq 13, 3) := by decide +kernel
theorem dX5_part_140 : decode cX5_part 140 = .ok (.aload_n 0, 1) := by decide +kernel
theorem dX5_part_141 : decode cX5_part 141 = .ok (.getfield 58, 3) := by decide +kernel
theorem dX5_part_144 : decode cX5_part 144 = .ok (.iload_n 3, 1) := by decide +kernel
theorem dX5_part_145 : decode cX5_part 145 = .ok (.dup2, 1) := by decide +kernel
theorem dX5_part_146 : decode cX5_part 146 = .ok (.iaload, 1) := by decide +kernel
theorem dX5_part_147 : decode cX5_part 147 = .ok (.iconst 1, 1) := by decide +kernel
theorem dX5_part_148 : decode cX5_part 148 = .ok (.iadd, 1) := by decide +kernel
theorem dX5_part_149 : decode cX5_part 149 = .ok (.iastore, 1) := by decide +kernel
theorem dX5_part_150 : decode cX5_part 150 = .ok (.iinc 4 (-1), 3) := by decide +kernel
theorem dX5_part_153 : decode cX5_part 153 = .ok (.goto (-84), 3) := by decide +kernel
theorem dX5_part_156 : decode cX5_part 156 = .ok (.iconst 0, 1) := by decide +kernel
theorem dX5_part_157 : decode cX5_part 157 = .ok (.istore 4, 2) := by decide +kernel
theorem dX5_part_159 : decode cX5_part 159 = .ok (.iload 4, 2) := by decide +kernel
theorem dX5_part_161 : decode cX5_part 161 = .ok (.iconst 4, 1) := by decide +kernel
theorem dX5_part_162 : decode cX5_part 162 = .ok (.if_icmp .ge 65, 3) := by decide +kernel
theorem dX5_part_165 : decode cX5_part 165 = .ok (.aload_n 0, 1) := by decide +kernel
theorem dX5_part_166 : decode cX5_part 166 = .ok (.getfield 61, 3) := by decide +kernel
theorem dX5_part_169 : decode cX5_part 169 = .ok (.iload 4, 2) := by decide +kernel
theorem dX5_part_171 : decode cX5_part 171 = .ok (.dup2, 1) := by decide +kernel
theorem dX5_part_172 : decode cX5_part 172 = .ok (.iaload, 1) := by decide +kernel
theorem dX5_part_173 : decode cX5_part 173 = .ok (.aload_n 0, 1) := by decide +kernel
theorem dX5_part_174 : decode cX5_part 174 = .ok (.getfield 58, 3) := by decide +kernel
theorem dX5_part_177 : decode cX5_part 177 = .ok (.iload 4, 2) := by decide +kernel
theorem dX5_part_179 : decode cX5_part 179 = .ok (.iaload, 1) := by decide +kernel
theorem dX5_part_180 : decode cX5_part 180 = .ok (.iadd, 1) := by decide +kernel
theorem dX5_part_181 : decode cX5_part 181 = .ok (.iastore, 1) := by decide +kernel
theorem dX5_part_182 : decode cX5_part 182 = .ok (.aload_n 0, 1) := by decide +kernel
theorem dX5_part_183 : decode cX5_part 183 = .ok (.getfield 64, 3) := by decide +kernel
theorem dX5_part_186 : decode cX5_part 186 = .ok (.iload 4, 2) := by decide +kernel
theorem dX5_part_188 : decode cX5_part 188 = .ok (.dup2, 1) := by decide +kernel
theorem dX5_part_189 : decode cX5_part 189 = .ok (.laload, 1) := by decide +kernel
theorem dX5_part_190 : decode cX5_part 190 = .ok (.aload_n 0, 1) := by decide +kernel
theorem dX5_part_191 : decode cX5_part 191 = .ok (.getfield 16, 3) := by decide +kernel
theorem dX5_part_194 : decode cX5_part 194 = .ok (.iload_n 1, 1) := by decide +kernel
theorem dX5_part_195 : decode cX5_part 195 = .ok (.iaload, 1) := by decide +kernel
theorem dX5_part_196 : decode cX5_part 196 = .ok (.i2l, 1) := by decide +kernel
theorem dX5_part_197 : decode cX5_part 197 = .ok (.aload_n 0, 1) := by decide +kernel
theorem dX5_part_198 : decode cX5_part 198 = .ok (.getfield 31, 3) := by decide +kernel
theorem dX5_part_201 : decode cX5_part 201 = .ok (.iload 4, 2) := by decide +kernel
theorem dX5_part_203 : decode cX5_part 203 = .ok (.iload_n 1, 1) := by decide +kernel
theorem dX5_part_204 : decode cX5_part 204 = .ok (.iload_n 2, 1) := by decide +kernel
theorem dX5_part_205 : decode cX5_part 205 = .ok (.invokestatic 95, 3) := by decide +kernel
theorem dX5_part_208 : decode cX5_part 208 = .ok (.iaload, 1) := by decide +kernel
theorem dX5_part_209 : decode cX5_part 209 = .ok (.aload_n 0, 1) := by decide +kernel
theorem dX5_part_210 : decode cX5_part 210 = .ok (.getfield 58, 3) := by decide +kernel
theorem dX5_part_213 : decode cX5_part 213 = .ok (.iload 4, 2) := by decide +kernel
theorem dX5_part_215 : decode cX5_part 215 = .ok (.iaload, 1) := by decide +kernel
theorem dX5_part_216 : decode cX5_part 216 = .ok (.isub, 1) := by decide +kernel
theorem dX5_part_217 : decode cX5_part 217 = .ok (.i2l, 1) := by decide +kernel
theorem dX5_part_218 : decode cX5_part 218 = .ok (.lmul, 1) := by decide +kernel
theorem dX5_part_219 : decode cX5_part 219 = .ok (.ladd, 1) := by decide +kernel
theorem dX5_part_220 : decode cX5_part 220 = .ok (.lastore, 1) := by decide +kernel
theorem dX5_part_221 : decode cX5_part 221 = .ok (.iinc 4 1, 3) := by decide +kernel
theorem dX5_part_224 : decode cX5_part 224 = .ok (.goto (-65), 3) := by decide +kernel
theorem dX5_part_227 : decode cX5_part 227 = .ok (.iinc 2 1, 3) := by decide +kernel
theorem dX5_part_230 : decode cX5_part 230 = .ok (.goto (-201), 3) := by decide +kernel
theorem dX5_part_233 : decode cX5_part 233 = .ok (.return_, 1) := by decide +kernel
theorem dX5_pays_0 : decode cX5_pays 0 = .ok (.aload_n 0, 1) := by decide +kernel
theorem dX5_pays_1 : decode cX5_pays 1 = .ok (.iconst 0, 1) := by decide +kernel
theorem dX5_pays_2 : decode cX5_pays 2 = .ok (.putfield 72, 3) := by decide +kernel
theorem dX5_pays_5 : decode cX5_pays 5 = .ok (.iload_n 1, 1) := by decide +kernel
theorem dX5_pays_6 : decode cX5_pays 6 = .ok (.iconst 0, 1) := by decide +kernel
theorem dX5_pays_7 : decode cX5_pays 7 = .ok (.iconst 3, 1) := by decide +kernel
theorem dX5_pays_8 : decode cX5_pays 8 = .ok (.invokestatic 80, 3) := by decide +kernel
theorem dX5_pays_11 : decode cX5_pays 11 = .ok (.ifCond .eq 11, 3) := by decide +kernel
theorem dX5_pays_14 : decode cX5_pays 14 = .ok (.aload_n 0, 1) := by decide +kernel
theorem dX5_pays_15 : decode cX5_pays 15 = .ok (.iload_n 2, 1) := by decide +kernel
theorem dX5_pays_16 : decode cX5_pays 16 = .ok (.invokevirtual 84, 3) := by decide +kernel
theorem dX5_pays_19 : decode cX5_pays 19 = .ok (.ifCond .ne 7, 3) := by decide +kernel
theorem dX5_pays_22 : decode cX5_pays 22 = .ok (.ldc2_w 120, 3) := by decide +kernel
theorem dX5_pays_25 : decode cX5_pays 25 = .ok (.lreturn, 1) := by decide +kernel
theorem dX5_pays_26 : decode cX5_pays 26 = .ok (.aload_n 0, 1) := by decide +kernel
theorem dX5_pays_27 : decode cX5_pays 27 = .ok (.iload_n 2, 1) := by decide +kernel
theorem dX5_pays_28 : decode cX5_pays 28 = .ok (.invokevirtual 151, 3) := by decide +kernel
theorem dX5_pays_31 : decode cX5_pays 31 = .ok (.aload_n 0, 1) := by decide +kernel
theorem dX5_pays_32 : decode cX5_pays 32 = .ok (.iload_n 2, 1) := by decide +kernel
theorem dX5_pays_33 : decode cX5_pays 33 = .ok (.invokevirtual 113, 3) := by decide +kernel
theorem dX5_pays_36 : decode cX5_pays 36 = .ok (.lstore_n 3, 1) := by decide +kernel
theorem dX5_pays_37 : decode cX5_pays 37 = .ok (.aload_n 0, 1) := by decide +kernel
theorem dX5_pays_38 : decode cX5_pays 38 = .ok (.getfield 61, 3) := by decide +kernel
theorem dX5_pays_41 : decode cX5_pays 41 = .ok (.iconst 0, 1) := by decide +kernel
theorem dX5_pays_42 : decode cX5_pays 42 = .ok (.iaload, 1) := by decide +kernel
theorem dX5_pays_43 : decode cX5_pays 43 = .ok (.aload_n 0, 1) := by decide +kernel
theorem dX5_pays_44 : decode cX5_pays 44 = .ok (.getfield 61, 3) := by decide +kernel
theorem dX5_pays_47 : decode cX5_pays 47 = .ok (.iconst 1, 1) := by decide +kernel
theorem dX5_pays_48 : decode cX5_pays 48 = .ok (.iaload, 1) := by decide +kernel
theorem dX5_pays_49 : decode cX5_pays 49 = .ok (.iadd, 1) := by decide +kernel
theorem dX5_pays_50 : decode cX5_pays 50 = .ok (.aload_n 0, 1) := by decide +kernel
theorem dX5_pays_51 : decode cX5_pays 51 = .ok (.getfield 61, 3) := by decide +kernel
theorem dX5_pays_54 : decode cX5_pays 54 = .ok (.iconst 2, 1) := by decide +kernel
theorem dX5_pays_55 : decode cX5_pays 55 = .ok (.iaload, 1) := by decide +kernel
theorem dX5_pays_56 : decode cX5_pays 56 = .ok (.iadd, 1) := by decide +kernel
theorem dX5_pays_57 : decode cX5_pays 57 = .ok (.aload_n 0, 1) := by decide +kernel
theorem dX5_pays_58 : decode cX5_pays 58 = .ok (.getfield 61, 3) := by decide +kernel
theorem dX5_pays_61 : decode cX5_pays 61 = .ok (.iconst 3, 1) := by decide +kernel
theorem dX5_pays_62 : decode cX5_pays 62 = .ok (.iaload, 1) := by decide +kernel
theorem dX5_pays_63 : decode cX5_pays 63 = .ok (.iadd, 1) := by decide +kernel
theorem dX5_pays_64 : decode cX5_pays 64 = .ok (.istore 5, 2) := by decide +kernel
theorem dX5_pays_66 : decode cX5_pays 66 = .ok (.iconst 0, 1) := by decide +kernel
theorem dX5_pays_67 : decode cX5_pays 67 = .ok (.istore 6, 2) := by decide +kernel
theorem dX5_pays_69 : decode cX5_pays 69 = .ok (.lconst 0, 1) := by decide +kernel
theorem dX5_pays_70 : decode cX5_pays 70 = .ok (.lstore 7, 2) := by decide +kernel
theorem dX5_pays_72 : decode cX5_pays 72 = .ok (.iconst 0, 1) := by decide +kernel
theorem dX5_pays_73 : decode cX5_pays 73 = .ok (.istore 9, 2) := by decide +kernel
theorem dX5_pays_75 : decode cX5_pays 75 = .ok (.iload 9, 2) := by decide +kernel
theorem dX5_pays_77 : decode cX5_pays 77 = .ok (.iconst 4, 1) := by decide +kernel
theorem dX5_pays_78 : decode cX5_pays 78 = .ok (.if_icmp .ge 63, 3) := by decide +kernel
theorem dX5_pays_81 : decode cX5_pays 81 = .ok (.aload_n 0, 1) := by decide +kernel
theorem dX5_pays_82 : decode cX5_pays 82 = .ok (.getfield 61, 3) := by decide +kernel
theorem dX5_pays_85 : decode cX5_pays 85 = .ok (.iload 9, 2) := by decide +kernel
theorem dX5_pays_87 : decode cX5_pays 87 = .ok (.iaload, 1) := by decide +kernel
theorem dX5_pays_88 : decode cX5_pays 88 = .ok (.aload_n 0, 1) := by decide +kernel
theorem dX5_pays_89 : decode cX5_pays 89 = .ok (.getfield 61, 3) := by decide +kernel
theorem dX5_pays_92 : decode cX5_pays 92 = .ok (.iload 6, 2) := by decide +kernel
theorem dX5_pays_94 : decode cX5_pays 94 = .ok (.iaload, 1) := by decide +kernel
theorem dX5_pays_95 : decode cX5_pays 95 = .ok (.if_icmp .le 8, 3) := by decide +kernel
theorem dX5_pays_98 : decode cX5_pays 98 = .ok (.iload 9, 2) := by decide +kernel
theorem dX5_pays_100 : decode cX5_pays 100 = .ok (.goto 5, 3) := by decide +kernel
theorem dX5_pays_103 : decode cX5_pays 103 = .ok (.iload 6, 2) := by decide +kernel
theorem dX5_pays_105 : decode cX5_pays 105 = .ok (.istore 6, 2) := by decide +kernel
theorem dX5_pays_107 : decode cX5_pays 107 = .ok (.lload 7, 2) := by decide +kernel
theorem dX5_pays_109 : decode cX5_pays 109 = .ok (.iload 5, 2) := by decide +kernel
theorem dX5_pays_111 : decode cX5_pays 111 = .ok (.ifCond .ne 7, 3) := by decide +kernel
theorem dX5_pays_114 : decode cX5_pays 114 = .ok (.lconst 0, 1) := by decide +kernel
theorem dX5_pays_115 : decode cX5_pays 115 = .ok (.goto 17, 3) := by decide +kernel
theorem dX5_pays_118 : decode cX5_pays 118 = .ok (.lload_n 3, 1) := by decide +kernel
theorem dX5_pays_119 : decode cX5_pays 119 = .ok (.aload_n 0, 1) := by decide +kernel
theorem dX5_pays_120 : decode cX5_pays 120 = .ok (.getfield 61, 3) := by decide +kernel
theorem dX5_pays_123 : decode cX5_pays 123 = .ok (.iload 9, 2) := by decide +kernel
theorem dX5_pays_125 : decode cX5_pays 125 = .ok (.iaload, 1) := by decide +kernel
theorem dX5_pays_126 : decode cX5_pays 126 = .ok (.i2l, 1) := by decide +kernel
theorem dX5_pays_127 : decode cX5_pays 127 = .ok (.lmul, 1) := by decide +kernel
theorem dX5_pays_128 : decode cX5_pays 128 = .ok (.iload 5, 2) := by decide +kernel
theorem dX5_pays_130 : decode cX5_pays 130 = .ok (.i2l, 1) := by decide +kernel
theorem dX5_pays_131 : decode cX5_pays 131 = .ok (.ldiv, 1) := by decide +kernel
theorem dX5_pays_132 : decode cX5_pays 132 = .ok (.ladd, 1) := by decide +kernel
theorem dX5_pays_133 : decode cX5_pays 133 = .ok (.lstore 7, 2) := by decide +kernel
theorem dX5_pays_135 : decode cX5_pays 135 = .ok (.iinc 9 1, 3) := by decide +kernel
theorem dX5_pays_138 : decode cX5_pays 138 = .ok (.goto (-63), 3) := by decide +kernel
theorem dX5_pays_141 : decode cX5_pays 141 = .ok (.iload 5, 2) := by decide +kernel
theorem dX5_pays_143 : decode cX5_pays 143 = .ok (.ifCond .ne 7, 3) := by decide +kernel
theorem dX5_pays_146 : decode cX5_pays 146 = .ok (.lconst 0, 1) := by decide +kernel
theorem dX5_pays_147 : decode cX5_pays 147 = .ok (.goto 16, 3) := by decide +kernel
theorem dX5_pays_150 : decode cX5_pays 150 = .ok (.lload_n 3, 1) := by decide +kernel
theorem dX5_pays_151 : decode cX5_pays 151 = .ok (.aload_n 0, 1) := by decide +kernel
theorem dX5_pays_152 : decode cX5_pays 152 = .ok (.getfield 61, 3) := by decide +kernel
theorem dX5_pays_155 : decode cX5_pays 155 = .ok (.iload_n 1, 1) := by decide +kernel
theorem dX5_pays_156 : decode cX5_pays 156 = .ok (.iaload, 1) := by decide +kernel
theorem dX5_pays_157 : decode cX5_pays 157 = .ok (.i2l, 1) := by decide +kernel
theorem dX5_pays_158 : decode cX5_pays 158 = .ok (.lmul, 1) := by decide +kernel
theorem dX5_pays_159 : decode cX5_pays 159 = .ok (.iload 5, 2) := by decide +kernel
theorem dX5_pays_161 : decode cX5_pays 161 = .ok (.i2l, 1) := by decide +kernel
theorem dX5_pays_162 : decode cX5_pays 162 = .ok (.ldiv, 1) := by decide +kernel
theorem dX5_pays_163 : decode cX5_pays 163 = .ok (.lstore 9, 2) := by decide +kernel
theorem dX5_pays_165 : decode cX5_pays 165 = .ok (.aload_n 0, 1) := by decide +kernel
theorem dX5_pays_166 : decode cX5_pays 166 = .ok (.getfield 64, 3) := by decide +kernel
theorem dX5_pays_169 : decode cX5_pays 169 = .ok (.iload_n 1, 1) := by decide +kernel
theorem dX5_pays_170 : decode cX5_pays 170 = .ok (.laload, 1) := by decide +kernel
theorem dX5_pays_171 : decode cX5_pays 171 = .ok (.lload 9, 2) := by decide +kernel
theorem dX5_pays_173 : decode cX5_pays 173 = .ok (.ladd, 1) := by decide +kernel
theorem dX5_pays_174 : decode cX5_pays 174 = .ok (.iload_n 1, 1) := by decide +kernel
theorem dX5_pays_175 : decode cX5_pays 175 = .ok (.iload 6, 2) := by decide +kernel
theorem dX5_pays_177 : decode cX5_pays 177 = .ok (.if_icmp .ne 10, 3) := by decide +kernel
theorem dX5_pays_180 : decode cX5_pays 180 = .ok (.lload_n 3, 1) := by decide +kernel
theorem dX5_pays_181 : decode cX5_pays 181 = .ok (.lload 7, 2) := by decide +kernel
theorem dX5_pays_183 : decode cX5_pays 183 = .ok (.lsub, 1) := by decide +kernel
theorem dX5_pays_184 : decode cX5_pays 184 = .ok (.goto 4, 3) := by decide +kernel
theorem dX5_pays_187 : decode cX5_pays 187 = .ok (.lconst 0, 1) := by decide +kernel
theorem dX5_pays_188 : decode cX5_pays 188 = .ok (.ladd, 1) := by decide +kernel
theorem dX5_pays_189 : decode cX5_pays 189 = .ok (.lreturn, 1) := by decide +kernel
theorem dX5_about_0 : decode cX5_about 0 = .ok (.aload_n 0, 1) := by decide +kernel
theorem dX5_about_1 : decode cX5_about 1 = .ok (.iconst 0, 1) := by decide +kernel
theorem dX5_about_2 : decode cX5_about 2 = .ok (.putfield 72, 3) := by decide +kernel
theorem dX5_about_5 : decode cX5_about 5 = .ok (.iconst 0, 1) := by decide +kernel
theorem dX5_about_6 : decode cX5_about 6 = .ok (.istore_n 3, 1) := by decide +kernel
theorem dX5_about_7 : decode cX5_about 7 = .ok (.iload_n 2, 1) := by decide +kernel
theorem dX5_about_8 : decode cX5_about 8 = .ok (.iconst 0, 1) := by decide +kernel
theorem dX5_about_9 : decode cX5_about 9 = .ok (.iconst 3, 1) := by decide +kernel
theorem dX5_about_10 : decode cX5_about 10 = .ok (.invokestatic 80, 3) := by decide +kernel
theorem dX5_about_13 : decode cX5_about 13 = .ok (.ifCond .eq 87, 3) := by decide +kernel
theorem dX5_about_16 : decode cX5_about 16 = .ok (.aload_n 0, 1) := by decide +kernel
theorem dX5_about_17 : decode cX5_about 17 = .ok (.iload_n 1, 1) := by decide +kernel
theorem dX5_about_18 : decode cX5_about 18 = .ok (.invokevirtual 89, 3) := by decide +kernel
theorem dX5_about_21 : decode cX5_about 21 = .ok (.ifCond .ne 5, 3) := by decide +kernel
theorem dX5_about_24 : decode cX5_about 24 = .ok (.iconst (-1), 1) := by decide +kernel
theorem dX5_about_25 : decode cX5_about 25 = .ok (.ireturn, 1) := by decide +kernel
theorem dX5_about_26 : decode cX5_about 26 = .ok (.iconst 0, 1) := by decide +kernel
theorem dX5_about_27 : decode cX5_about 27 = .ok (.istore 4, 2) := by decide +kernel
theorem dX5_about_29 : decode cX5_about 29 = .ok (.iload 4, 2) := by decide +kernel
theorem dX5_about_31 : decode cX5_about 31 = .ok (.bipush 40, 2) := by decide +kernel
theorem dX5_about_33 : decode cX5_about 33 = .ok (.if_icmp .ge 24, 3) := by decide +kernel
theorem dX5_about_36 : decode cX5_about 36 = .ok (.iload_n 3, 1) := by decide +kernel
theorem dX5_about_37 : decode cX5_about 37 = .ok (.aload_n 0, 1) := by decide +kernel
theorem dX5_about_38 : decode cX5_about 38 = .ok (.getfield 34, 3) := by decide +kernel
theorem dX5_about_41 : decode cX5_about 41 = .ok (.bipush 40, 2) := by decide +kernel
theorem dX5_about_43 : decode cX5_about 43 = .ok (.iload_n 1, 1) := by decide +kernel
theorem dX5_about_44 : decode cX5_about 44 = .ok (.imul, 1) := by decide +kernel
theorem dX5_about_45 : decode cX5_about 45 = .ok (.iload 4, 2) := by decide +kernel
theorem dX5_about_47 : decode cX5_about 47 = .ok (.iadd, 1) := by decide +kernel
theorem dX5_about_48 : decode cX5_about 48 = .ok (.iaload, 1) := by decide +kernel
theorem dX5_about_49 : decode cX5_about 49 = .ok (.iadd, 1) := by decide +kernel
theorem dX5_about_50 : decode cX5_about 50 = .ok (.istore_n 3, 1) := by decide +kernel
theorem dX5_about_51 : decode cX5_about 51 = .ok (.iinc 4 1, 3) := by decide +kernel
theorem dX5_about_54 : decode cX5_about 54 = .ok (.goto (-25), 3) := by decide +kernel
theorem dX5_about_57 : decode cX5_about 57 = .ok (.iload_n 2, 1) := by decide +kernel
theorem dX5_about_58 : decode cX5_about 58 = .ok (.ifCond .ne 12, 3) := by decide +kernel
theorem dX5_about_61 : decode cX5_about 61 = .ok (.aload_n 0, 1) := by decide +kernel
theorem dX5_about_62 : decode cX5_about 62 = .ok (.getfield 22, 3) := by decide +kernel
theorem dX5_about_65 : decode cX5_about 65 = .ok (.iload_n 1, 1) := by decide +kernel
theorem dX5_about_66 : decode cX5_about 66 = .ok (.iaload, 1) := by decide +kernel
theorem dX5_about_67 : decode cX5_about 67 = .ok (.goto 32, 3) := by decide +kernel
theorem dX5_about_70 : decode cX5_about 70 = .ok (.iload_n 2, 1) := by decide +kernel
theorem dX5_about_71 : decode cX5_about 71 = .ok (.iconst 1, 1) := by decide +kernel
theorem dX5_about_72 : decode cX5_about 72 = .ok (.if_icmp .ne 12, 3) := by decide +kernel
theorem dX5_about_75 : decode cX5_about 75 = .ok (.aload_n 0, 1) := by decide +kernel
theorem dX5_about_76 : decode cX5_about 76 = .ok (.getfield 25, 3) := by decide +kernel
theorem dX5_about_79 : decode cX5_about 79 = .ok (.iload_n 1, 1) := by decide +kernel
theorem dX5_about_80 : decode cX5_about 80 = .ok (.iaload, 1) := by decide +kernel
theorem dX5_about_81 : decode cX5_about 81 = .ok (.goto 18, 3) := by decide +kernel
theorem dX5_about_84 : decode cX5_about 84 = .ok (.iload_n 2, 1) := by decide +kernel
theorem dX5_about_85 : decode cX5_about 85 = .ok (.iconst 2, 1) := by decide +kernel
theorem dX5_about_86 : decode cX5_about 86 = .ok (.if_icmp .ne 12, 3) := by decide +kernel
theorem dX5_about_89 : decode cX5_about 89 = .ok (.aload_n 0, 1) := by decide +kernel
theorem dX5_about_90 : decode cX5_about 90 = .ok (.getfield 28, 3) := by decide +kernel
theorem dX5_about_93 : decode cX5_about 93 = .ok (.iload_n 1, 1) := by decide +kernel
theorem dX5_about_94 : decode cX5_about 94 = .ok (.iaload, 1) := by decide +kernel
theorem dX5_about_95 : decode cX5_about 95 = .ok (.goto 4, 3) := by decide +kernel
theorem dX5_about_98 : decode cX5_about 98 = .ok (.iload_n 3, 1) := by decide +kernel
theorem dX5_about_99 : decode cX5_about 99 = .ok (.ireturn, 1) := by decide +kernel
theorem dX5_about_100 : decode cX5_about 100 = .ok (.iload_n 2, 1) := by decide +kernel
theorem dX5_about_101 : decode cX5_about 101 = .ok (.bipush 10, 2) := by decide +kernel
theorem dX5_about_103 : decode cX5_about 103 = .ok (.bipush 13, 2) := by decide +kernel
theorem dX5_about_105 : decode cX5_about 105 = .ok (.invokestatic 80, 3) := by decide +kernel
theorem dX5_about_108 : decode cX5_about 108 = .ok (.ifCond .eq 11, 3) := by decide +kernel
theorem dX5_about_111 : decode cX5_about 111 = .ok (.aload_n 0, 1) := by decide +kernel
theorem dX5_about_112 : decode cX5_about 112 = .ok (.iload_n 1, 1) := by decide +kernel
theorem dX5_about_113 : decode cX5_about 113 = .ok (.invokevirtual 84, 3) := by decide +kernel
theorem dX5_about_116 : decode cX5_about 116 = .ok (.ifCond .ne 5, 3) := by decide +kernel
theorem dX5_about_119 : decode cX5_about 119 = .ok (.iconst (-1), 1) := by decide +kernel
theorem dX5_about_120 : decode cX5_about 120 = .ok (.ireturn, 1) := by decide +kernel
theorem dX5_about_121 : decode cX5_about 121 = .ok (.iconst 0, 1) := by decide +kernel
theorem dX5_about_122 : decode cX5_about 122 = .ok (.istore 4, 2) := by decide +kernel
theorem dX5_about_124 : decode cX5_about 124 = .ok (.iconst 0, 1) := by decide +kernel
theorem dX5_about_125 : decode cX5_about 125 = .ok (.istore 5, 2) := by decide +kernel
theorem dX5_about_127 : decode cX5_about 127 = .ok (.iconst 0, 1) := by decide +kernel
theorem dX5_about_128 : decode cX5_about 128 = .ok (.istore 6, 2) := by decide +kernel
theorem dX5_about_130 : decode cX5_about 130 = .ok (.iload 6, 2) := by decide +kernel
theorem dX5_about_132 : decode cX5_about 132 = .ok (.aload_n 0, 1) := by decide +kernel
theorem dX5_about_133 : decode cX5_about 133 = .ok (.getfield 7, 3) := by decide +kernel
theorem dX5_about_136 : decode cX5_about 136 = .ok (.iconst 0, 1) := by decide +kernel
theorem dX5_about_137 : decode cX5_about 137 = .ok (.iaload, 1) := by decide +kernel
theorem dX5_about_138 : decode cX5_about 138 = .ok (.if_icmp .ge 47, 3) := by decide +kernel
theorem dX5_about_141 : decode cX5_about 141 = .ok (.iload 4, 2) := by decide +kernel
theorem dX5_about_143 : decode cX5_about 143 = .ok (.aload_n 0, 1) := by decide +kernel
theorem dX5_about_144 : decode cX5_about 144 = .ok (.iload_n 1, 1) := by decide +kernel
theorem dX5_about_145 : decode cX5_about 145 = .ok (.iload 6, 2) := by decide +kernel
theorem dX5_about_147 : decode cX5_about 147 = .ok (.invokevirtual 103, 3) := by decide +kernel
theorem dX5_about_150 : decode cX5_about 150 = .ok (.iadd, 1) := by decide +kernel
theorem dX5_about_151 : decode cX5_about 151 = .ok (.istore 4, 2) := by decide +kernel
theorem dX5_about_153 : decode cX5_about 153 = .ok (.aload_n 0, 1) := by decide +kernel
theorem dX5_about_154 : decode cX5_about 154 = .ok (.iload_n 1, 1) := by decide +kernel
theorem dX5_about_155 : decode cX5_about 155 = .ok (.iload 6, 2) := by decide +kernel
theorem dX5_about_157 : decode cX5_about 157 = .ok (.invokevirtual 103, 3) := by decide +kernel
theorem dX5_about_160 : decode cX5_about 160 = .ok (.iload 5, 2) := by decide +kernel
theorem dX5_about_162 : decode cX5_about 162 = .ok (.if_icmp .le 13, 3) := by decide +kernel
theorem dX5_about_165 : decode cX5_about 165 = .ok (.aload_n 0, 1) := by decide +kernel
theorem dX5_about_166 : decode cX5_about 166 = .ok (.iload_n 1, 1) := by decide +kernel
theorem dX5_about_167 : decode cX5_about 167 = .ok (.iload 6, 2) := by decide +kernel
theorem dX5_about_169 : decode cX5_about 169 = .ok (.invokevirtual 103, 3) := by decide +kernel
theorem dX5_about_172 : decode cX5_about 172 = .ok (.goto 5, 3) := by decide +kernel
theorem dX5_about_175 : decode cX5_about 175 = .ok (.iload 5, 2) := by decide +kernel
theorem dX5_about_177 : decode cX5_about 177 = .ok (.istore 5, 2) := by decide +kernel
theorem dX5_about_179 : decode cX5_about 179 = .ok (.iinc 6 1, 3) := by decide +kernel
theorem dX5_about_182 : decode cX5_about 182 = .ok (.goto (-52), 3) := by decide +kernel
theorem dX5_about_185 : decode cX5_about 185 = .ok (.iconst 0, 1) := by decide +kernel
theorem dX5_about_186 : decode cX5_about 186 = .ok (.istore 6, 2) := by decide +kernel
theorem dX5_about_188 : decode cX5_about 188 = .ok (.iload 6, 2) := by decide +kernel
theorem dX5_about_190 : decode cX5_about 190 = .ok (.aload_n 0, 1) := by decide +kernel
theorem dX5_about_191 : decode cX5_about 191 = .ok (.getfield 19, 3) := by decide +kernel
theorem dX5_about_194 : decode cX5_about 194 = .ok (.iconst 0, 1) := by decide +kernel
theorem dX5_about_195 : decode cX5_about 195 = .ok (.iaload, 1) := by decide +kernel
theorem dX5_about_196 : decode cX5_about 196 = .ok (.if_icmp .ge 28, 3) := by decide +kernel
theorem dX5_about_199 : decode cX5_about 199 = .ok (.iload_n 3, 1) := by decide +kernel
theorem dX5_about_200 : decode cX5_about 200 = .ok (.aload_n 0, 1) := by decide +kernel
theorem dX5_about_201 : decode cX5_about 201 = .ok (.getfield 22, 3) := by decide +kernel
theorem dX5_about_204 : decode cX5_about 204 = .ok (.iload 6, 2) := by decide +kernel
theorem dX5_about_206 : decode cX5_about 206 = .ok (.iaload, 1) := by decide +kernel
theorem dX5_about_207 : decode cX5_about 207 = .ok (.iload_n 1, 1) := by decide +kernel
theorem dX5_about_208 : decode cX5_about 208 = .ok (.if_icmp .ne 7, 3) := by decide +kernel
theorem dX5_about_211 : decode cX5_about 211 = .ok (.iconst 1, 1) := by decide +kernel
theorem dX5_about_212 : decode cX5_about 212 = .ok (.goto 4, 3) := by decide +kernel
theorem dX5_about_215 : decode cX5_about 215 = .ok (.iconst 0, 1) := by decide +kernel
theorem dX5_about_216 : decode cX5_about 216 = .ok (.iadd, 1) := by decide +kernel
theorem dX5_about_217 : decode cX5_about 217 = .ok (.istore_n 3, 1) := by decide +kernel
theorem dX5_about_218 : decode cX5_about 218 = .ok (.iinc 6 1, 3) := by decide +kernel
theorem dX5_about_221 : decode cX5_about 221 = .ok (.goto (-33), 3) := by decide +kernel
theorem dX5_about_224 : decode cX5_about 224 = .ok (.iload_n 2, 1) := by decide +kernel
theorem dX5_about_225 : decode cX5_about 225 = .ok (.bipush 10, 2) := by decide +kernel
theorem dX5_about_227 : decode cX5_about 227 = .ok (.if_icmp .ne 12, 3) := by decide +kernel
theorem dX5_about_230 : decode cX5_about 230 = .ok (.aload_n 0, 1) := by decide +kernel
theorem dX5_about_231 : decode cX5_about 231 = .ok (.getfield 16, 3) := by decide +kernel
theorem dX5_about_234 : decode cX5_about 234 = .ok (.iload_n 1, 1) := by decide +kernel
theorem dX5_about_235 : decode cX5_about 235 = .ok (.iaload, 1) := by decide +kernel
theorem dX5_about_236 : decode cX5_about 236 = .ok (.goto 26, 3) := by decide +kernel
theorem dX5_about_239 : decode cX5_about 239 = .ok (.iload_n 2, 1) := by decide +kernel
theorem dX5_about_240 : decode cX5_about 240 = .ok (.bipush 11, 2) := by decide +kernel
theorem dX5_about_242 : decode cX5_about 242 = .ok (.if_icmp .ne 7, 3) := by decide +kernel
theorem dX5_about_245 : decode cX5_about 245 = .ok (.iload_n 3, 1) := by decide +kernel
theorem dX5_about_246 : decode cX5_about 246 = .ok (.goto 16, 3) := by decide +kernel
theorem dX5_about_249 : decode cX5_about 249 = .ok (.iload_n 2, 1) := by decide +kernel
theorem dX5_about_250 : decode cX5_about 250 = .ok (.bipush 12, 2) := by decide +kernel
theorem dX5_about_252 : decode cX5_about 252 = .ok (.if_icmp .ne 8, 3) := by decide +kernel
theorem dX5_about_255 : decode cX5_about 255 = .ok (.iload 4, 2) := by decide +kernel
theorem dX5_about_257 : decode cX5_about 257 = .ok (.goto 5, 3) := by decide +kernel
theorem dX5_about_260 : decode cX5_about 260 = .ok (.iload 5, 2) := by decide +kernel
theorem dX5_about_262 : decode cX5_about 262 = .ok (.ireturn, 1) := by decide +kernel
theorem dX5_count_0 : decode cX5_count 0 = .ok (.aload_n 0, 1) := by decide +kernel
theorem dX5_count_1 : decode cX5_count 1 = .ok (.iconst 0, 1) := by decide +kernel
theorem dX5_count_2 : decode cX5_count 2 = .ok (.putfield 72, 3) := by decide +kernel
theorem dX5_count_5 : decode cX5_count 5 = .ok (.iload_n 1, 1) := by decide +kernel
theorem dX5_count_6 : decode cX5_count 6 = .ok (.ifCond .ne 12, 3) := by decide +kernel
theorem dX5_count_9 : decode cX5_count 9 = .ok (.aload_n 0, 1) := by decide +kernel
theorem dX5_count_10 : decode cX5_count 10 = .ok (.getfield 7, 3) := by decide +kernel
theorem dX5_count_13 : decode cX5_count 13 = .ok (.iconst 0, 1) := by decide +kernel
theorem dX5_count_14 : decode cX5_count 14 = .ok (.iaload, 1) := by decide +kernel
theorem dX5_count_15 : decode cX5_count 15 = .ok (.goto 32, 3) := by decide +kernel
theorem dX5_count_18 : decode cX5_count 18 = .ok (.iload_n 1, 1) := by decide +kernel
theorem dX5_count_19 : decode cX5_count 19 = .ok (.iconst 1, 1) := by decide +kernel
theorem dX5_count_20 : decode cX5_count 20 = .ok (.if_icmp .ne 12, 3) := by decide +kernel
theorem dX5_count_23 : decode cX5_count 23 = .ok (.aload_n 0, 1) := by decide +kernel
theorem dX5_count_24 : decode cX5_count 24 = .ok (.getfield 13, 3) := by decide +kernel
theorem dX5_count_27 : decode cX5_count 27 = .ok (.iconst 0, 1) := by decide +kernel
theorem dX5_count_28 : decode cX5_count 28 = .ok (.iaload, 1) := by decide +kernel
theorem dX5_count_29 : decode cX5_count 29 = .ok (.goto 18, 3) := by decide +kernel
theorem dX5_count_32 : decode cX5_count 32 = .ok (.iload_n 1, 1) := by decide +kernel
theorem dX5_count_33 : decode cX5_count 33 = .ok (.iconst 2, 1) := by decide +kernel
theorem dX5_count_34 : decode cX5_count 34 = .ok (.if_icmp .ne 12, 3) := by decide +kernel
theorem dX5_count_37 : decode cX5_count 37 = .ok (.aload_n 0, 1) := by decide +kernel
theorem dX5_count_38 : decode cX5_count 38 = .ok (.getfield 19, 3) := by decide +kernel
theorem dX5_count_41 : decode cX5_count 41 = .ok (.iconst 0, 1) := by decide +kernel
theorem dX5_count_42 : decode cX5_count 42 = .ok (.iaload, 1) := by decide +kernel
theorem dX5_count_43 : decode cX5_count 43 = .ok (.goto 4, 3) := by decide +kernel
theorem dX5_count_46 : decode cX5_count 46 = .ok (.iconst (-1), 1) := by decide +kernel
theorem dX5_count_47 : decode cX5_count 47 = .ok (.ireturn, 1) := by decide +kernel
theorem dX5_image_0 : decode cX5_image 0 = .ok (.aload_n 0, 1) := by decide +kernel
theorem dX5_image_1 : decode cX5_image 1 = .ok (.iconst 0, 1) := by decide +kernel
theorem dX5_image_2 : decode cX5_image 2 = .ok (.putfield 72, 3) := by decide +kernel
theorem dX5_image_5 : decode cX5_image 5 = .ok (.iload_n 1, 1) := by decide +kernel
theorem dX5_image_6 : decode cX5_image 6 = .ok (.iconst 0, 1) := by decide +kernel
theorem dX5_image_7 : decode cX5_image 7 = .ok (.iconst 2, 1) := by decide +kernel
theorem dX5_image_8 : decode cX5_image 8 = .ok (.invokestatic 80, 3) := by decide +kernel
theorem dX5_image_11 : decode cX5_image 11 = .ok (.ifCond .ne 5, 3) := by decide +kernel
theorem dX5_image_14 : decode cX5_image 14 = .ok (.iconst 0, 1) := by decide +kernel
theorem dX5_image_15 : decode cX5_image 15 = .ok (.ireturn, 1) := by decide +kernel
theorem dX5_image_16 : decode cX5_image 16 = .ok (.aload_n 0, 1) := by decide +kernel
theorem dX5_image_17 : decode cX5_image 17 = .ok (.iconst 0, 1) := by decide +kernel
theorem dX5_image_18 : decode cX5_image 18 = .ok (.iload_n 1, 1) := by decide +kernel
theorem dX5_image_19 : decode cX5_image 19 = .ok (.iconst 1, 1) := by decide +kernel
theorem dX5_image_20 : decode cX5_image 20 = .ok (.iadd, 1) := by decide +kernel
theorem dX5_image_21 : decode cX5_image 21 = .ok (.invokevirtual 154, 3) := by decide +kernel
theorem dX5_image_24 : decode cX5_image 24 = .ok (.aload_n 0, 1) := by decide +kernel
theorem dX5_image_25 : decode cX5_image 25 = .ok (.getfield 68, 3) := by decide +kernel
theorem dX5_image_28 : decode cX5_image 28 = .ok (.iload_n 1, 1) := by decide +kernel
theorem dX5_image_29 : decode cX5_image 29 = .ok (.iconst 1, 1) := by decide +kernel
theorem dX5_image_30 : decode cX5_image 30 = .ok (.bastore, 1) := by decide +kernel
theorem dX5_image_31 : decode cX5_image 31 = .ok (.iconst 1, 1) := by decide +kernel
theorem dX5_image_32 : decode cX5_image 32 = .ok (.ireturn, 1) := by decide +kernel
theorem dX5_again_0 : decode cX5_again 0 = .ok (.aload_n 0, 1) := by decide +kernel
theorem dX5_again_1 : decode cX5_again 1 = .ok (.iconst 0, 1) := by decide +kernel
theorem dX5_again_2 : decode cX5_again 2 = .ok (.putfield 72, 3) := by decide +kernel
theorem dX5_again_5 : decode cX5_again 5 = .ok (.iload_n 1, 1) := by decide +kernel
theorem dX5_again_6 : decode cX5_again 6 = .ok (.iconst 0, 1) := by decide +kernel
theorem dX5_again_7 : decode cX5_again 7 = .ok (.iconst 2, 1) := by decide +kernel
theorem dX5_again_8 : decode cX5_again 8 = .ok (.invokestatic 80, 3) := by decide +kernel
theorem dX5_again_11 : decode cX5_again 11 = .ok (.ifCond .eq 12, 3) := by decide +kernel
theorem dX5_again_14 : decode cX5_again 14 = .ok (.aload_n 0, 1) := by decide +kernel
theorem dX5_again_15 : decode cX5_again 15 = .ok (.getfield 68, 3) := by decide +kernel
theorem dX5_again_18 : decode cX5_again 18 = .ok (.iload_n 1, 1) := by decide +kernel
theorem dX5_again_19 : decode cX5_again 19 = .ok (.baload, 1) := by decide +kernel
theorem dX5_again_20 : decode cX5_again 20 = .ok (.ifCond .ne 5, 3) := by decide +kernel
theorem dX5_again_23 : decode cX5_again 23 = .ok (.iconst 0, 1) := by decide +kernel
theorem dX5_again_24 : decode cX5_again 24 = .ok (.ireturn, 1) := by decide +kernel
theorem dX5_again_25 : decode cX5_again 25 = .ok (.aload_n 0, 1) := by decide +kernel
theorem dX5_again_26 : decode cX5_again 26 = .ok (.iload_n 1, 1) := by decide +kernel
theorem dX5_again_27 : decode cX5_again 27 = .ok (.iconst 1, 1) := by decide +kernel
theorem dX5_again_28 : decode cX5_again 28 = .ok (.iadd, 1) := by decide +kernel
theorem dX5_again_29 : decode cX5_again 29 = .ok (.iconst 0, 1) := by decide +kernel
theorem dX5_again_30 : decode cX5_again 30 = .ok (.invokevirtual 154, 3) := by decide +kernel
theorem dX5_again_33 : decode cX5_again 33 = .ok (.iconst 1, 1) := by decide +kernel
theorem dX5_again_34 : decode cX5_again 34 = .ok (.ireturn, 1) := by decide +kernel

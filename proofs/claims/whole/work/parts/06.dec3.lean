theorem dX6_init_0 : decode cX6_init 0 = .ok (.aload_n 0, 1) := by decide +kernel
theorem dX6_init_1 : decode cX6_init 1 = .ok (.invokespecial 1, 3) := by decide +kernel
theorem dX6_init_4 : decode cX6_init 4 = .ok (.aload_n 0, 1) := by decide +kernel
theorem dX6_init_5 : decode cX6_init 5 = .ok (.sipush 1137, 3) := by decide +kernel
theorem dX6_init_8 : decode cX6_init 8 = .ok (.newarray .int, 2) := by decide +kernel
theorem dX6_init_10 : decode cX6_init 10 = .ok (.putfield 7, 3) := by decide +kernel
theorem dX6_init_13 : decode cX6_init 13 = .ok (.aload_n 0, 1) := by decide +kernel
theorem dX6_init_14 : decode cX6_init 14 = .ok (.sipush 1137, 3) := by decide +kernel
theorem dX6_init_17 : decode cX6_init 17 = .ok (.newarray .int, 2) := by decide +kernel
theorem dX6_init_19 : decode cX6_init 19 = .ok (.putfield 13, 3) := by decide +kernel
theorem dX6_init_22 : decode cX6_init 22 = .ok (.aload_n 0, 1) := by decide +kernel
theorem dX6_init_23 : decode cX6_init 23 = .ok (.sipush 6822, 3) := by decide +kernel
theorem dX6_init_26 : decode cX6_init 26 = .ok (.newarray .int, 2) := by decide +kernel
theorem dX6_init_28 : decode cX6_init 28 = .ok (.putfield 16, 3) := by decide +kernel
theorem dX6_init_31 : decode cX6_init 31 = .ok (.aload_n 0, 1) := by decide +kernel
theorem dX6_init_32 : decode cX6_init 32 = .ok (.bipush 60, 2) := by decide +kernel
theorem dX6_init_34 : decode cX6_init 34 = .ok (.newarray .int, 2) := by decide +kernel
theorem dX6_init_36 : decode cX6_init 36 = .ok (.putfield 19, 3) := by decide +kernel
theorem dX6_init_39 : decode cX6_init 39 = .ok (.aload_n 0, 1) := by decide +kernel
theorem dX6_init_40 : decode cX6_init 40 = .ok (.bipush 75, 2) := by decide +kernel
theorem dX6_init_42 : decode cX6_init 42 = .ok (.newarray .int, 2) := by decide +kernel
theorem dX6_init_44 : decode cX6_init 44 = .ok (.putfield 22, 3) := by decide +kernel
theorem dX6_init_47 : decode cX6_init 47 = .ok (.aload_n 0, 1) := by decide +kernel
theorem dX6_init_48 : decode cX6_init 48 = .ok (.iconst 5, 1) := by decide +kernel
theorem dX6_init_49 : decode cX6_init 49 = .ok (.newarray .int, 2) := by decide +kernel
theorem dX6_init_51 : decode cX6_init 51 = .ok (.putfield 25, 3) := by decide +kernel
theorem dX6_init_54 : decode cX6_init 54 = .ok (.aload_n 0, 1) := by decide +kernel
theorem dX6_init_55 : decode cX6_init 55 = .ok (.iconst 5, 1) := by decide +kernel
theorem dX6_init_56 : decode cX6_init 56 = .ok (.newarray .int, 2) := by decide +kernel
theorem dX6_init_58 : decode cX6_init 58 = .ok (.putfield 28, 3) := by decide +kernel
theorem dX6_init_61 : decode cX6_init 61 = .ok (.aload_n 0, 1) := by decide +kernel
theorem dX6_init_62 : decode cX6_init 62 = .ok (.iconst 5, 1) := by decide +kernel
theorem dX6_init_63 : decode cX6_init 63 = .ok (.newarray .int, 2) := by decide +kernel
theorem dX6_init_65 : decode cX6_init 65 = .ok (.putfield 31, 3) := by decide +kernel
theorem dX6_init_68 : decode cX6_init 68 = .ok (.aload_n 0, 1) := by decide +kernel
theorem dX6_init_69 : decode cX6_init 69 = .ok (.iconst 5, 1) := by decide +kernel
theorem dX6_init_70 : decode cX6_init 70 = .ok (.newarray .int, 2) := by decide +kernel
theorem dX6_init_72 : decode cX6_init 72 = .ok (.putfield 34, 3) := by decide +kernel
theorem dX6_init_75 : decode cX6_init 75 = .ok (.aload_n 0, 1) := by decide +kernel
theorem dX6_init_76 : decode cX6_init 76 = .ok (.iconst 5, 1) := by decide +kernel
theorem dX6_init_77 : decode cX6_init 77 = .ok (.newarray .int, 2) := by decide +kernel
theorem dX6_init_79 : decode cX6_init 79 = .ok (.putfield 37, 3) := by decide +kernel
theorem dX6_init_82 : decode cX6_init 82 = .ok (.aload_n 0, 1) := by decide +kernel
theorem dX6_init_83 : decode cX6_init 83 = .ok (.bipush 125, 2) := by decide +kernel
theorem dX6_init_85 : decode cX6_init 85 = .ok (.newarray .int, 2) := by decide +kernel
theorem dX6_init_87 : decode cX6_init 87 = .ok (.putfield 40, 3) := by decide +kernel
theorem dX6_init_90 : decode cX6_init 90 = .ok (.aload_n 0, 1) := by decide +kernel
theorem dX6_init_91 : decode cX6_init 91 = .ok (.bipush 125, 2) := by decide +kernel
theorem dX6_init_93 : decode cX6_init 93 = .ok (.newarray .int, 2) := by decide +kernel
theorem dX6_init_95 : decode cX6_init 95 = .ok (.putfield 43, 3) := by decide +kernel
theorem dX6_init_98 : decode cX6_init 98 = .ok (.aload_n 0, 1) := by decide +kernel
theorem dX6_init_99 : decode cX6_init 99 = .ok (.sipush 500, 3) := by decide +kernel
theorem dX6_init_102 : decode cX6_init 102 = .ok (.newarray .int, 2) := by decide +kernel
theorem dX6_init_104 : decode cX6_init 104 = .ok (.putfield 46, 3) := by decide +kernel
theorem dX6_init_107 : decode cX6_init 107 = .ok (.aload_n 0, 1) := by decide +kernel
theorem dX6_init_108 : decode cX6_init 108 = .ok (.bipush 25, 2) := by decide +kernel
theorem dX6_init_110 : decode cX6_init 110 = .ok (.newarray .int, 2) := by decide +kernel
theorem dX6_init_112 : decode cX6_init 112 = .ok (.putfield 49, 3) := by decide +kernel
theorem dX6_init_115 : decode cX6_init 115 = .ok (.aload_n 0, 1) := by decide +kernel
theorem dX6_init_116 : decode cX6_init 116 = .ok (.bipush 25, 2) := by decide +kernel
theorem dX6_init_118 : decode cX6_init 118 = .ok (.newarray .int, 2) := by decide +kernel
theorem dX6_init_120 : decode cX6_init 120 = .ok (.putfield 52, 3) := by decide +kernel
theorem dX6_init_123 : decode cX6_init 123 = .ok (.aload_n 0, 1) := by decide +kernel
theorem dX6_init_124 : decode cX6_init 124 = .ok (.iconst 5, 1) := by decide +kernel
theorem dX6_init_125 : decode cX6_init 125 = .ok (.newarray .int, 2) := by decide +kernel
theorem dX6_init_127 : decode cX6_init 127 = .ok (.putfield 55, 3) := by decide +kernel
theorem dX6_init_130 : decode cX6_init 130 = .ok (.aload_n 0, 1) := by decide +kernel
theorem dX6_init_131 : decode cX6_init 131 = .ok (.getfield 7, 3) := by decide +kernel
theorem dX6_init_134 : decode cX6_init 134 = .ok (.iconst 1, 1) := by decide +kernel
theorem dX6_init_135 : decode cX6_init 135 = .ok (.bipush 10, 2) := by decide +kernel
theorem dX6_init_137 : decode cX6_init 137 = .ok (.iastore, 1) := by decide +kernel
theorem dX6_init_138 : decode cX6_init 138 = .ok (.aload_n 0, 1) := by decide +kernel
theorem dX6_init_139 : decode cX6_init 139 = .ok (.iconst 3, 1) := by decide +kernel
theorem dX6_init_140 : decode cX6_init 140 = .ok (.iconst 3, 1) := by decide +kernel
theorem dX6_init_141 : decode cX6_init 141 = .ok (.invokevirtual 58, 3) := by decide +kernel
theorem dX6_init_144 : decode cX6_init 144 = .ok (.return_, 1) := by decide +kernel
theorem dX6_thrown_0 : decode cX6_thrown 0 = .ok (.aload_n 0, 1) := by decide +kernel
theorem dX6_thrown_1 : decode cX6_thrown 1 = .ok (.getfield 62, 3) := by decide +kernel
theorem dX6_thrown_4 : decode cX6_thrown 4 = .ok (.ireturn, 1) := by decide +kernel
theorem dX6_fails_0 : decode cX6_fails 0 = .ok (.aload_n 0, 1) := by decide +kernel
theorem dX6_fails_1 : decode cX6_fails 1 = .ok (.iload_n 1, 1) := by decide +kernel
theorem dX6_fails_2 : decode cX6_fails 2 = .ok (.putfield 62, 3) := by decide +kernel
theorem dX6_fails_5 : decode cX6_fails 5 = .ok (.iconst 0, 1) := by decide +kernel
theorem dX6_fails_6 : decode cX6_fails 6 = .ok (.ireturn, 1) := by decide +kernel
theorem dX6_in_0 : decode cX6_in 0 = .ok (.iload_n 0, 1) := by decide +kernel
theorem dX6_in_1 : decode cX6_in 1 = .ok (.iload_n 1, 1) := by decide +kernel
theorem dX6_in_2 : decode cX6_in 2 = .ok (.if_icmp .lt 12, 3) := by decide +kernel
theorem dX6_in_5 : decode cX6_in 5 = .ok (.iload_n 0, 1) := by decide +kernel
theorem dX6_in_6 : decode cX6_in 6 = .ok (.iload_n 2, 1) := by decide +kernel
theorem dX6_in_7 : decode cX6_in 7 = .ok (.if_icmp .gt 7, 3) := by decide +kernel
theorem dX6_in_10 : decode cX6_in 10 = .ok (.iconst 1, 1) := by decide +kernel
theorem dX6_in_11 : decode cX6_in 11 = .ok (.goto 4, 3) := by decide +kernel
theorem dX6_in_14 : decode cX6_in 14 = .ok (.iconst 0, 1) := by decide +kernel
theorem dX6_in_15 : decode cX6_in 15 = .ok (.ireturn, 1) := by decide +kernel
theorem dX6_isTable_0 : decode cX6_isTable 0 = .ok (.iload_n 1, 1) := by decide +kernel
theorem dX6_isTable_1 : decode cX6_isTable 1 = .ok (.iconst 0, 1) := by decide +kernel
theorem dX6_isTable_2 : decode cX6_isTable 2 = .ok (.aload_n 0, 1) := by decide +kernel
theorem dX6_isTable_3 : decode cX6_isTable 3 = .ok (.iconst 0, 1) := by decide +kernel
theorem dX6_isTable_4 : decode cX6_isTable 4 = .ok (.iaload, 1) := by decide +kernel
theorem dX6_isTable_5 : decode cX6_isTable 5 = .ok (.iconst 1, 1) := by decide +kernel
theorem dX6_isTable_6 : decode cX6_isTable 6 = .ok (.isub, 1) := by decide +kernel
theorem dX6_isTable_7 : decode cX6_isTable 7 = .ok (.invokestatic 66, 3) := by decide +kernel
theorem dX6_isTable_10 : decode cX6_isTable 10 = .ok (.ireturn, 1) := by decide +kernel
theorem dX6_isSquare_0 : decode cX6_isSquare 0 = .ok (.aload_n 0, 1) := by decide +kernel
theorem dX6_isSquare_1 : decode cX6_isSquare 1 = .ok (.getfield 7, 3) := by decide +kernel
theorem dX6_isSquare_4 : decode cX6_isSquare 4 = .ok (.iload_n 1, 1) := by decide +kernel
theorem dX6_isSquare_5 : decode cX6_isSquare 5 = .ok (.invokestatic 70, 3) := by decide +kernel
theorem dX6_isSquare_8 : decode cX6_isSquare 8 = .ok (.ifCond .eq 44, 3) := by decide +kernel
theorem dX6_isSquare_11 : decode cX6_isSquare 11 = .ok (.iload_n 2, 1) := by decide +kernel
theorem dX6_isSquare_12 : decode cX6_isSquare 12 = .ok (.iconst 0, 1) := by decide +kernel
theorem dX6_isSquare_13 : decode cX6_isSquare 13 = .ok (.aload_n 0, 1) := by decide +kernel
theorem dX6_isSquare_14 : decode cX6_isSquare 14 = .ok (.getfield 7, 3) := by decide +kernel
theorem dX6_isSquare_17 : decode cX6_isSquare 17 = .ok (.iconst 2, 1) := by decide +kernel
theorem dX6_isSquare_18 : decode cX6_isSquare 18 = .ok (.iload_n 1, 1) := by decide +kernel
theorem dX6_isSquare_19 : decode cX6_isSquare 19 = .ok (.iadd, 1) := by decide +kernel
theorem dX6_isSquare_20 : decode cX6_isSquare 20 = .ok (.iaload, 1) := by decide +kernel
theorem dX6_isSquare_21 : decode cX6_isSquare 21 = .ok (.iconst 1, 1) := by decide +kernel
theorem dX6_isSquare_22 : decode cX6_isSquare 22 = .ok (.isub, 1) := by decide +kernel
theorem dX6_isSquare_23 : decode cX6_isSquare 23 = .ok (.invokestatic 66, 3) := by decide +kernel
theorem dX6_isSquare_26 : decode cX6_isSquare 26 = .ok (.ifCond .eq 26, 3) := by decide +kernel
theorem dX6_isSquare_29 : decode cX6_isSquare 29 = .ok (.iload_n 3, 1) := by decide +kernel
theorem dX6_isSquare_30 : decode cX6_isSquare 30 = .ok (.iconst 0, 1) := by decide +kernel
theorem dX6_isSquare_31 : decode cX6_isSquare 31 = .ok (.aload_n 0, 1) := by decide +kernel
theorem dX6_isSquare_32 : decode cX6_isSquare 32 = .ok (.getfield 7, 3) := by decide +kernel
theorem dX6_isSquare_35 : decode cX6_isSquare 35 = .ok (.bipush 7, 2) := by decide +kernel
theorem dX6_isSquare_37 : decode cX6_isSquare 37 = .ok (.iload_n 1, 1) := by decide +kernel
theorem dX6_isSquare_38 : decode cX6_isSquare 38 = .ok (.iadd, 1) := by decide +kernel
theorem dX6_isSquare_39 : decode cX6_isSquare 39 = .ok (.iaload, 1) := by decide +kernel
theorem dX6_isSquare_40 : decode cX6_isSquare 40 = .ok (.iconst 1, 1) := by decide +kernel
theorem dX6_isSquare_41 : decode cX6_isSquare 41 = .ok (.isub, 1) := by decide +kernel
theorem dX6_isSquare_42 : decode cX6_isSquare 42 = .ok (.invokestatic 66, 3) := by decide +kernel
theorem dX6_isSquare_45 : decode cX6_isSquare 45 = .ok (.ifCond .eq 7, 3) := by decide +kernel
theorem dX6_isSquare_48 : decode cX6_isSquare 48 = .ok (.iconst 1, 1) := by decide +kernel
theorem dX6_isSquare_49 : decode cX6_isSquare 49 = .ok (.goto 4, 3) := by decide +kernel
theorem dX6_isSquare_52 : decode cX6_isSquare 52 = .ok (.iconst 0, 1) := by decide +kernel
theorem dX6_isSquare_53 : decode cX6_isSquare 53 = .ok (.ireturn, 1) := by decide +kernel
theorem dX6_square_0 : decode cX6_square 0 = .ok (.bipush 25, 2) := by decide +kernel
theorem dX6_square_2 : decode cX6_square 2 = .ok (.iload_n 0, 1) := by decide +kernel
theorem dX6_square_3 : decode cX6_square 3 = .ok (.imul, 1) := by decide +kernel
theorem dX6_square_4 : decode cX6_square 4 = .ok (.iconst 5, 1) := by decide +kernel
theorem dX6_square_5 : decode cX6_square 5 = .ok (.iload_n 1, 1) := by decide +kernel
theorem dX6_square_6 : decode cX6_square 6 = .ok (.imul, 1) := by decide +kernel
theorem dX6_square_7 : decode cX6_square 7 = .ok (.iadd, 1) := by decide +kernel
theorem dX6_square_8 : decode cX6_square 8 = .ok (.iload_n 2, 1) := by decide +kernel
theorem dX6_square_9 : decode cX6_square 9 = .ok (.iadd, 1) := by decide +kernel
theorem dX6_square_10 : decode cX6_square 10 = .ok (.ireturn, 1) := by decide +kernel
theorem dX6_isOf_0 : decode cX6_isOf 0 = .ok (.iload_n 1, 1) := by decide +kernel
theorem dX6_isOf_1 : decode cX6_isOf 1 = .ok (.bipush 25, 2) := by decide +kernel
theorem dX6_isOf_3 : decode cX6_isOf 3 = .ok (.idiv, 1) := by decide +kernel
theorem dX6_isOf_4 : decode cX6_isOf 4 = .ok (.aload_n 0, 1) := by decide +kernel
theorem dX6_isOf_5 : decode cX6_isOf 5 = .ok (.iconst 0, 1) := by decide +kernel
theorem dX6_isOf_6 : decode cX6_isOf 6 = .ok (.iaload, 1) := by decide +kernel
theorem dX6_isOf_7 : decode cX6_isOf 7 = .ok (.if_icmp .ge 39, 3) := by decide +kernel
theorem dX6_isOf_10 : decode cX6_isOf 10 = .ok (.iload_n 1, 1) := by decide +kernel
theorem dX6_isOf_11 : decode cX6_isOf 11 = .ok (.bipush 25, 2) := by decide +kernel
theorem dX6_isOf_13 : decode cX6_isOf 13 = .ok (.irem, 1) := by decide +kernel
theorem dX6_isOf_14 : decode cX6_isOf 14 = .ok (.iconst 5, 1) := by decide +kernel
theorem dX6_isOf_15 : decode cX6_isOf 15 = .ok (.idiv, 1) := by decide +kernel
theorem dX6_isOf_16 : decode cX6_isOf 16 = .ok (.aload_n 0, 1) := by decide +kernel
theorem dX6_isOf_17 : decode cX6_isOf 17 = .ok (.iconst 2, 1) := by decide +kernel
theorem dX6_isOf_18 : decode cX6_isOf 18 = .ok (.iload_n 1, 1) := by decide +kernel
theorem dX6_isOf_19 : decode cX6_isOf 19 = .ok (.bipush 25, 2) := by decide +kernel
theorem dX6_isOf_21 : decode cX6_isOf 21 = .ok (.idiv, 1) := by decide +kernel
theorem dX6_isOf_22 : decode cX6_isOf 22 = .ok (.iadd, 1) := by decide +kernel
theorem dX6_isOf_23 : decode cX6_isOf 23 = .ok (.iaload, 1) := by decide +kernel
theorem dX6_isOf_24 : decode cX6_isOf 24 = .ok (.if_icmp .ge 22, 3) := by decide +kernel
theorem dX6_isOf_27 : decode cX6_isOf 27 = .ok (.iload_n 1, 1) := by decide +kernel
theorem dX6_isOf_28 : decode cX6_isOf 28 = .ok (.iconst 5, 1) := by decide +kernel
theorem dX6_isOf_29 : decode cX6_isOf 29 = .ok (.irem, 1) := by decide +kernel
theorem dX6_isOf_30 : decode cX6_isOf 30 = .ok (.aload_n 0, 1) := by decide +kernel
theorem dX6_isOf_31 : decode cX6_isOf 31 = .ok (.bipush 7, 2) := by decide +kernel
theorem dX6_isOf_33 : decode cX6_isOf 33 = .ok (.iload_n 1, 1) := by decide +kernel
theorem dX6_isOf_34 : decode cX6_isOf 34 = .ok (.bipush 25, 2) := by decide +kernel
theorem dX6_isOf_36 : decode cX6_isOf 36 = .ok (.idiv, 1) := by decide +kernel
theorem dX6_isOf_37 : decode cX6_isOf 37 = .ok (.iadd, 1) := by decide +kernel
theorem dX6_isOf_38 : decode cX6_isOf 38 = .ok (.iaload, 1) := by decide +kernel
theorem dX6_isOf_39 : decode cX6_isOf 39 = .ok (.if_icmp .ge 7, 3) := by decide +kernel
theorem dX6_isOf_42 : decode cX6_isOf 42 = .ok (.iconst 1, 1) := by decide +kernel
theorem dX6_isOf_43 : decode cX6_isOf 43 = .ok (.goto 4, 3) := by decide +kernel
theorem dX6_isOf_46 : decode cX6_isOf 46 = .ok (.iconst 0, 1) := by decide +kernel
theorem dX6_isOf_47 : decode cX6_isOf 47 = .ok (.ireturn, 1) := by decide +kernel
theorem dX6_isCell_0 : decode cX6_isCell 0 = .ok (.aload_n 0, 1) := by decide +kernel
theorem dX6_isCell_1 : decode cX6_isCell 1 = .ok (.iload_n 1, 1) := by decide +kernel
theorem dX6_isCell_2 : decode cX6_isCell 2 = .ok (.invokestatic 74, 3) := by decide +kernel
theorem dX6_isCell_5 : decode cX6_isCell 5 = .ok (.ifCond .eq 18, 3) := by decide +kernel
theorem dX6_isCell_8 : decode cX6_isCell 8 = .ok (.aload_n 0, 1) := by decide +kernel
theorem dX6_isCell_9 : decode cX6_isCell 9 = .ok (.sipush 512, 3) := by decide +kernel
theorem dX6_isCell_12 : decode cX6_isCell 12 = .ok (.iload_n 1, 1) := by decide +kernel
theorem dX6_isCell_13 : decode cX6_isCell 13 = .ok (.iadd, 1) := by decide +kernel
theorem dX6_isCell_14 : decode cX6_isCell 14 = .ok (.iaload, 1) := by decide +kernel
theorem dX6_isCell_15 : decode cX6_isCell 15 = .ok (.iload_n 1, 1) := by decide +kernel
theorem dX6_isCell_16 : decode cX6_isCell 16 = .ok (.if_icmp .ne 7, 3) := by decide +kernel
theorem dX6_isCell_19 : decode cX6_isCell 19 = .ok (.iconst 1, 1) := by decide +kernel
theorem dX6_isCell_20 : decode cX6_isCell 20 = .ok (.goto 4, 3) := by decide +kernel
theorem dX6_isCell_23 : decode cX6_isCell 23 = .ok (.iconst 0, 1) := by decide +kernel
theorem dX6_isCell_24 : decode cX6_isCell 24 = .ok (.ireturn, 1) := by decide +kernel
theorem dX6_isSum_0 : decode cX6_isSum 0 = .ok (.aload_n 0, 1) := by decide +kernel
theorem dX6_isSum_1 : decode cX6_isSum 1 = .ok (.bipush 12, 2) := by decide +kernel
theorem dX6_isSum_3 : decode cX6_isSum 3 = .ok (.iload_n 1, 1) := by decide +kernel
theorem dX6_isSum_4 : decode cX6_isSum 4 = .ok (.iadd, 1) := by decide +kernel
theorem dX6_isSum_5 : decode cX6_isSum 5 = .ok (.iaload, 1) := by decide +kernel
theorem dX6_isSum_6 : decode cX6_isSum 6 = .ok (.iconst 4, 1) := by decide +kernel
theorem dX6_isSum_7 : decode cX6_isSum 7 = .ok (.if_icmp .lt 7, 3) := by decide +kernel
theorem dX6_isSum_10 : decode cX6_isSum 10 = .ok (.iconst 1, 1) := by decide +kernel
theorem dX6_isSum_11 : decode cX6_isSum 11 = .ok (.goto 4, 3) := by decide +kernel
theorem dX6_isSum_14 : decode cX6_isSum 14 = .ok (.iconst 0, 1) := by decide +kernel
theorem dX6_isSum_15 : decode cX6_isSum 15 = .ok (.ireturn, 1) := by decide +kernel
theorem dX6_copies_0 : decode cX6_copies 0 = .ok (.iconst 0, 1) := by decide +kernel
theorem dX6_copies_1 : decode cX6_copies 1 = .ok (.istore 4, 2) := by decide +kernel
theorem dX6_copies_3 : decode cX6_copies 3 = .ok (.iload 4, 2) := by decide +kernel
theorem dX6_copies_5 : decode cX6_copies 5 = .ok (.sipush 1137, 3) := by decide +kernel
theorem dX6_copies_8 : decode cX6_copies 8 = .ok (.if_icmp .ge 21, 3) := by decide +kernel
theorem dX6_copies_11 : decode cX6_copies 11 = .ok (.aload_n 2, 1) := by decide +kernel
theorem dX6_copies_12 : decode cX6_copies 12 = .ok (.iload_n 3, 1) := by decide +kernel
theorem dX6_copies_13 : decode cX6_copies 13 = .ok (.iload 4, 2) := by decide +kernel
theorem dX6_copies_15 : decode cX6_copies 15 = .ok (.iadd, 1) := by decide +kernel
theorem dX6_copies_16 : decode cX6_copies 16 = .ok (.aload_n 0, 1) := by decide +kernel
theorem dX6_copies_17 : decode cX6_copies 17 = .ok (.iload_n 1, 1) := by decide +kernel
theorem dX6_copies_18 : decode cX6_copies 18 = .ok (.iload 4, 2) := by decide +kernel
theorem dX6_copies_20 : decode cX6_copies 20 = .ok (.iadd, 1) := by decide +kernel
theorem dX6_copies_21 : decode cX6_copies 21 = .ok (.iaload, 1) := by decide +kernel
theorem dX6_copies_22 : decode cX6_copies 22 = .ok (.iastore, 1) := by decide +kernel
theorem dX6_copies_23 : decode cX6_copies 23 = .ok (.iinc 4 1, 3) := by decide +kernel
theorem dX6_copies_26 : decode cX6_copies 26 = .ok (.goto (-23), 3) := by decide +kernel
theorem dX6_copies_29 : decode cX6_copies 29 = .ok (.return_, 1) := by decide +kernel
theorem dX6_saves_0 : decode cX6_saves 0 = .ok (.aload_n 0, 1) := by decide +kernel
theorem dX6_saves_1 : decode cX6_saves 1 = .ok (.iconst 0, 1) := by decide +kernel
theorem dX6_saves_2 : decode cX6_saves 2 = .ok (.putfield 77, 3) := by decide +kernel
theorem dX6_saves_5 : decode cX6_saves 5 = .ok (.aload_n 0, 1) := by decide +kernel
theorem dX6_saves_6 : decode cX6_saves 6 = .ok (.getfield 81, 3) := by decide +kernel
theorem dX6_saves_9 : decode cX6_saves 9 = .ok (.bipush 6, 2) := by decide +kernel
theorem dX6_saves_11 : decode cX6_saves 11 = .ok (.if_icmp .ne 44, 3) := by decide +kernel
theorem dX6_saves_14 : decode cX6_saves 14 = .ok (.iconst 0, 1) := by decide +kernel
theorem dX6_saves_15 : decode cX6_saves 15 = .ok (.istore_n 1, 1) := by decide +kernel
theorem dX6_saves_16 : decode cX6_saves 16 = .ok (.iload_n 1, 1) := by decide +kernel
theorem dX6_saves_17 : decode cX6_saves 17 = .ok (.sipush 5685, 3) := by decide +kernel
theorem dX6_saves_20 : decode cX6_saves 20 = .ok (.if_icmp .ge 25, 3) := by decide +kernel
theorem dX6_saves_23 : decode cX6_saves 23 = .ok (.aload_n 0, 1) := by decide +kernel
theorem dX6_saves_24 : decode cX6_saves 24 = .ok (.getfield 16, 3) := by decide +kernel
theorem dX6_saves_27 : decode cX6_saves 27 = .ok (.iload_n 1, 1) := by decide +kernel
theorem dX6_saves_28 : decode cX6_saves 28 = .ok (.aload_n 0, 1) := by decide +kernel
theorem dX6_saves_29 : decode cX6_saves 29 = .ok (.getfield 16, 3) := by decide +kernel
theorem dX6_saves_32 : decode cX6_saves 32 = .ok (.iload_n 1, 1) := by decide +kernel
theorem dX6_saves_33 : decode cX6_saves 33 = .ok (.sipush 1137, 3) := by decide +kernel
theorem dX6_saves_36 : decode cX6_saves 36 = .ok (.iadd, 1) := by decide +kernel
theorem dX6_saves_37 : decode cX6_saves 37 = .ok (.iaload, 1) := by decide +kernel
theorem dX6_saves_38 : decode cX6_saves 38 = .ok (.iastore, 1) := by decide +kernel
theorem dX6_saves_39 : decode cX6_saves 39 = .ok (.iinc 1 1, 3) := by decide +kernel
theorem dX6_saves_42 : decode cX6_saves 42 = .ok (.goto (-26), 3) := by decide +kernel
theorem dX6_saves_45 : decode cX6_saves 45 = .ok (.aload_n 0, 1) := by decide +kernel
theorem dX6_saves_46 : decode cX6_saves 46 = .ok (.dup, 1) := by decide +kernel
theorem dX6_saves_47 : decode cX6_saves 47 = .ok (.getfield 81, 3) := by decide +kernel
theorem dX6_saves_50 : decode cX6_saves 50 = .ok (.iconst 1, 1) := by decide +kernel
theorem dX6_saves_51 : decode cX6_saves 51 = .ok (.isub, 1) := by decide +kernel
theorem dX6_saves_52 : decode cX6_saves 52 = .ok (.putfield 81, 3) := by decide +kernel
theorem dX6_saves_55 : decode cX6_saves 55 = .ok (.aload_n 0, 1) := by decide +kernel
theorem dX6_saves_56 : decode cX6_saves 56 = .ok (.getfield 7, 3) := by decide +kernel
theorem dX6_saves_59 : decode cX6_saves 59 = .ok (.iconst 0, 1) := by decide +kernel
theorem dX6_saves_60 : decode cX6_saves 60 = .ok (.aload_n 0, 1) := by decide +kernel
theorem dX6_saves_61 : decode cX6_saves 61 = .ok (.getfield 16, 3) := by decide +kernel
theorem dX6_saves_64 : decode cX6_saves 64 = .ok (.sipush 1137, 3) := by decide +kernel
theorem dX6_saves_67 : decode cX6_saves 67 = .ok (.aload_n 0, 1) := by decide +kernel
theorem dX6_saves_68 : decode cX6_saves 68 = .ok (.getfield 81, 3) := by decide +kernel
theorem dX6_saves_71 : decode cX6_saves 71 = .ok (.imul, 1) := by decide +kernel
theorem dX6_saves_72 : decode cX6_saves 72 = .ok (.invokestatic 84, 3) := by decide +kernel
theorem dX6_saves_75 : decode cX6_saves 75 = .ok (.aload_n 0, 1) := by decide +kernel
theorem dX6_saves_76 : decode cX6_saves 76 = .ok (.dup, 1) := by decide +kernel
theorem dX6_saves_77 : decode cX6_saves 77 = .ok (.getfield 81, 3) := by decide +kernel
theorem dX6_saves_80 : decode cX6_saves 80 = .ok (.iconst 1, 1) := by decide +kernel
theorem dX6_saves_81 : decode cX6_saves 81 = .ok (.iadd, 1) := by decide +kernel
theorem dX6_saves_82 : decode cX6_saves 82 = .ok (.putfield 81, 3) := by decide +kernel
theorem dX6_saves_85 : decode cX6_saves 85 = .ok (.return_, 1) := by decide +kernel
theorem dX6_undo_0 : decode cX6_undo 0 = .ok (.aload_n 0, 1) := by decide +kernel
theorem dX6_undo_1 : decode cX6_undo 1 = .ok (.iconst 0, 1) := by decide +kernel
theorem dX6_undo_2 : decode cX6_undo 2 = .ok (.putfield 62, 3) := by decide +kernel
theorem dX6_undo_5 : decode cX6_undo 5 = .ok (.aload_n 0, 1) := by decide +kernel
theorem dX6_undo_6 : decode cX6_undo 6 = .ok (.getfield 81, 3) := by decide +kernel
theorem dX6_undo_9 : decode cX6_undo 9 = .ok (.ifCond .ne 9, 3) := by decide +kernel
theorem dX6_undo_12 : decode cX6_undo 12 = .ok (.aload_n 0, 1) := by decide +kernel
theorem dX6_undo_13 : decode cX6_undo 13 = .ok (.iconst 1, 1) := by decide +kernel
theorem dX6_undo_14 : decode cX6_undo 14 = .ok (.invokevirtual 88, 3) := by decide +kernel
theorem dX6_undo_17 : decode cX6_undo 17 = .ok (.ireturn, 1) := by decide +kernel
theorem dX6_undo_18 : decode cX6_undo 18 = .ok (.aload_n 0, 1) := by decide +kernel
theorem dX6_undo_19 : decode cX6_undo 19 = .ok (.iconst 0, 1) := by decide +kernel
theorem dX6_undo_20 : decode cX6_undo 20 = .ok (.putfield 77, 3) := by decide +kernel
theorem dX6_undo_23 : decode cX6_undo 23 = .ok (.aload_n 0, 1) := by decide +kernel
theorem dX6_undo_24 : decode cX6_undo 24 = .ok (.dup, 1) := by decide +kernel
theorem dX6_undo_25 : decode cX6_undo 25 = .ok (.getfield 81, 3) := by decide +kernel
theorem dX6_undo_28 : decode cX6_undo 28 = .ok (.iconst 1, 1) := by decide +kernel
theorem dX6_undo_29 : decode cX6_undo 29 = .ok (.isub, 1) := by decide +kernel
theorem dX6_undo_30 : decode cX6_undo 30 = .ok (.putfield 81, 3) := by decide +kernel
theorem dX6_undo_33 : decode cX6_undo 33 = .ok (.aload_n 0, 1) := by decide +kernel
theorem dX6_undo_34 : decode cX6_undo 34 = .ok (.getfield 16, 3) := by decide +kernel
theorem dX6_undo_37 : decode cX6_undo 37 = .ok (.sipush 1137, 3) := by decide +kernel
theorem dX6_undo_40 : decode cX6_undo 40 = .ok (.aload_n 0, 1) := by decide +kernel
theorem dX6_undo_41 : decode cX6_undo 41 = .ok (.getfield 81, 3) := by decide +kernel
theorem dX6_undo_44 : decode cX6_undo 44 = .ok (.imul, 1) := by decide +kernel
theorem dX6_undo_45 : decode cX6_undo 45 = .ok (.aload_n 0, 1) := by decide +kernel
theorem dX6_undo_46 : decode cX6_undo 46 = .ok (.getfield 7, 3) := by decide +kernel
theorem dX6_undo_49 : decode cX6_undo 49 = .ok (.iconst 0, 1) := by decide +kernel
theorem dX6_undo_50 : decode cX6_undo 50 = .ok (.invokestatic 84, 3) := by decide +kernel
theorem dX6_undo_53 : decode cX6_undo 53 = .ok (.aload_n 0, 1) := by decide +kernel
theorem dX6_undo_54 : decode cX6_undo 54 = .ok (.getfield 81, 3) := by decide +kernel
theorem dX6_undo_57 : decode cX6_undo 57 = .ok (.ireturn, 1) := by decide +kernel
theorem dX6_empties_0 : decode cX6_empties 0 = .ok (.aload_n 0, 1) := by decide +kernel
theorem dX6_empties_1 : decode cX6_empties 1 = .ok (.bipush 12, 2) := by decide +kernel
theorem dX6_empties_3 : decode cX6_empties 3 = .ok (.iload_n 1, 1) := by decide +kernel
theorem dX6_empties_4 : decode cX6_empties 4 = .ok (.iadd, 1) := by decide +kernel
theorem dX6_empties_5 : decode cX6_empties 5 = .ok (.iconst 0, 1) := by decide +kernel
theorem dX6_empties_6 : decode cX6_empties 6 = .ok (.iastore, 1) := by decide +kernel
theorem dX6_empties_7 : decode cX6_empties 7 = .ok (.aload_n 0, 1) := by decide +kernel
theorem dX6_empties_8 : decode cX6_empties 8 = .ok (.sipush 137, 3) := by decide +kernel
theorem dX6_empties_11 : decode cX6_empties 11 = .ok (.iload_n 1, 1) := by decide +kernel
theorem dX6_empties_12 : decode cX6_empties 12 = .ok (.iadd, 1) := by decide +kernel
theorem dX6_empties_13 : decode cX6_empties 13 = .ok (.iconst 0, 1) := by decide +kernel
theorem dX6_empties_14 : decode cX6_empties 14 = .ok (.iastore, 1) := by decide +kernel
theorem dX6_empties_15 : decode cX6_empties 15 = .ok (.aload_n 0, 1) := by decide +kernel
theorem dX6_empties_16 : decode cX6_empties 16 = .ok (.sipush 262, 3) := by decide +kernel
theorem dX6_empties_19 : decode cX6_empties 19 = .ok (.iload_n 1, 1) := by decide +kernel
theorem dX6_empties_20 : decode cX6_empties 20 = .ok (.iadd, 1) := by decide +kernel
theorem dX6_empties_21 : decode cX6_empties 21 = .ok (.iconst 1, 1) := by decide +kernel
theorem dX6_empties_22 : decode cX6_empties 22 = .ok (.iastore, 1) := by decide +kernel
theorem dX6_empties_23 : decode cX6_empties 23 = .ok (.aload_n 0, 1) := by decide +kernel
theorem dX6_empties_24 : decode cX6_empties 24 = .ok (.sipush 387, 3) := by decide +kernel
theorem dX6_empties_27 : decode cX6_empties 27 = .ok (.iload_n 1, 1) := by decide +kernel
theorem dX6_empties_28 : decode cX6_empties 28 = .ok (.iadd, 1) := by decide +kernel
theorem dX6_empties_29 : decode cX6_empties 29 = .ok (.iconst 1, 1) := by decide +kernel
theorem dX6_empties_30 : decode cX6_empties 30 = .ok (.iastore, 1) := by decide +kernel
theorem dX6_empties_31 : decode cX6_empties 31 = .ok (.aload_n 0, 1) := by decide +kernel
theorem dX6_empties_32 : decode cX6_empties 32 = .ok (.sipush 512, 3) := by decide +kernel
theorem dX6_empties_35 : decode cX6_empties 35 = .ok (.iload_n 1, 1) := by decide +kernel
theorem dX6_empties_36 : decode cX6_empties 36 = .ok (.iadd, 1) := by decide +kernel
theorem dX6_empties_37 : decode cX6_empties 37 = .ok (.iload_n 1, 1) := by decide +kernel
theorem dX6_empties_38 : decode cX6_empties 38 = .ok (.iastore, 1) := by decide +kernel
theorem dX6_empties_39 : decode cX6_empties 39 = .ok (.iconst 0, 1) := by decide +kernel
theorem dX6_empties_40 : decode cX6_empties 40 = .ok (.istore_n 2, 1) := by decide +kernel
theorem dX6_empties_41 : decode cX6_empties 41 = .ok (.iload_n 2, 1) := by decide +kernel
theorem dX6_empties_42 : decode cX6_empties 42 = .ok (.iconst 4, 1) := by decide +kernel
theorem dX6_empties_43 : decode cX6_empties 43 = .ok (.if_icmp .ge 21, 3) := by decide +kernel
theorem dX6_empties_46 : decode cX6_empties 46 = .ok (.aload_n 0, 1) := by decide +kernel
theorem dX6_empties_47 : decode cX6_empties 47 = .ok (.sipush 637, 3) := by decide +kernel
theorem dX6_empties_50 : decode cX6_empties 50 = .ok (.iconst 4, 1) := by decide +kernel
theorem dX6_empties_51 : decode cX6_empties 51 = .ok (.iload_n 1, 1) := by decide +kernel
theorem dX6_empties_52 : decode cX6_empties 52 = .ok (.imul, 1) := by decide +kernel
theorem dX6_empties_53 : decode cX6_empties 53 = .ok (.iadd, 1) := by decide +kernel
theorem dX6_empties_54 : decode cX6_empties 54 = .ok (.iload_n 2, 1) := by decide +kernel
theorem dX6_empties_55 : decode cX6_empties 55 = .ok (.iadd, 1) := by decide +kernel
theorem dX6_empties_56 : decode cX6_empties 56 = .ok (.iconst 0, 1) := by decide +kernel
theorem dX6_empties_57 : decode cX6_empties 57 = .ok (.iastore, 1) := by decide +kernel
theorem dX6_empties_58 : decode cX6_empties 58 = .ok (.iinc 2 1, 3) := by decide +kernel
theorem dX6_empties_61 : decode cX6_empties 61 = .ok (.goto (-20), 3) := by decide +kernel
theorem dX6_empties_64 : decode cX6_empties 64 = .ok (.return_, 1) := by decide +kernel
theorem dX6_comes_0 : decode cX6_comes 0 = .ok (.aload_n 0, 1) := by decide +kernel
theorem dX6_comes_1 : decode cX6_comes 1 = .ok (.getfield 7, 3) := by decide +kernel
theorem dX6_comes_4 : decode cX6_comes 4 = .ok (.iconst 0, 1) := by decide +kernel
theorem dX6_comes_5 : decode cX6_comes 5 = .ok (.iaload, 1) := by decide +kernel
theorem dX6_comes_6 : decode cX6_comes 6 = .ok (.istore_n 3, 1) := by decide +kernel
theorem dX6_comes_7 : decode cX6_comes 7 = .ok (.aload_n 0, 1) := by decide +kernel
theorem dX6_comes_8 : decode cX6_comes 8 = .ok (.getfield 7, 3) := by decide +kernel
theorem dX6_comes_11 : decode cX6_comes 11 = .ok (.iconst 2, 1) := by decide +kernel
theorem dX6_comes_12 : decode cX6_comes 12 = .ok (.iload_n 3, 1) := by decide +kernel
theorem dX6_comes_13 : decode cX6_comes 13 = .ok (.iadd, 1) := by decide +kernel
theorem dX6_comes_14 : decode cX6_comes 14 = .ok (.iload_n 1, 1) := by decide +kernel
theorem dX6_comes_15 : decode cX6_comes 15 = .ok (.iastore, 1) := by decide +kernel
theorem dX6_comes_16 : decode cX6_comes 16 = .ok (.aload_n 0, 1) := by decide +kernel
theorem dX6_comes_17 : decode cX6_comes 17 = .ok (.getfield 7, 3) := by decide +kernel
theorem dX6_comes_20 : decode cX6_comes 20 = .ok (.bipush 7, 2) := by decide +kernel
theorem dX6_comes_22 : decode cX6_comes 22 = .ok (.iload_n 3, 1) := by decide +kernel
theorem dX6_comes_23 : decode cX6_comes 23 = .ok (.iadd, 1) := by decide +kernel
theorem dX6_comes_24 : decode cX6_comes 24 = .ok (.iload_n 2, 1) := by decide +kernel
theorem dX6_comes_25 : decode cX6_comes 25 = .ok (.iastore, 1) := by decide +kernel
theorem dX6_comes_26 : decode cX6_comes 26 = .ok (.iconst 0, 1) := by decide +kernel
theorem dX6_comes_27 : decode cX6_comes 27 = .ok (.istore 4, 2) := by decide +kernel
theorem dX6_comes_29 : decode cX6_comes 29 = .ok (.iload 4, 2) := by decide +kernel
theorem dX6_comes_31 : decode cX6_comes 31 = .ok (.bipush 25, 2) := by decide +kernel
theorem dX6_comes_33 : decode cX6_comes 33 = .ok (.if_icmp .ge 23, 3) := by decide +kernel
theorem dX6_comes_36 : decode cX6_comes 36 = .ok (.aload_n 0, 1) := by decide +kernel
theorem dX6_comes_37 : decode cX6_comes 37 = .ok (.getfield 7, 3) := by decide +kernel
theorem dX6_comes_40 : decode cX6_comes 40 = .ok (.bipush 25, 2) := by decide +kernel
theorem dX6_comes_42 : decode cX6_comes 42 = .ok (.iload_n 3, 1) := by decide +kernel
theorem dX6_comes_43 : decode cX6_comes 43 = .ok (.imul, 1) := by decide +kernel
theorem dX6_comes_44 : decode cX6_comes 44 = .ok (.iload 4, 2) := by decide +kernel
theorem dX6_comes_46 : decode cX6_comes 46 = .ok (.iadd, 1) := by decide +kernel
theorem dX6_comes_47 : decode cX6_comes 47 = .ok (.invokestatic 92, 3) := by decide +kernel
theorem dX6_comes_50 : decode cX6_comes 50 = .ok (.iinc 4 1, 3) := by decide +kernel
theorem dX6_comes_53 : decode cX6_comes 53 = .ok (.goto (-24), 3) := by decide +kernel
theorem dX6_comes_56 : decode cX6_comes 56 = .ok (.aload_n 0, 1) := by decide +kernel
theorem dX6_comes_57 : decode cX6_comes 57 = .ok (.getfield 7, 3) := by decide +kernel
theorem dX6_comes_60 : decode cX6_comes 60 = .ok (.iconst 0, 1) := by decide +kernel
theorem dX6_comes_61 : decode cX6_comes 61 = .ok (.dup2, 1) := by decide +kernel
theorem dX6_comes_62 : decode cX6_comes 62 = .ok (.iaload, 1) := by decide +kernel
theorem dX6_comes_63 : decode cX6_comes 63 = .ok (.iconst 1, 1) := by decide +kernel
theorem dX6_comes_64 : decode cX6_comes 64 = .ok (.iadd, 1) := by decide +kernel
theorem dX6_comes_65 : decode cX6_comes 65 = .ok (.iastore, 1) := by decide +kernel
theorem dX6_comes_66 : decode cX6_comes 66 = .ok (.iload_n 3, 1) := by decide +kernel
theorem dX6_comes_67 : decode cX6_comes 67 = .ok (.ireturn, 1) := by decide +kernel
theorem dX6_begins_0 : decode cX6_begins 0 = .ok (.aload_n 0, 1) := by decide +kernel
theorem dX6_begins_1 : decode cX6_begins 1 = .ok (.getfield 7, 3) := by decide +kernel
theorem dX6_begins_4 : decode cX6_begins 4 = .ok (.iconst 0, 1) := by decide +kernel
theorem dX6_begins_5 : decode cX6_begins 5 = .ok (.iconst 0, 1) := by decide +kernel
theorem dX6_begins_6 : decode cX6_begins 6 = .ok (.iastore, 1) := by decide +kernel
theorem dX6_begins_7 : decode cX6_begins 7 = .ok (.aload_n 0, 1) := by decide +kernel
theorem dX6_begins_8 : decode cX6_begins 8 = .ok (.iload_n 1, 1) := by decide +kernel
theorem dX6_begins_9 : decode cX6_begins 9 = .ok (.iload_n 2, 1) := by decide +kernel
theorem dX6_begins_10 : decode cX6_begins 10 = .ok (.invokevirtual 96, 3) := by decide +kernel
theorem dX6_begins_13 : decode cX6_begins 13 = .ok (.pop, 1) := by decide +kernel
theorem dX6_begins_14 : decode cX6_begins 14 = .ok (.return_, 1) := by decide +kernel
theorem dX6_rowOf_0 : decode cX6_rowOf 0 = .ok (.iload_n 0, 1) := by decide +kernel
theorem dX6_rowOf_1 : decode cX6_rowOf 1 = .ok (.bipush 25, 2) := by decide +kernel
theorem dX6_rowOf_3 : decode cX6_rowOf 3 = .ok (.irem, 1) := by decide +kernel
theorem dX6_rowOf_4 : decode cX6_rowOf 4 = .ok (.iconst 5, 1) := by decide +kernel
theorem dX6_rowOf_5 : decode cX6_rowOf 5 = .ok (.idiv, 1) := by decide +kernel
theorem dX6_rowOf_6 : decode cX6_rowOf 6 = .ok (.ireturn, 1) := by decide +kernel
theorem dX6_meet_0 : decode cX6_meet 0 = .ok (.iload_n 3, 1) := by decide +kernel
theorem dX6_meet_1 : decode cX6_meet 1 = .ok (.ifCond .eq 9, 3) := by decide +kernel
theorem dX6_meet_4 : decode cX6_meet 4 = .ok (.iload_n 1, 1) := by decide +kernel
theorem dX6_meet_5 : decode cX6_meet 5 = .ok (.iconst 5, 1) := by decide +kernel
theorem dX6_meet_6 : decode cX6_meet 6 = .ok (.irem, 1) := by decide +kernel
theorem dX6_meet_7 : decode cX6_meet 7 = .ok (.goto 7, 3) := by decide +kernel
theorem dX6_meet_10 : decode cX6_meet 10 = .ok (.iload_n 1, 1) := by decide +kernel
theorem dX6_meet_11 : decode cX6_meet 11 = .ok (.invokestatic 100, 3) := by decide +kernel
theorem dX6_meet_14 : decode cX6_meet 14 = .ok (.istore 4, 2) := by decide +kernel
theorem dX6_meet_16 : decode cX6_meet 16 = .ok (.iload_n 3, 1) := by decide +kernel
theorem dX6_meet_17 : decode cX6_meet 17 = .ok (.ifCond .eq 9, 3) := by decide +kernel
theorem dX6_meet_20 : decode cX6_meet 20 = .ok (.iload_n 2, 1) := by decide +kernel
theorem dX6_meet_21 : decode cX6_meet 21 = .ok (.iconst 5, 1) := by decide +kernel
theorem dX6_meet_22 : decode cX6_meet 22 = .ok (.irem, 1) := by decide +kernel
theorem dX6_meet_23 : decode cX6_meet 23 = .ok (.goto 7, 3) := by decide +kernel
theorem dX6_meet_26 : decode cX6_meet 26 = .ok (.iload_n 2, 1) := by decide +kernel
theorem dX6_meet_27 : decode cX6_meet 27 = .ok (.invokestatic 100, 3) := by decide +kernel
theorem dX6_meet_30 : decode cX6_meet 30 = .ok (.istore 5, 2) := by decide +kernel
theorem dX6_meet_32 : decode cX6_meet 32 = .ok (.aload_n 0, 1) := by decide +kernel
theorem dX6_meet_33 : decode cX6_meet 33 = .ok (.iload_n 3, 1) := by decide +kernel
theorem dX6_meet_34 : decode cX6_meet 34 = .ok (.ifCond .eq 9, 3) := by decide +kernel
theorem dX6_meet_37 : decode cX6_meet 37 = .ok (.sipush 387, 3) := by decide +kernel
theorem dX6_meet_40 : decode cX6_meet 40 = .ok (.goto 6, 3) := by decide +kernel
theorem dX6_meet_43 : decode cX6_meet 43 = .ok (.sipush 262, 3) := by decide +kernel
theorem dX6_meet_46 : decode cX6_meet 46 = .ok (.iload_n 1, 1) := by decide +kernel
theorem dX6_meet_47 : decode cX6_meet 47 = .ok (.iadd, 1) := by decide +kernel
theorem dX6_meet_48 : decode cX6_meet 48 = .ok (.iaload, 1) := by decide +kernel
theorem dX6_meet_49 : decode cX6_meet 49 = .ok (.istore 6, 2) := by decide +kernel
theorem dX6_meet_51 : decode cX6_meet 51 = .ok (.aload_n 0, 1) := by decide +kernel
theorem dX6_meet_52 : decode cX6_meet 52 = .ok (.iload_n 3, 1) := by decide +kernel
theorem dX6_meet_53 : decode cX6_meet 53 = .ok (.ifCond .eq 9, 3) := by decide +kernel
theorem dX6_meet_56 : decode cX6_meet 56 = .ok (.sipush 387, 3) := by decide +kernel
theorem dX6_meet_59 : decode cX6_meet 59 = .ok (.goto 6, 3) := by decide +kernel
theorem dX6_meet_62 : decode cX6_meet 62 = .ok (.sipush 262, 3) := by decide +kernel
theorem dX6_meet_65 : decode cX6_meet 65 = .ok (.iload_n 2, 1) := by decide +kernel
theorem dX6_meet_66 : decode cX6_meet 66 = .ok (.iadd, 1) := by decide +kernel
theorem dX6_meet_67 : decode cX6_meet 67 = .ok (.iaload, 1) := by decide +kernel
theorem dX6_meet_68 : decode cX6_meet 68 = .ok (.istore 7, 2) := by decide +kernel
theorem dX6_meet_70 : decode cX6_meet 70 = .ok (.iload 4, 2) := by decide +kernel
theorem dX6_meet_72 : decode cX6_meet 72 = .ok (.iload 5, 2) := by decide +kernel
theorem dX6_meet_74 : decode cX6_meet 74 = .ok (.iload 7, 2) := by decide +kernel
theorem dX6_meet_76 : decode cX6_meet 76 = .ok (.iadd, 1) := by decide +kernel
theorem dX6_meet_77 : decode cX6_meet 77 = .ok (.if_icmp .ge 17, 3) := by decide +kernel
theorem dX6_meet_80 : decode cX6_meet 80 = .ok (.iload 5, 2) := by decide +kernel
theorem dX6_meet_82 : decode cX6_meet 82 = .ok (.iload 4, 2) := by decide +kernel
theorem dX6_meet_84 : decode cX6_meet 84 = .ok (.iload 6, 2) := by decide +kernel
theorem dX6_meet_86 : decode cX6_meet 86 = .ok (.iadd, 1) := by decide +kernel
theorem dX6_meet_87 : decode cX6_meet 87 = .ok (.if_icmp .ge 7, 3) := by decide +kernel
theorem dX6_meet_90 : decode cX6_meet 90 = .ok (.iconst 1, 1) := by decide +kernel
theorem dX6_meet_91 : decode cX6_meet 91 = .ok (.goto 4, 3) := by decide +kernel
theorem dX6_meet_94 : decode cX6_meet 94 = .ok (.iconst 0, 1) := by decide +kernel
theorem dX6_meet_95 : decode cX6_meet 95 = .ok (.ireturn, 1) := by decide +kernel
theorem dX6_along_0 : decode cX6_along 0 = .ok (.iload_n 1, 1) := by decide +kernel
theorem dX6_along_1 : decode cX6_along 1 = .ok (.ifCond .eq 10, 3) := by decide +kernel
theorem dX6_along_4 : decode cX6_along 4 = .ok (.iload_n 0, 1) := by decide +kernel
theorem dX6_along_5 : decode cX6_along 5 = .ok (.invokestatic 100, 3) := by decide +kernel
theorem dX6_along_8 : decode cX6_along 8 = .ok (.goto 6, 3) := by decide +kernel
theorem dX6_along_11 : decode cX6_along 11 = .ok (.iload_n 0, 1) := by decide +kernel
theorem dX6_along_12 : decode cX6_along 12 = .ok (.iconst 5, 1) := by decide +kernel
theorem dX6_along_13 : decode cX6_along 13 = .ok (.irem, 1) := by decide +kernel
theorem dX6_along_14 : decode cX6_along 14 = .ok (.ireturn, 1) := by decide +kernel
theorem dX6_from_0 : decode cX6_from 0 = .ok (.aload_n 0, 1) := by decide +kernel
theorem dX6_from_1 : decode cX6_from 1 = .ok (.bipush 12, 2) := by decide +kernel
theorem dX6_from_3 : decode cX6_from 3 = .ok (.iload_n 1, 1) := by decide +kernel
theorem dX6_from_4 : decode cX6_from 4 = .ok (.iadd, 1) := by decide +kernel
theorem dX6_from_5 : decode cX6_from 5 = .ok (.iaload, 1) := by decide +kernel
theorem dX6_from_6 : decode cX6_from 6 = .ok (.iconst 4, 1) := by decide +kernel
theorem dX6_from_7 : decode cX6_from 7 = .ok (.if_icmp .ne 7, 3) := by decide +kernel
theorem dX6_from_10 : decode cX6_from 10 = .ok (.iconst 1, 1) := by decide +kernel
theorem dX6_from_11 : decode cX6_from 11 = .ok (.goto 4, 3) := by decide +kernel
theorem dX6_from_14 : decode cX6_from 14 = .ok (.iconst 0, 1) := by decide +kernel
theorem dX6_from_15 : decode cX6_from 15 = .ok (.istore_n 2, 1) := by decide +kernel
theorem dX6_from_16 : decode cX6_from 16 = .ok (.iconst 0, 1) := by decide +kernel
theorem dX6_from_17 : decode cX6_from 17 = .ok (.istore_n 3, 1) := by decide +kernel
theorem dX6_from_18 : decode cX6_from 18 = .ok (.iconst 0, 1) := by decide +kernel
theorem dX6_from_19 : decode cX6_from 19 = .ok (.istore 4, 2) := by decide +kernel
theorem dX6_from_21 : decode cX6_from 21 = .ok (.iload 4, 2) := by decide +kernel
theorem dX6_from_23 : decode cX6_from 23 = .ok (.bipush 25, 2) := by decide +kernel
theorem dX6_from_25 : decode cX6_from 25 = .ok (.if_icmp .ge 103, 3) := by decide +kernel
theorem dX6_from_28 : decode cX6_from 28 = .ok (.iload_n 1, 1) := by decide +kernel
theorem dX6_from_29 : decode cX6_from 29 = .ok (.iload_n 1, 1) := by decide +kernel
theorem dX6_from_30 : decode cX6_from 30 = .ok (.bipush 25, 2) := by decide +kernel
theorem dX6_from_32 : decode cX6_from 32 = .ok (.irem, 1) := by decide +kernel
theorem dX6_from_33 : decode cX6_from 33 = .ok (.isub, 1) := by decide +kernel
theorem dX6_from_34 : decode cX6_from 34 = .ok (.iload 4, 2) := by decide +kernel
theorem dX6_from_36 : decode cX6_from 36 = .ok (.iadd, 1) := by decide +kernel
theorem dX6_from_37 : decode cX6_from 37 = .ok (.istore 5, 2) := by decide +kernel
theorem dX6_from_39 : decode cX6_from 39 = .ok (.aload_n 0, 1) := by decide +kernel
theorem dX6_from_40 : decode cX6_from 40 = .ok (.iload 5, 2) := by decide +kernel
theorem dX6_from_42 : decode cX6_from 42 = .ok (.invokestatic 103, 3) := by decide +kernel
theorem dX6_from_45 : decode cX6_from 45 = .ok (.ifCond .eq 48, 3) := by decide +kernel
theorem dX6_from_48 : decode cX6_from 48 = .ok (.aload_n 0, 1) := by decide +kernel
theorem dX6_from_49 : decode cX6_from 49 = .ok (.bipush 12, 2) := by decide +kernel
theorem dX6_from_51 : decode cX6_from 51 = .ok (.iload 5, 2) := by decide +kernel
theorem dX6_from_53 : decode cX6_from 53 = .ok (.iadd, 1) := by decide +kernel
theorem dX6_from_54 : decode cX6_from 54 = .ok (.iaload, 1) := by decide +kernel
theorem dX6_from_55 : decode cX6_from 55 = .ok (.aload_n 0, 1) := by decide +kernel
theorem dX6_from_56 : decode cX6_from 56 = .ok (.bipush 12, 2) := by decide +kernel
theorem dX6_from_58 : decode cX6_from 58 = .ok (.iload_n 1, 1) := by decide +kernel
theorem dX6_from_59 : decode cX6_from 59 = .ok (.iadd, 1) := by decide +kernel
theorem dX6_from_60 : decode cX6_from 60 = .ok (.iaload, 1) := by decide +kernel
theorem dX6_from_61 : decode cX6_from 61 = .ok (.if_icmp .ne 32, 3) := by decide +kernel
theorem dX6_from_64 : decode cX6_from 64 = .ok (.aload_n 0, 1) := by decide +kernel
theorem dX6_from_65 : decode cX6_from 65 = .ok (.iload 5, 2) := by decide +kernel
theorem dX6_from_67 : decode cX6_from 67 = .ok (.iload_n 1, 1) := by decide +kernel
theorem dX6_from_68 : decode cX6_from 68 = .ok (.iload_n 2, 1) := by decide +kernel
theorem dX6_from_69 : decode cX6_from 69 = .ok (.invokestatic 106, 3) := by decide +kernel
theorem dX6_from_72 : decode cX6_from 72 = .ok (.ifCond .eq 21, 3) := by decide +kernel
theorem dX6_from_75 : decode cX6_from 75 = .ok (.iload 5, 2) := by decide +kernel
theorem dX6_from_77 : decode cX6_from 77 = .ok (.iload_n 2, 1) := by decide +kernel
theorem dX6_from_78 : decode cX6_from 78 = .ok (.invokestatic 110, 3) := by decide +kernel
theorem dX6_from_81 : decode cX6_from 81 = .ok (.iload_n 1, 1) := by decide +kernel
theorem dX6_from_82 : decode cX6_from 82 = .ok (.iload_n 2, 1) := by decide +kernel
theorem dX6_from_83 : decode cX6_from 83 = .ok (.invokestatic 110, 3) := by decide +kernel
theorem dX6_from_86 : decode cX6_from 86 = .ok (.if_icmp .ge 7, 3) := by decide +kernel
theorem dX6_from_89 : decode cX6_from 89 = .ok (.iconst 1, 1) := by decide +kernel
theorem dX6_from_90 : decode cX6_from 90 = .ok (.goto 4, 3) := by decide +kernel
theorem dX6_from_93 : decode cX6_from 93 = .ok (.iconst 0, 1) := by decide +kernel
theorem dX6_from_94 : decode cX6_from 94 = .ok (.istore 6, 2) := by decide +kernel
theorem dX6_from_96 : decode cX6_from 96 = .ok (.iload 6, 2) := by decide +kernel
theorem dX6_from_98 : decode cX6_from 98 = .ok (.ifCond .eq 22, 3) := by decide +kernel
theorem dX6_from_101 : decode cX6_from 101 = .ok (.iload 5, 2) := by decide +kernel
theorem dX6_from_103 : decode cX6_from 103 = .ok (.iload_n 2, 1) := by decide +kernel
theorem dX6_from_104 : decode cX6_from 104 = .ok (.invokestatic 110, 3) := by decide +kernel
theorem dX6_from_107 : decode cX6_from 107 = .ok (.iload_n 3, 1) := by decide +kernel
theorem dX6_from_108 : decode cX6_from 108 = .ok (.if_icmp .le 12, 3) := by decide +kernel
theorem dX6_from_111 : decode cX6_from 111 = .ok (.iload 5, 2) := by decide +kernel
theorem dX6_from_113 : decode cX6_from 113 = .ok (.iload_n 2, 1) := by decide +kernel
theorem dX6_from_114 : decode cX6_from 114 = .ok (.invokestatic 110, 3) := by decide +kernel
theorem dX6_from_117 : decode cX6_from 117 = .ok (.goto 4, 3) := by decide +kernel
theorem dX6_from_120 : decode cX6_from 120 = .ok (.iload_n 3, 1) := by decide +kernel
theorem dX6_from_121 : decode cX6_from 121 = .ok (.istore_n 3, 1) := by decide +kernel
theorem dX6_from_122 : decode cX6_from 122 = .ok (.iinc 4 1, 3) := by decide +kernel
theorem dX6_from_125 : decode cX6_from 125 = .ok (.goto (-104), 3) := by decide +kernel
theorem dX6_from_128 : decode cX6_from 128 = .ok (.iload_n 3, 1) := by decide +kernel
theorem dX6_from_129 : decode cX6_from 129 = .ok (.ireturn, 1) := by decide +kernel
theorem dX6_counts_0 : decode cX6_counts 0 = .ok (.aload_n 0, 1) := by decide +kernel
theorem dX6_counts_1 : decode cX6_counts 1 = .ok (.bipush 12, 2) := by decide +kernel
theorem dX6_counts_3 : decode cX6_counts 3 = .ok (.iload_n 1, 1) := by decide +kernel
theorem dX6_counts_4 : decode cX6_counts 4 = .ok (.iadd, 1) := by decide +kernel
theorem dX6_counts_5 : decode cX6_counts 5 = .ok (.iaload, 1) := by decide +kernel
theorem dX6_counts_6 : decode cX6_counts 6 = .ok (.bipush 6, 2) := by decide +kernel
theorem dX6_counts_8 : decode cX6_counts 8 = .ok (.if_icmp .ne 5, 3) := by decide +kernel
theorem dX6_counts_11 : decode cX6_counts 11 = .ok (.iconst 1, 1) := by decide +kernel
theorem dX6_counts_12 : decode cX6_counts 12 = .ok (.ireturn, 1) := by decide +kernel
theorem dX6_counts_13 : decode cX6_counts 13 = .ok (.aload_n 0, 1) := by decide +kernel
theorem dX6_counts_14 : decode cX6_counts 14 = .ok (.bipush 12, 2) := by decide +kernel
theorem dX6_counts_16 : decode cX6_counts 16 = .ok (.iload_n 1, 1) := by decide +kernel
theorem dX6_counts_17 : decode cX6_counts 17 = .ok (.iadd, 1) := by decide +kernel
theorem dX6_counts_18 : decode cX6_counts 18 = .ok (.iaload, 1) := by decide +kernel
theorem dX6_counts_19 : decode cX6_counts 19 = .ok (.iconst 4, 1) := by decide +kernel
theorem dX6_counts_20 : decode cX6_counts 20 = .ok (.if_icmp .ne 7, 3) := by decide +kernel
theorem dX6_counts_23 : decode cX6_counts 23 = .ok (.iconst 1, 1) := by decide +kernel
theorem dX6_counts_24 : decode cX6_counts 24 = .ok (.goto 4, 3) := by decide +kernel
theorem dX6_counts_27 : decode cX6_counts 27 = .ok (.iconst 0, 1) := by decide +kernel
theorem dX6_counts_28 : decode cX6_counts 28 = .ok (.istore_n 3, 1) := by decide +kernel
theorem dX6_counts_29 : decode cX6_counts 29 = .ok (.aload_n 0, 1) := by decide +kernel
theorem dX6_counts_30 : decode cX6_counts 30 = .ok (.iload_n 2, 1) := by decide +kernel
theorem dX6_counts_31 : decode cX6_counts 31 = .ok (.iload_n 1, 1) := by decide +kernel
theorem dX6_counts_32 : decode cX6_counts 32 = .ok (.iload_n 3, 1) := by decide +kernel
theorem dX6_counts_33 : decode cX6_counts 33 = .ok (.invokestatic 106, 3) := by decide +kernel
theorem dX6_counts_36 : decode cX6_counts 36 = .ok (.ifCond .eq 30, 3) := by decide +kernel
theorem dX6_counts_39 : decode cX6_counts 39 = .ok (.iload_n 2, 1) := by decide +kernel
theorem dX6_counts_40 : decode cX6_counts 40 = .ok (.iload_n 3, 1) := by decide +kernel
theorem dX6_counts_41 : decode cX6_counts 41 = .ok (.invokestatic 110, 3) := by decide +kernel
theorem dX6_counts_44 : decode cX6_counts 44 = .ok (.aload_n 0, 1) := by decide +kernel
theorem dX6_counts_45 : decode cX6_counts 45 = .ok (.iload_n 1, 1) := by decide +kernel
theorem dX6_counts_46 : decode cX6_counts 46 = .ok (.invokestatic 114, 3) := by decide +kernel
theorem dX6_counts_49 : decode cX6_counts 49 = .ok (.iload_n 1, 1) := by decide +kernel
theorem dX6_counts_50 : decode cX6_counts 50 = .ok (.iload_n 3, 1) := by decide +kernel
theorem dX6_counts_51 : decode cX6_counts 51 = .ok (.invokestatic 110, 3) := by decide +kernel
theorem dX6_counts_54 : decode cX6_counts 54 = .ok (.iconst 1, 1) := by decide +kernel
theorem dX6_counts_55 : decode cX6_counts 55 = .ok (.isub, 1) := by decide +kernel
theorem dX6_counts_56 : decode cX6_counts 56 = .ok (.invokestatic 66, 3) := by decide +kernel
theorem dX6_counts_59 : decode cX6_counts 59 = .ok (.ifCond .eq 7, 3) := by decide +kernel
theorem dX6_counts_62 : decode cX6_counts 62 = .ok (.iconst 1, 1) := by decide +kernel
theorem dX6_counts_63 : decode cX6_counts 63 = .ok (.goto 4, 3) := by decide +kernel
theorem dX6_counts_66 : decode cX6_counts 66 = .ok (.iconst 0, 1) := by decide +kernel
theorem dX6_counts_67 : decode cX6_counts 67 = .ok (.ireturn, 1) := by decide +kernel
theorem dX6_valueOf_0 : decode cX6_valueOf 0 = .ok (.aload_n 1, 1) := by decide +kernel
theorem dX6_valueOf_1 : decode cX6_valueOf 1 = .ok (.bipush 12, 2) := by decide +kernel
theorem dX6_valueOf_3 : decode cX6_valueOf 3 = .ok (.iload_n 2, 1) := by decide +kernel
theorem dX6_valueOf_4 : decode cX6_valueOf 4 = .ok (.iadd, 1) := by decide +kernel
theorem dX6_valueOf_5 : decode cX6_valueOf 5 = .ok (.iaload, 1) := by decide +kernel
theorem dX6_valueOf_6 : decode cX6_valueOf 6 = .ok (.iconst 1, 1) := by decide +kernel
theorem dX6_valueOf_7 : decode cX6_valueOf 7 = .ok (.if_icmp .ne 13, 3) := by decide +kernel
theorem dX6_valueOf_10 : decode cX6_valueOf 10 = .ok (.aload_n 1, 1) := by decide +kernel
theorem dX6_valueOf_11 : decode cX6_valueOf 11 = .ok (.sipush 137, 3) := by decide +kernel
theorem dX6_valueOf_14 : decode cX6_valueOf 14 = .ok (.iload_n 2, 1) := by decide +kernel
theorem dX6_valueOf_15 : decode cX6_valueOf 15 = .ok (.iadd, 1) := by decide +kernel
theorem dX6_valueOf_16 : decode cX6_valueOf 16 = .ok (.iaload, 1) := by decide +kernel
theorem dX6_valueOf_17 : decode cX6_valueOf 17 = .ok (.goto 29, 3) := by decide +kernel
theorem dX6_valueOf_20 : decode cX6_valueOf 20 = .ok (.aload_n 1, 1) := by decide +kernel
theorem dX6_valueOf_21 : decode cX6_valueOf 21 = .ok (.bipush 12, 2) := by decide +kernel
theorem dX6_valueOf_23 : decode cX6_valueOf 23 = .ok (.iload_n 2, 1) := by decide +kernel
theorem dX6_valueOf_24 : decode cX6_valueOf 24 = .ok (.iadd, 1) := by decide +kernel
theorem dX6_valueOf_25 : decode cX6_valueOf 25 = .ok (.iaload, 1) := by decide +kernel
theorem dX6_valueOf_26 : decode cX6_valueOf 26 = .ok (.iconst 3, 1) := by decide +kernel
theorem dX6_valueOf_27 : decode cX6_valueOf 27 = .ok (.if_icmp .ne 18, 3) := by decide +kernel
theorem dX6_valueOf_30 : decode cX6_valueOf 30 = .ok (.aload_n 0, 1) := by decide +kernel
theorem dX6_valueOf_31 : decode cX6_valueOf 31 = .ok (.getfield 25, 3) := by decide +kernel
theorem dX6_valueOf_34 : decode cX6_valueOf 34 = .ok (.aload_n 1, 1) := by decide +kernel
theorem dX6_valueOf_35 : decode cX6_valueOf 35 = .ok (.sipush 137, 3) := by decide +kernel
theorem dX6_valueOf_38 : decode cX6_valueOf 38 = .ok (.iload_n 2, 1) := by decide +kernel
theorem dX6_valueOf_39 : decode cX6_valueOf 39 = .ok (.iadd, 1) := by decide +kernel
theorem dX6_valueOf_40 : decode cX6_valueOf 40 = .ok (.iaload, 1) := by decide +kernel
theorem dX6_valueOf_41 : decode cX6_valueOf 41 = .ok (.iaload, 1) := by decide +kernel
theorem dX6_valueOf_42 : decode cX6_valueOf 42 = .ok (.goto 4, 3) := by decide +kernel
theorem dX6_valueOf_45 : decode cX6_valueOf 45 = .ok (.iconst 0, 1) := by decide +kernel
theorem dX6_valueOf_46 : decode cX6_valueOf 46 = .ok (.ireturn, 1) := by decide +kernel
theorem dX6_summed_0 : decode cX6_summed 0 = .ok (.iconst 0, 1) := by decide +kernel
theorem dX6_summed_1 : decode cX6_summed 1 = .ok (.istore_n 3, 1) := by decide +kernel
theorem dX6_summed_2 : decode cX6_summed 2 = .ok (.iconst 0, 1) := by decide +kernel
theorem dX6_summed_3 : decode cX6_summed 3 = .ok (.istore 4, 2) := by decide +kernel
theorem dX6_summed_5 : decode cX6_summed 5 = .ok (.iload 4, 2) := by decide +kernel
theorem dX6_summed_7 : decode cX6_summed 7 = .ok (.bipush 25, 2) := by decide +kernel
theorem dX6_summed_9 : decode cX6_summed 9 = .ok (.if_icmp .ge 53, 3) := by decide +kernel
theorem dX6_summed_12 : decode cX6_summed 12 = .ok (.iload_n 2, 1) := by decide +kernel
theorem dX6_summed_13 : decode cX6_summed 13 = .ok (.iload_n 2, 1) := by decide +kernel
theorem dX6_summed_14 : decode cX6_summed 14 = .ok (.bipush 25, 2) := by decide +kernel
theorem dX6_summed_16 : decode cX6_summed 16 = .ok (.irem, 1) := by decide +kernel
theorem dX6_summed_17 : decode cX6_summed 17 = .ok (.isub, 1) := by decide +kernel
theorem dX6_summed_18 : decode cX6_summed 18 = .ok (.iload 4, 2) := by decide +kernel
theorem dX6_summed_20 : decode cX6_summed 20 = .ok (.iadd, 1) := by decide +kernel
theorem dX6_summed_21 : decode cX6_summed 21 = .ok (.istore 5, 2) := by decide +kernel
theorem dX6_summed_23 : decode cX6_summed 23 = .ok (.iload_n 3, 1) := by decide +kernel
theorem dX6_summed_24 : decode cX6_summed 24 = .ok (.aload_n 1, 1) := by decide +kernel
theorem dX6_summed_25 : decode cX6_summed 25 = .ok (.iload 5, 2) := by decide +kernel
theorem dX6_summed_27 : decode cX6_summed 27 = .ok (.invokestatic 103, 3) := by decide +kernel
theorem dX6_summed_30 : decode cX6_summed 30 = .ok (.ifCond .eq 23, 3) := by decide +kernel
theorem dX6_summed_33 : decode cX6_summed 33 = .ok (.aload_n 1, 1) := by decide +kernel
theorem dX6_summed_34 : decode cX6_summed 34 = .ok (.iload_n 2, 1) := by decide +kernel
theorem dX6_summed_35 : decode cX6_summed 35 = .ok (.iload 5, 2) := by decide +kernel
theorem dX6_summed_37 : decode cX6_summed 37 = .ok (.invokestatic 118, 3) := by decide +kernel
theorem dX6_summed_40 : decode cX6_summed 40 = .ok (.ifCond .eq 13, 3) := by decide +kernel
theorem dX6_summed_43 : decode cX6_summed 43 = .ok (.aload_n 0, 1) := by decide +kernel
theorem dX6_summed_44 : decode cX6_summed 44 = .ok (.aload_n 1, 1) := by decide +kernel
theorem dX6_summed_45 : decode cX6_summed 45 = .ok (.iload 5, 2) := by decide +kernel
theorem dX6_summed_47 : decode cX6_summed 47 = .ok (.invokevirtual 122, 3) := by decide +kernel
theorem dX6_summed_50 : decode cX6_summed 50 = .ok (.goto 4, 3) := by decide +kernel
theorem dX6_summed_53 : decode cX6_summed 53 = .ok (.iconst 0, 1) := by decide +kernel
theorem dX6_summed_54 : decode cX6_summed 54 = .ok (.iadd, 1) := by decide +kernel
theorem dX6_summed_55 : decode cX6_summed 55 = .ok (.istore_n 3, 1) := by decide +kernel
theorem dX6_summed_56 : decode cX6_summed 56 = .ok (.iinc 4 1, 3) := by decide +kernel
theorem dX6_summed_59 : decode cX6_summed 59 = .ok (.goto (-54), 3) := by decide +kernel
theorem dX6_summed_62 : decode cX6_summed 62 = .ok (.iload_n 3, 1) := by decide +kernel
theorem dX6_summed_63 : decode cX6_summed 63 = .ok (.ireturn, 1) := by decide +kernel
theorem dX6_beside_0 : decode cX6_beside 0 = .ok (.iload_n 1, 1) := by decide +kernel
theorem dX6_beside_1 : decode cX6_beside 1 = .ok (.bipush 25, 2) := by decide +kernel
theorem dX6_beside_3 : decode cX6_beside 3 = .ok (.idiv, 1) := by decide +kernel
theorem dX6_beside_4 : decode cX6_beside 4 = .ok (.istore_n 3, 1) := by decide +kernel
theorem dX6_beside_5 : decode cX6_beside 5 = .ok (.iload_n 1, 1) := by decide +kernel
theorem dX6_beside_6 : decode cX6_beside 6 = .ok (.invokestatic 100, 3) := by decide +kernel
theorem dX6_beside_9 : decode cX6_beside 9 = .ok (.iload_n 2, 1) := by decide +kernel
theorem dX6_beside_10 : decode cX6_beside 10 = .ok (.ifCond .ne 7, 3) := by decide +kernel
theorem dX6_beside_13 : decode cX6_beside 13 = .ok (.iconst (-1), 1) := by decide +kernel
theorem dX6_beside_14 : decode cX6_beside 14 = .ok (.goto 13, 3) := by decide +kernel
theorem dX6_beside_17 : decode cX6_beside 17 = .ok (.iload_n 2, 1) := by decide +kernel
theorem dX6_beside_18 : decode cX6_beside 18 = .ok (.iconst 2, 1) := by decide +kernel
theorem dX6_beside_19 : decode cX6_beside 19 = .ok (.if_icmp .ne 7, 3) := by decide +kernel
theorem dX6_beside_22 : decode cX6_beside 22 = .ok (.iconst 1, 1) := by decide +kernel
theorem dX6_beside_23 : decode cX6_beside 23 = .ok (.goto 4, 3) := by decide +kernel
theorem dX6_beside_26 : decode cX6_beside 26 = .ok (.iconst 0, 1) := by decide +kernel
theorem dX6_beside_27 : decode cX6_beside 27 = .ok (.iadd, 1) := by decide +kernel
theorem dX6_beside_28 : decode cX6_beside 28 = .ok (.istore 4, 2) := by decide +kernel
theorem dX6_beside_30 : decode cX6_beside 30 = .ok (.iload_n 1, 1) := by decide +kernel
theorem dX6_beside_31 : decode cX6_beside 31 = .ok (.iconst 5, 1) := by decide +kernel
theorem dX6_beside_32 : decode cX6_beside 32 = .ok (.irem, 1) := by decide +kernel
theorem dX6_beside_33 : decode cX6_beside 33 = .ok (.iload_n 2, 1) := by decide +kernel
theorem dX6_beside_34 : decode cX6_beside 34 = .ok (.iconst 1, 1) := by decide +kernel
theorem dX6_beside_35 : decode cX6_beside 35 = .ok (.if_icmp .ne 7, 3) := by decide +kernel
theorem dX6_beside_38 : decode cX6_beside 38 = .ok (.iconst 1, 1) := by decide +kernel
theorem dX6_beside_39 : decode cX6_beside 39 = .ok (.goto 13, 3) := by decide +kernel
theorem dX6_beside_42 : decode cX6_beside 42 = .ok (.iload_n 2, 1) := by decide +kernel
theorem dX6_beside_43 : decode cX6_beside 43 = .ok (.iconst 3, 1) := by decide +kernel
theorem dX6_beside_44 : decode cX6_beside 44 = .ok (.if_icmp .ne 7, 3) := by decide +kernel
theorem dX6_beside_47 : decode cX6_beside 47 = .ok (.iconst (-1), 1) := by decide +kernel
theorem dX6_beside_48 : decode cX6_beside 48 = .ok (.goto 4, 3) := by decide +kernel
theorem dX6_beside_51 : decode cX6_beside 51 = .ok (.iconst 0, 1) := by decide +kernel
theorem dX6_beside_52 : decode cX6_beside 52 = .ok (.iadd, 1) := by decide +kernel
theorem dX6_beside_53 : decode cX6_beside 53 = .ok (.istore 5, 2) := by decide +kernel
theorem dX6_beside_55 : decode cX6_beside 55 = .ok (.iload 4, 2) := by decide +kernel
theorem dX6_beside_57 : decode cX6_beside 57 = .ok (.iconst 0, 1) := by decide +kernel
theorem dX6_beside_58 : decode cX6_beside 58 = .ok (.aload_n 0, 1) := by decide +kernel
theorem dX6_beside_59 : decode cX6_beside 59 = .ok (.iconst 2, 1) := by decide +kernel
theorem dX6_beside_60 : decode cX6_beside 60 = .ok (.iload_n 3, 1) := by decide +kernel
theorem dX6_beside_61 : decode cX6_beside 61 = .ok (.iadd, 1) := by decide +kernel
theorem dX6_beside_62 : decode cX6_beside 62 = .ok (.iaload, 1) := by decide +kernel
theorem dX6_beside_63 : decode cX6_beside 63 = .ok (.iconst 1, 1) := by decide +kernel
theorem dX6_beside_64 : decode cX6_beside 64 = .ok (.isub, 1) := by decide +kernel
theorem dX6_beside_65 : decode cX6_beside 65 = .ok (.invokestatic 66, 3) := by decide +kernel
theorem dX6_beside_68 : decode cX6_beside 68 = .ok (.ifCond .eq 31, 3) := by decide +kernel
theorem dX6_beside_71 : decode cX6_beside 71 = .ok (.iload 5, 2) := by decide +kernel
theorem dX6_beside_73 : decode cX6_beside 73 = .ok (.iconst 0, 1) := by decide +kernel
theorem dX6_beside_74 : decode cX6_beside 74 = .ok (.aload_n 0, 1) := by decide +kernel
theorem dX6_beside_75 : decode cX6_beside 75 = .ok (.bipush 7, 2) := by decide +kernel
theorem dX6_beside_77 : decode cX6_beside 77 = .ok (.iload_n 3, 1) := by decide +kernel
theorem dX6_beside_78 : decode cX6_beside 78 = .ok (.iadd, 1) := by decide +kernel
theorem dX6_beside_79 : decode cX6_beside 79 = .ok (.iaload, 1) := by decide +kernel
theorem dX6_beside_80 : decode cX6_beside 80 = .ok (.iconst 1, 1) := by decide +kernel
theorem dX6_beside_81 : decode cX6_beside 81 = .ok (.isub, 1) := by decide +kernel
theorem dX6_beside_82 : decode cX6_beside 82 = .ok (.invokestatic 66, 3) := by decide +kernel
theorem dX6_beside_85 : decode cX6_beside 85 = .ok (.ifCond .eq 14, 3) := by decide +kernel
theorem dX6_beside_88 : decode cX6_beside 88 = .ok (.iload_n 3, 1) := by decide +kernel
theorem dX6_beside_89 : decode cX6_beside 89 = .ok (.iload 4, 2) := by decide +kernel
theorem dX6_beside_91 : decode cX6_beside 91 = .ok (.iload 5, 2) := by decide +kernel
theorem dX6_beside_93 : decode cX6_beside 93 = .ok (.invokestatic 125, 3) := by decide +kernel
theorem dX6_beside_96 : decode cX6_beside 96 = .ok (.goto 4, 3) := by decide +kernel
theorem dX6_beside_99 : decode cX6_beside 99 = .ok (.iconst (-1), 1) := by decide +kernel
theorem dX6_beside_100 : decode cX6_beside 100 = .ok (.ireturn, 1) := by decide +kernel
theorem dX6_edgeOf_0 : decode cX6_edgeOf 0 = .ok (.aload_n 1, 1) := by decide +kernel
theorem dX6_edgeOf_1 : decode cX6_edgeOf 1 = .ok (.iload_n 2, 1) := by decide +kernel
theorem dX6_edgeOf_2 : decode cX6_edgeOf 2 = .ok (.iload_n 3, 1) := by decide +kernel
theorem dX6_edgeOf_3 : decode cX6_edgeOf 3 = .ok (.invokestatic 129, 3) := by decide +kernel
theorem dX6_edgeOf_6 : decode cX6_edgeOf 6 = .ok (.istore 4, 2) := by decide +kernel
theorem dX6_edgeOf_8 : decode cX6_edgeOf 8 = .ok (.aload_n 0, 1) := by decide +kernel
theorem dX6_edgeOf_9 : decode cX6_edgeOf 9 = .ok (.getfield 46, 3) := by decide +kernel
theorem dX6_edgeOf_12 : decode cX6_edgeOf 12 = .ok (.iconst 4, 1) := by decide +kernel
theorem dX6_edgeOf_13 : decode cX6_edgeOf 13 = .ok (.aload_n 1, 1) := by decide +kernel
theorem dX6_edgeOf_14 : decode cX6_edgeOf 14 = .ok (.sipush 512, 3) := by decide +kernel
theorem dX6_edgeOf_17 : decode cX6_edgeOf 17 = .ok (.iload_n 2, 1) := by decide +kernel
theorem dX6_edgeOf_18 : decode cX6_edgeOf 18 = .ok (.iadd, 1) := by decide +kernel
theorem dX6_edgeOf_19 : decode cX6_edgeOf 19 = .ok (.iaload, 1) := by decide +kernel
theorem dX6_edgeOf_20 : decode cX6_edgeOf 20 = .ok (.imul, 1) := by decide +kernel
theorem dX6_edgeOf_21 : decode cX6_edgeOf 21 = .ok (.iload_n 3, 1) := by decide +kernel
theorem dX6_edgeOf_22 : decode cX6_edgeOf 22 = .ok (.iadd, 1) := by decide +kernel
theorem dX6_edgeOf_23 : decode cX6_edgeOf 23 = .ok (.iaload, 1) := by decide +kernel
theorem dX6_edgeOf_24 : decode cX6_edgeOf 24 = .ok (.istore 5, 2) := by decide +kernel
theorem dX6_edgeOf_26 : decode cX6_edgeOf 26 = .ok (.iload 4, 2) := by decide +kernel
theorem dX6_edgeOf_28 : decode cX6_edgeOf 28 = .ok (.iconst (-1), 1) := by decide +kernel
theorem dX6_edgeOf_29 : decode cX6_edgeOf 29 = .ok (.if_icmp .ne 6, 3) := by decide +kernel
theorem dX6_edgeOf_32 : decode cX6_edgeOf 32 = .ok (.iload 5, 2) := by decide +kernel
theorem dX6_edgeOf_34 : decode cX6_edgeOf 34 = .ok (.ireturn, 1) := by decide +kernel
theorem dX6_edgeOf_35 : decode cX6_edgeOf 35 = .ok (.aload_n 0, 1) := by decide +kernel
theorem dX6_edgeOf_36 : decode cX6_edgeOf 36 = .ok (.getfield 46, 3) := by decide +kernel
theorem dX6_edgeOf_39 : decode cX6_edgeOf 39 = .ok (.iconst 4, 1) := by decide +kernel
theorem dX6_edgeOf_40 : decode cX6_edgeOf 40 = .ok (.aload_n 1, 1) := by decide +kernel
theorem dX6_edgeOf_41 : decode cX6_edgeOf 41 = .ok (.sipush 512, 3) := by decide +kernel
theorem dX6_edgeOf_44 : decode cX6_edgeOf 44 = .ok (.iload 4, 2) := by decide +kernel
theorem dX6_edgeOf_46 : decode cX6_edgeOf 46 = .ok (.iadd, 1) := by decide +kernel
theorem dX6_edgeOf_47 : decode cX6_edgeOf 47 = .ok (.iaload, 1) := by decide +kernel
theorem dX6_edgeOf_48 : decode cX6_edgeOf 48 = .ok (.imul, 1) := by decide +kernel
theorem dX6_edgeOf_49 : decode cX6_edgeOf 49 = .ok (.iload_n 3, 1) := by decide +kernel
theorem dX6_edgeOf_50 : decode cX6_edgeOf 50 = .ok (.iconst 2, 1) := by decide +kernel
theorem dX6_edgeOf_51 : decode cX6_edgeOf 51 = .ok (.iadd, 1) := by decide +kernel
theorem dX6_edgeOf_52 : decode cX6_edgeOf 52 = .ok (.iconst 4, 1) := by decide +kernel
theorem dX6_edgeOf_53 : decode cX6_edgeOf 53 = .ok (.irem, 1) := by decide +kernel
theorem dX6_edgeOf_54 : decode cX6_edgeOf 54 = .ok (.iadd, 1) := by decide +kernel
theorem dX6_edgeOf_55 : decode cX6_edgeOf 55 = .ok (.iaload, 1) := by decide +kernel
theorem dX6_edgeOf_56 : decode cX6_edgeOf 56 = .ok (.istore 6, 2) := by decide +kernel
theorem dX6_edgeOf_58 : decode cX6_edgeOf 58 = .ok (.aload_n 1, 1) := by decide +kernel
theorem dX6_edgeOf_59 : decode cX6_edgeOf 59 = .ok (.sipush 512, 3) := by decide +kernel
theorem dX6_edgeOf_62 : decode cX6_edgeOf 62 = .ok (.iload 4, 2) := by decide +kernel
theorem dX6_edgeOf_64 : decode cX6_edgeOf 64 = .ok (.iadd, 1) := by decide +kernel
theorem dX6_edgeOf_65 : decode cX6_edgeOf 65 = .ok (.iaload, 1) := by decide +kernel
theorem dX6_edgeOf_66 : decode cX6_edgeOf 66 = .ok (.aload_n 1, 1) := by decide +kernel
theorem dX6_edgeOf_67 : decode cX6_edgeOf 67 = .ok (.sipush 512, 3) := by decide +kernel
theorem dX6_edgeOf_70 : decode cX6_edgeOf 70 = .ok (.iload_n 2, 1) := by decide +kernel
theorem dX6_edgeOf_71 : decode cX6_edgeOf 71 = .ok (.iadd, 1) := by decide +kernel
theorem dX6_edgeOf_72 : decode cX6_edgeOf 72 = .ok (.iaload, 1) := by decide +kernel
theorem dX6_edgeOf_73 : decode cX6_edgeOf 73 = .ok (.if_icmp .ne 7, 3) := by decide +kernel
theorem dX6_edgeOf_76 : decode cX6_edgeOf 76 = .ok (.iconst 0, 1) := by decide +kernel
theorem dX6_edgeOf_77 : decode cX6_edgeOf 77 = .ok (.goto 17, 3) := by decide +kernel
theorem dX6_edgeOf_80 : decode cX6_edgeOf 80 = .ok (.iload 6, 2) := by decide +kernel
theorem dX6_edgeOf_82 : decode cX6_edgeOf 82 = .ok (.iload 5, 2) := by decide +kernel
theorem dX6_edgeOf_84 : decode cX6_edgeOf 84 = .ok (.if_icmp .le 8, 3) := by decide +kernel
theorem dX6_edgeOf_87 : decode cX6_edgeOf 87 = .ok (.iload 6, 2) := by decide +kernel
theorem dX6_edgeOf_89 : decode cX6_edgeOf 89 = .ok (.goto 5, 3) := by decide +kernel
theorem dX6_edgeOf_92 : decode cX6_edgeOf 92 = .ok (.iload 5, 2) := by decide +kernel
theorem dX6_edgeOf_94 : decode cX6_edgeOf 94 = .ok (.ireturn, 1) := by decide +kernel
theorem dX6_border_0 : decode cX6_border 0 = .ok (.iconst 0, 1) := by decide +kernel
theorem dX6_border_1 : decode cX6_border 1 = .ok (.istore 4, 2) := by decide +kernel
theorem dX6_border_3 : decode cX6_border 3 = .ok (.iconst 0, 1) := by decide +kernel
theorem dX6_border_4 : decode cX6_border 4 = .ok (.istore 5, 2) := by decide +kernel
theorem dX6_border_6 : decode cX6_border 6 = .ok (.iload 5, 2) := by decide +kernel
theorem dX6_border_8 : decode cX6_border 8 = .ok (.bipush 25, 2) := by decide +kernel
theorem dX6_border_10 : decode cX6_border 10 = .ok (.if_icmp .ge 66, 3) := by decide +kernel
theorem dX6_border_13 : decode cX6_border 13 = .ok (.bipush 25, 2) := by decide +kernel
theorem dX6_border_15 : decode cX6_border 15 = .ok (.iload_n 2, 1) := by decide +kernel
theorem dX6_border_16 : decode cX6_border 16 = .ok (.imul, 1) := by decide +kernel
theorem dX6_border_17 : decode cX6_border 17 = .ok (.iload 5, 2) := by decide +kernel
theorem dX6_border_19 : decode cX6_border 19 = .ok (.iadd, 1) := by decide +kernel
theorem dX6_border_20 : decode cX6_border 20 = .ok (.istore 6, 2) := by decide +kernel
theorem dX6_border_22 : decode cX6_border 22 = .ok (.aload_n 1, 1) := by decide +kernel
theorem dX6_border_23 : decode cX6_border 23 = .ok (.iload 6, 2) := by decide +kernel
theorem dX6_border_25 : decode cX6_border 25 = .ok (.invokestatic 74, 3) := by decide +kernel
theorem dX6_border_28 : decode cX6_border 28 = .ok (.ifCond .eq 42, 3) := by decide +kernel
theorem dX6_border_31 : decode cX6_border 31 = .ok (.aload_n 1, 1) := by decide +kernel
theorem dX6_border_32 : decode cX6_border 32 = .ok (.iload 6, 2) := by decide +kernel
theorem dX6_border_34 : decode cX6_border 34 = .ok (.iload_n 3, 1) := by decide +kernel
theorem dX6_border_35 : decode cX6_border 35 = .ok (.invokestatic 129, 3) := by decide +kernel
theorem dX6_border_38 : decode cX6_border 38 = .ok (.iconst (-1), 1) := by decide +kernel
theorem dX6_border_39 : decode cX6_border 39 = .ok (.if_icmp .ne 31, 3) := by decide +kernel
theorem dX6_border_42 : decode cX6_border 42 = .ok (.aload_n 0, 1) := by decide +kernel
theorem dX6_border_43 : decode cX6_border 43 = .ok (.aload_n 1, 1) := by decide +kernel
theorem dX6_border_44 : decode cX6_border 44 = .ok (.iload 6, 2) := by decide +kernel
theorem dX6_border_46 : decode cX6_border 46 = .ok (.iload_n 3, 1) := by decide +kernel
theorem dX6_border_47 : decode cX6_border 47 = .ok (.invokevirtual 133, 3) := by decide +kernel
theorem dX6_border_50 : decode cX6_border 50 = .ok (.iload 4, 2) := by decide +kernel
theorem dX6_border_52 : decode cX6_border 52 = .ok (.if_icmp .le 14, 3) := by decide +kernel
theorem dX6_border_55 : decode cX6_border 55 = .ok (.aload_n 0, 1) := by decide +kernel
theorem dX6_border_56 : decode cX6_border 56 = .ok (.aload_n 1, 1) := by decide +kernel
theorem dX6_border_57 : decode cX6_border 57 = .ok (.iload 6, 2) := by decide +kernel
theorem dX6_border_59 : decode cX6_border 59 = .ok (.iload_n 3, 1) := by decide +kernel
theorem dX6_border_60 : decode cX6_border 60 = .ok (.invokevirtual 133, 3) := by decide +kernel
theorem dX6_border_63 : decode cX6_border 63 = .ok (.goto 5, 3) := by decide +kernel
theorem dX6_border_66 : decode cX6_border 66 = .ok (.iload 4, 2) := by decide +kernel
theorem dX6_border_68 : decode cX6_border 68 = .ok (.istore 4, 2) := by decide +kernel
theorem dX6_border_70 : decode cX6_border 70 = .ok (.iinc 5 1, 3) := by decide +kernel
theorem dX6_border_73 : decode cX6_border 73 = .ok (.goto (-67), 3) := by decide +kernel
theorem dX6_border_76 : decode cX6_border 76 = .ok (.iload 4, 2) := by decide +kernel
theorem dX6_border_78 : decode cX6_border 78 = .ok (.ireturn, 1) := by decide +kernel
theorem dX6_laysRules_0 : decode cX6_laysRules 0 = .ok (.iconst 0, 1) := by decide +kernel
theorem dX6_laysRules_1 : decode cX6_laysRules 1 = .ok (.istore_n 3, 1) := by decide +kernel
theorem dX6_laysRules_2 : decode cX6_laysRules 2 = .ok (.iload_n 3, 1) := by decide +kernel
theorem dX6_laysRules_3 : decode cX6_laysRules 3 = .ok (.bipush 100, 2) := by decide +kernel
theorem dX6_laysRules_5 : decode cX6_laysRules 5 = .ok (.if_icmp .ge 104, 3) := by decide +kernel
theorem dX6_laysRules_8 : decode cX6_laysRules 8 = .ok (.bipush 25, 2) := by decide +kernel
theorem dX6_laysRules_10 : decode cX6_laysRules 10 = .ok (.iload_n 2, 1) := by decide +kernel
theorem dX6_laysRules_11 : decode cX6_laysRules 11 = .ok (.imul, 1) := by decide +kernel
theorem dX6_laysRules_12 : decode cX6_laysRules 12 = .ok (.iload_n 3, 1) := by decide +kernel
theorem dX6_laysRules_13 : decode cX6_laysRules 13 = .ok (.iconst 4, 1) := by decide +kernel
theorem dX6_laysRules_14 : decode cX6_laysRules 14 = .ok (.idiv, 1) := by decide +kernel
theorem dX6_laysRules_15 : decode cX6_laysRules 15 = .ok (.iadd, 1) := by decide +kernel
theorem dX6_laysRules_16 : decode cX6_laysRules 16 = .ok (.istore 4, 2) := by decide +kernel
theorem dX6_laysRules_18 : decode cX6_laysRules 18 = .ok (.aload_n 1, 1) := by decide +kernel
theorem dX6_laysRules_19 : decode cX6_laysRules 19 = .ok (.sipush 637, 3) := by decide +kernel
theorem dX6_laysRules_22 : decode cX6_laysRules 22 = .ok (.iconst 4, 1) := by decide +kernel
theorem dX6_laysRules_23 : decode cX6_laysRules 23 = .ok (.iload 4, 2) := by decide +kernel
theorem dX6_laysRules_25 : decode cX6_laysRules 25 = .ok (.imul, 1) := by decide +kernel
theorem dX6_laysRules_26 : decode cX6_laysRules 26 = .ok (.iadd, 1) := by decide +kernel
theorem dX6_laysRules_27 : decode cX6_laysRules 27 = .ok (.iload_n 3, 1) := by decide +kernel
theorem dX6_laysRules_28 : decode cX6_laysRules 28 = .ok (.iconst 4, 1) := by decide +kernel
theorem dX6_laysRules_29 : decode cX6_laysRules 29 = .ok (.irem, 1) := by decide +kernel
theorem dX6_laysRules_30 : decode cX6_laysRules 30 = .ok (.iadd, 1) := by decide +kernel
theorem dX6_laysRules_31 : decode cX6_laysRules 31 = .ok (.iaload, 1) := by decide +kernel
theorem dX6_laysRules_32 : decode cX6_laysRules 32 = .ok (.istore 5, 2) := by decide +kernel
theorem dX6_laysRules_34 : decode cX6_laysRules 34 = .ok (.aload_n 1, 1) := by decide +kernel
theorem dX6_laysRules_35 : decode cX6_laysRules 35 = .ok (.iload 4, 2) := by decide +kernel
theorem dX6_laysRules_37 : decode cX6_laysRules 37 = .ok (.invokestatic 103, 3) := by decide +kernel
theorem dX6_laysRules_40 : decode cX6_laysRules 40 = .ok (.ifCond .eq 33, 3) := by decide +kernel
theorem dX6_laysRules_43 : decode cX6_laysRules 43 = .ok (.aload_n 1, 1) := by decide +kernel
theorem dX6_laysRules_44 : decode cX6_laysRules 44 = .ok (.bipush 12, 2) := by decide +kernel
theorem dX6_laysRules_46 : decode cX6_laysRules 46 = .ok (.iload 4, 2) := by decide +kernel
theorem dX6_laysRules_48 : decode cX6_laysRules 48 = .ok (.iadd, 1) := by decide +kernel
theorem dX6_laysRules_49 : decode cX6_laysRules 49 = .ok (.iaload, 1) := by decide +kernel
theorem dX6_laysRules_50 : decode cX6_laysRules 50 = .ok (.iconst 3, 1) := by decide +kernel
theorem dX6_laysRules_51 : decode cX6_laysRules 51 = .ok (.if_icmp .ne 22, 3) := by decide +kernel
theorem dX6_laysRules_54 : decode cX6_laysRules 54 = .ok (.aload_n 0, 1) := by decide +kernel
theorem dX6_laysRules_55 : decode cX6_laysRules 55 = .ok (.aload_n 1, 1) := by decide +kernel
theorem dX6_laysRules_56 : decode cX6_laysRules 56 = .ok (.aload_n 1, 1) := by decide +kernel
theorem dX6_laysRules_57 : decode cX6_laysRules 57 = .ok (.sipush 137, 3) := by decide +kernel
theorem dX6_laysRules_60 : decode cX6_laysRules 60 = .ok (.iload 4, 2) := by decide +kernel
theorem dX6_laysRules_62 : decode cX6_laysRules 62 = .ok (.iadd, 1) := by decide +kernel
theorem dX6_laysRules_63 : decode cX6_laysRules 63 = .ok (.iaload, 1) := by decide +kernel
theorem dX6_laysRules_64 : decode cX6_laysRules 64 = .ok (.iload_n 3, 1) := by decide +kernel
theorem dX6_laysRules_65 : decode cX6_laysRules 65 = .ok (.iconst 4, 1) := by decide +kernel
theorem dX6_laysRules_66 : decode cX6_laysRules 66 = .ok (.irem, 1) := by decide +kernel
theorem dX6_laysRules_67 : decode cX6_laysRules 67 = .ok (.invokevirtual 136, 3) := by decide +kernel
theorem dX6_laysRules_70 : decode cX6_laysRules 70 = .ok (.goto 4, 3) := by decide +kernel
theorem dX6_laysRules_73 : decode cX6_laysRules 73 = .ok (.iconst 0, 1) := by decide +kernel
theorem dX6_laysRules_74 : decode cX6_laysRules 74 = .ok (.istore 6, 2) := by decide +kernel
theorem dX6_laysRules_76 : decode cX6_laysRules 76 = .ok (.aload_n 0, 1) := by decide +kernel
theorem dX6_laysRules_77 : decode cX6_laysRules 77 = .ok (.getfield 46, 3) := by decide +kernel
theorem dX6_laysRules_80 : decode cX6_laysRules 80 = .ok (.iconst 4, 1) := by decide +kernel
theorem dX6_laysRules_81 : decode cX6_laysRules 81 = .ok (.iload 4, 2) := by decide +kernel
theorem dX6_laysRules_83 : decode cX6_laysRules 83 = .ok (.imul, 1) := by decide +kernel
theorem dX6_laysRules_84 : decode cX6_laysRules 84 = .ok (.iload_n 3, 1) := by decide +kernel
theorem dX6_laysRules_85 : decode cX6_laysRules 85 = .ok (.iconst 4, 1) := by decide +kernel
theorem dX6_laysRules_86 : decode cX6_laysRules 86 = .ok (.irem, 1) := by decide +kernel
theorem dX6_laysRules_87 : decode cX6_laysRules 87 = .ok (.iadd, 1) := by decide +kernel
theorem dX6_laysRules_88 : decode cX6_laysRules 88 = .ok (.iload 6, 2) := by decide +kernel
theorem dX6_laysRules_90 : decode cX6_laysRules 90 = .ok (.iload 5, 2) := by decide +kernel
theorem dX6_laysRules_92 : decode cX6_laysRules 92 = .ok (.if_icmp .le 8, 3) := by decide +kernel
theorem dX6_laysRules_95 : decode cX6_laysRules 95 = .ok (.iload 6, 2) := by decide +kernel
theorem dX6_laysRules_97 : decode cX6_laysRules 97 = .ok (.goto 5, 3) := by decide +kernel
theorem dX6_laysRules_100 : decode cX6_laysRules 100 = .ok (.iload 5, 2) := by decide +kernel
theorem dX6_laysRules_102 : decode cX6_laysRules 102 = .ok (.iastore, 1) := by decide +kernel
theorem dX6_laysRules_103 : decode cX6_laysRules 103 = .ok (.iinc 3 1, 3) := by decide +kernel
theorem dX6_laysRules_106 : decode cX6_laysRules 106 = .ok (.goto (-104), 3) := by decide +kernel
theorem dX6_laysRules_109 : decode cX6_laysRules 109 = .ok (.return_, 1) := by decide +kernel
theorem dX6_lines_0 : decode cX6_lines 0 = .ok (.iconst 0, 1) := by decide +kernel
theorem dX6_lines_1 : decode cX6_lines 1 = .ok (.istore 4, 2) := by decide +kernel
theorem dX6_lines_3 : decode cX6_lines 3 = .ok (.aload_n 1, 1) := by decide +kernel
theorem dX6_lines_4 : decode cX6_lines 4 = .ok (.iload_n 3, 1) := by decide +kernel
theorem dX6_lines_5 : decode cX6_lines 5 = .ok (.ifCond .eq 8, 3) := by decide +kernel
theorem dX6_lines_8 : decode cX6_lines 8 = .ok (.bipush 7, 2) := by decide +kernel
theorem dX6_lines_10 : decode cX6_lines 10 = .ok (.goto 4, 3) := by decide +kernel
theorem dX6_lines_13 : decode cX6_lines 13 = .ok (.iconst 2, 1) := by decide +kernel
theorem dX6_lines_14 : decode cX6_lines 14 = .ok (.iload_n 2, 1) := by decide +kernel
theorem dX6_lines_15 : decode cX6_lines 15 = .ok (.iadd, 1) := by decide +kernel
theorem dX6_lines_16 : decode cX6_lines 16 = .ok (.iaload, 1) := by decide +kernel
theorem dX6_lines_17 : decode cX6_lines 17 = .ok (.istore 5, 2) := by decide +kernel
theorem dX6_lines_19 : decode cX6_lines 19 = .ok (.aload_n 1, 1) := by decide +kernel
theorem dX6_lines_20 : decode cX6_lines 20 = .ok (.iload_n 3, 1) := by decide +kernel
theorem dX6_lines_21 : decode cX6_lines 21 = .ok (.ifCond .eq 7, 3) := by decide +kernel
theorem dX6_lines_24 : decode cX6_lines 24 = .ok (.iconst 2, 1) := by decide +kernel
theorem dX6_lines_25 : decode cX6_lines 25 = .ok (.goto 5, 3) := by decide +kernel
theorem dX6_lines_28 : decode cX6_lines 28 = .ok (.bipush 7, 2) := by decide +kernel
theorem dX6_lines_30 : decode cX6_lines 30 = .ok (.iload_n 2, 1) := by decide +kernel
theorem dX6_lines_31 : decode cX6_lines 31 = .ok (.iadd, 1) := by decide +kernel
theorem dX6_lines_32 : decode cX6_lines 32 = .ok (.iaload, 1) := by decide +kernel
theorem dX6_lines_33 : decode cX6_lines 33 = .ok (.istore 6, 2) := by decide +kernel
theorem dX6_lines_35 : decode cX6_lines 35 = .ok (.iconst 0, 1) := by decide +kernel
theorem dX6_lines_36 : decode cX6_lines 36 = .ok (.istore 7, 2) := by decide +kernel
theorem dX6_lines_38 : decode cX6_lines 38 = .ok (.iload 7, 2) := by decide +kernel
theorem dX6_lines_40 : decode cX6_lines 40 = .ok (.iload 5, 2) := by decide +kernel
theorem dX6_lines_42 : decode cX6_lines 42 = .ok (.if_icmp .gt 140, 3) := by decide +kernel
theorem dX6_lines_45 : decode cX6_lines 45 = .ok (.iconst 0, 1) := by decide +kernel
theorem dX6_lines_46 : decode cX6_lines 46 = .ok (.istore 8, 2) := by decide +kernel
theorem dX6_lines_48 : decode cX6_lines 48 = .ok (.iload 7, 2) := by decide +kernel
theorem dX6_lines_50 : decode cX6_lines 50 = .ok (.iload 5, 2) := by decide +kernel
theorem dX6_lines_52 : decode cX6_lines 52 = .ok (.if_icmp .ge 8, 3) := by decide +kernel
theorem dX6_lines_55 : decode cX6_lines 55 = .ok (.iload 7, 2) := by decide +kernel
theorem dX6_lines_57 : decode cX6_lines 57 = .ok (.goto 7, 3) := by decide +kernel
theorem dX6_lines_60 : decode cX6_lines 60 = .ok (.iload 5, 2) := by decide +kernel
theorem dX6_lines_62 : decode cX6_lines 62 = .ok (.iconst 1, 1) := by decide +kernel
theorem dX6_lines_63 : decode cX6_lines 63 = .ok (.isub, 1) := by decide +kernel
theorem dX6_lines_64 : decode cX6_lines 64 = .ok (.istore 9, 2) := by decide +kernel
theorem dX6_lines_66 : decode cX6_lines 66 = .ok (.iconst 0, 1) := by decide +kernel
theorem dX6_lines_67 : decode cX6_lines 67 = .ok (.istore 10, 2) := by decide +kernel
theorem dX6_lines_69 : decode cX6_lines 69 = .ok (.iload 10, 2) := by decide +kernel
theorem dX6_lines_71 : decode cX6_lines 71 = .ok (.iload 6, 2) := by decide +kernel
theorem dX6_lines_73 : decode cX6_lines 73 = .ok (.if_icmp .ge 88, 3) := by decide +kernel
theorem dX6_lines_76 : decode cX6_lines 76 = .ok (.iload_n 3, 1) := by decide +kernel
theorem dX6_lines_77 : decode cX6_lines 77 = .ok (.ifCond .eq 14, 3) := by decide +kernel
theorem dX6_lines_80 : decode cX6_lines 80 = .ok (.iload_n 2, 1) := by decide +kernel
theorem dX6_lines_81 : decode cX6_lines 81 = .ok (.iload 10, 2) := by decide +kernel
theorem dX6_lines_83 : decode cX6_lines 83 = .ok (.iload 9, 2) := by decide +kernel
theorem dX6_lines_85 : decode cX6_lines 85 = .ok (.invokestatic 125, 3) := by decide +kernel
theorem dX6_lines_88 : decode cX6_lines 88 = .ok (.goto 11, 3) := by decide +kernel
theorem dX6_lines_91 : decode cX6_lines 91 = .ok (.iload_n 2, 1) := by decide +kernel
theorem dX6_lines_92 : decode cX6_lines 92 = .ok (.iload 9, 2) := by decide +kernel
theorem dX6_lines_94 : decode cX6_lines 94 = .ok (.iload 10, 2) := by decide +kernel
theorem dX6_lines_96 : decode cX6_lines 96 = .ok (.invokestatic 125, 3) := by decide +kernel
theorem dX6_lines_99 : decode cX6_lines 99 = .ok (.istore 11, 2) := by decide +kernel
theorem dX6_lines_101 : decode cX6_lines 101 = .ok (.iload 7, 2) := by decide +kernel
theorem dX6_lines_103 : decode cX6_lines 103 = .ok (.iload 5, 2) := by decide +kernel
theorem dX6_lines_105 : decode cX6_lines 105 = .ok (.if_icmp .ge 15, 3) := by decide +kernel
theorem dX6_lines_108 : decode cX6_lines 108 = .ok (.iload_n 3, 1) := by decide +kernel
theorem dX6_lines_109 : decode cX6_lines 109 = .ok (.ifCond .eq 7, 3) := by decide +kernel
theorem dX6_lines_112 : decode cX6_lines 112 = .ok (.iconst 3, 1) := by decide +kernel
theorem dX6_lines_113 : decode cX6_lines 113 = .ok (.goto 16, 3) := by decide +kernel
theorem dX6_lines_116 : decode cX6_lines 116 = .ok (.iconst 0, 1) := by decide +kernel
theorem dX6_lines_117 : decode cX6_lines 117 = .ok (.goto 12, 3) := by decide +kernel
theorem dX6_lines_120 : decode cX6_lines 120 = .ok (.iload_n 3, 1) := by decide +kernel
theorem dX6_lines_121 : decode cX6_lines 121 = .ok (.ifCond .eq 7, 3) := by decide +kernel
theorem dX6_lines_124 : decode cX6_lines 124 = .ok (.iconst 1, 1) := by decide +kernel
theorem dX6_lines_125 : decode cX6_lines 125 = .ok (.goto 4, 3) := by decide +kernel
theorem dX6_lines_128 : decode cX6_lines 128 = .ok (.iconst 2, 1) := by decide +kernel
theorem dX6_lines_129 : decode cX6_lines 129 = .ok (.istore 12, 2) := by decide +kernel
theorem dX6_lines_131 : decode cX6_lines 131 = .ok (.iload 8, 2) := by decide +kernel
theorem dX6_lines_133 : decode cX6_lines 133 = .ok (.ifCond .ne 15, 3) := by decide +kernel
theorem dX6_lines_136 : decode cX6_lines 136 = .ok (.aload_n 0, 1) := by decide +kernel
theorem dX6_lines_137 : decode cX6_lines 137 = .ok (.aload_n 1, 1) := by decide +kernel
theorem dX6_lines_138 : decode cX6_lines 138 = .ok (.iload 11, 2) := by decide +kernel
theorem dX6_lines_140 : decode cX6_lines 140 = .ok (.iload 12, 2) := by decide +kernel
theorem dX6_lines_142 : decode cX6_lines 142 = .ok (.invokevirtual 133, 3) := by decide +kernel
theorem dX6_lines_145 : decode cX6_lines 145 = .ok (.ifCond .le 7, 3) := by decide +kernel
theorem dX6_lines_148 : decode cX6_lines 148 = .ok (.iconst 1, 1) := by decide +kernel
theorem dX6_lines_149 : decode cX6_lines 149 = .ok (.goto 4, 3) := by decide +kernel
theorem dX6_lines_152 : decode cX6_lines 152 = .ok (.iconst 0, 1) := by decide +kernel
theorem dX6_lines_153 : decode cX6_lines 153 = .ok (.istore 8, 2) := by decide +kernel
theorem dX6_lines_155 : decode cX6_lines 155 = .ok (.iinc 10 1, 3) := by decide +kernel
theorem dX6_lines_158 : decode cX6_lines 158 = .ok (.goto (-89), 3) := by decide +kernel
theorem dX6_lines_161 : decode cX6_lines 161 = .ok (.iload 4, 2) := by decide +kernel
theorem dX6_lines_163 : decode cX6_lines 163 = .ok (.iload 8, 2) := by decide +kernel
theorem dX6_lines_165 : decode cX6_lines 165 = .ok (.ifCond .eq 7, 3) := by decide +kernel
theorem dX6_lines_168 : decode cX6_lines 168 = .ok (.iconst 1, 1) := by decide +kernel
theorem dX6_lines_169 : decode cX6_lines 169 = .ok (.goto 4, 3) := by decide +kernel
theorem dX6_lines_172 : decode cX6_lines 172 = .ok (.iconst 0, 1) := by decide +kernel
theorem dX6_lines_173 : decode cX6_lines 173 = .ok (.iadd, 1) := by decide +kernel
theorem dX6_lines_174 : decode cX6_lines 174 = .ok (.istore 4, 2) := by decide +kernel
theorem dX6_lines_176 : decode cX6_lines 176 = .ok (.iinc 7 1, 3) := by decide +kernel
theorem dX6_lines_179 : decode cX6_lines 179 = .ok (.goto (-141), 3) := by decide +kernel
theorem dX6_lines_182 : decode cX6_lines 182 = .ok (.iload 4, 2) := by decide +kernel
theorem dX6_lines_184 : decode cX6_lines 184 = .ok (.ireturn, 1) := by decide +kernel
theorem dX6_signs_0 : decode cX6_signs 0 = .ok (.iload_n 0, 1) := by decide +kernel
theorem dX6_signs_1 : decode cX6_signs 1 = .ok (.ifCond .ge 7, 3) := by decide +kernel
theorem dX6_signs_4 : decode cX6_signs 4 = .ok (.iconst 2, 1) := by decide +kernel
theorem dX6_signs_5 : decode cX6_signs 5 = .ok (.goto 4, 3) := by decide +kernel
theorem dX6_signs_8 : decode cX6_signs 8 = .ok (.iconst 1, 1) := by decide +kernel
theorem dX6_signs_9 : decode cX6_signs 9 = .ok (.istore_n 1, 1) := by decide +kernel
theorem dX6_signs_10 : decode cX6_signs 10 = .ok (.iload_n 0, 1) := by decide +kernel
theorem dX6_signs_11 : decode cX6_signs 11 = .ok (.ifCond .ge 8, 3) := by decide +kernel
theorem dX6_signs_14 : decode cX6_signs 14 = .ok (.iload_n 0, 1) := by decide +kernel
theorem dX6_signs_15 : decode cX6_signs 15 = .ok (.ineg, 1) := by decide +kernel
theorem dX6_signs_16 : decode cX6_signs 16 = .ok (.goto 4, 3) := by decide +kernel
theorem dX6_signs_19 : decode cX6_signs 19 = .ok (.iload_n 0, 1) := by decide +kernel
theorem dX6_signs_20 : decode cX6_signs 20 = .ok (.istore_n 2, 1) := by decide +kernel
theorem dX6_signs_21 : decode cX6_signs 21 = .ok (.iload_n 2, 1) := by decide +kernel
theorem dX6_signs_22 : decode cX6_signs 22 = .ok (.bipush 9, 2) := by decide +kernel
theorem dX6_signs_24 : decode cX6_signs 24 = .ok (.if_icmp .le 14, 3) := by decide +kernel
theorem dX6_signs_27 : decode cX6_signs 27 = .ok (.iload_n 2, 1) := by decide +kernel
theorem dX6_signs_28 : decode cX6_signs 28 = .ok (.bipush 10, 2) := by decide +kernel
theorem dX6_signs_30 : decode cX6_signs 30 = .ok (.idiv, 1) := by decide +kernel
theorem dX6_signs_31 : decode cX6_signs 31 = .ok (.istore_n 2, 1) := by decide +kernel
theorem dX6_signs_32 : decode cX6_signs 32 = .ok (.iinc 1 1, 3) := by decide +kernel
theorem dX6_signs_35 : decode cX6_signs 35 = .ok (.goto (-14), 3) := by decide +kernel
theorem dX6_signs_38 : decode cX6_signs 38 = .ok (.iload_n 1, 1) := by decide +kernel
theorem dX6_signs_39 : decode cX6_signs 39 = .ok (.ireturn, 1) := by decide +kernel
theorem dX6_widthOf_0 : decode cX6_widthOf 0 = .ok (.aload_n 1, 1) := by decide +kernel
theorem dX6_widthOf_1 : decode cX6_widthOf 1 = .ok (.bipush 12, 2) := by decide +kernel
theorem dX6_widthOf_3 : decode cX6_widthOf 3 = .ok (.iload_n 2, 1) := by decide +kernel
theorem dX6_widthOf_4 : decode cX6_widthOf 4 = .ok (.iadd, 1) := by decide +kernel
theorem dX6_widthOf_5 : decode cX6_widthOf 5 = .ok (.iaload, 1) := by decide +kernel
theorem dX6_widthOf_6 : decode cX6_widthOf 6 = .ok (.tableswitch 64 0 3 #[30, 32, 43, 51], 30) := by decide +kernel
theorem dX6_widthOf_36 : decode cX6_widthOf 36 = .ok (.iconst 0, 1) := by decide +kernel
theorem dX6_widthOf_37 : decode cX6_widthOf 37 = .ok (.ireturn, 1) := by decide +kernel
theorem dX6_widthOf_38 : decode cX6_widthOf 38 = .ok (.aload_n 1, 1) := by decide +kernel
theorem dX6_widthOf_39 : decode cX6_widthOf 39 = .ok (.sipush 137, 3) := by decide +kernel
theorem dX6_widthOf_42 : decode cX6_widthOf 42 = .ok (.iload_n 2, 1) := by decide +kernel
theorem dX6_widthOf_43 : decode cX6_widthOf 43 = .ok (.iadd, 1) := by decide +kernel
theorem dX6_widthOf_44 : decode cX6_widthOf 44 = .ok (.iaload, 1) := by decide +kernel
theorem dX6_widthOf_45 : decode cX6_widthOf 45 = .ok (.invokestatic 139, 3) := by decide +kernel
theorem dX6_widthOf_48 : decode cX6_widthOf 48 = .ok (.ireturn, 1) := by decide +kernel
theorem dX6_widthOf_49 : decode cX6_widthOf 49 = .ok (.aload_n 1, 1) := by decide +kernel
theorem dX6_widthOf_50 : decode cX6_widthOf 50 = .ok (.sipush 137, 3) := by decide +kernel
theorem dX6_widthOf_53 : decode cX6_widthOf 53 = .ok (.iload_n 2, 1) := by decide +kernel
theorem dX6_widthOf_54 : decode cX6_widthOf 54 = .ok (.iadd, 1) := by decide +kernel
theorem dX6_widthOf_55 : decode cX6_widthOf 55 = .ok (.iaload, 1) := by decide +kernel
theorem dX6_widthOf_56 : decode cX6_widthOf 56 = .ok (.ireturn, 1) := by decide +kernel
theorem dX6_widthOf_57 : decode cX6_widthOf 57 = .ok (.aload_n 0, 1) := by decide +kernel
theorem dX6_widthOf_58 : decode cX6_widthOf 58 = .ok (.getfield 28, 3) := by decide +kernel
theorem dX6_widthOf_61 : decode cX6_widthOf 61 = .ok (.aload_n 1, 1) := by decide +kernel
theorem dX6_widthOf_62 : decode cX6_widthOf 62 = .ok (.sipush 137, 3) := by decide +kernel
theorem dX6_widthOf_65 : decode cX6_widthOf 65 = .ok (.iload_n 2, 1) := by decide +kernel
theorem dX6_widthOf_66 : decode cX6_widthOf 66 = .ok (.iadd, 1) := by decide +kernel
theorem dX6_widthOf_67 : decode cX6_widthOf 67 = .ok (.iaload, 1) := by decide +kernel
theorem dX6_widthOf_68 : decode cX6_widthOf 68 = .ok (.iaload, 1) := by decide +kernel
theorem dX6_widthOf_69 : decode cX6_widthOf 69 = .ok (.ireturn, 1) := by decide +kernel
theorem dX6_widthOf_70 : decode cX6_widthOf 70 = .ok (.aload_n 0, 1) := by decide +kernel
theorem dX6_widthOf_71 : decode cX6_widthOf 71 = .ok (.getfield 40, 3) := by decide +kernel
theorem dX6_widthOf_74 : decode cX6_widthOf 74 = .ok (.iload_n 2, 1) := by decide +kernel
theorem dX6_widthOf_75 : decode cX6_widthOf 75 = .ok (.iaload, 1) := by decide +kernel
theorem dX6_widthOf_76 : decode cX6_widthOf 76 = .ok (.invokestatic 139, 3) := by decide +kernel
theorem dX6_widthOf_79 : decode cX6_widthOf 79 = .ok (.ireturn, 1) := by decide +kernel
theorem dX6_heightOf_0 : decode cX6_heightOf 0 = .ok (.aload_n 1, 1) := by decide +kernel
theorem dX6_heightOf_1 : decode cX6_heightOf 1 = .ok (.bipush 12, 2) := by decide +kernel
theorem dX6_heightOf_3 : decode cX6_heightOf 3 = .ok (.iload_n 2, 1) := by decide +kernel
theorem dX6_heightOf_4 : decode cX6_heightOf 4 = .ok (.iadd, 1) := by decide +kernel
theorem dX6_heightOf_5 : decode cX6_heightOf 5 = .ok (.iaload, 1) := by decide +kernel
theorem dX6_heightOf_6 : decode cX6_heightOf 6 = .ok (.ifCond .ne 7, 3) := by decide +kernel
theorem dX6_heightOf_9 : decode cX6_heightOf 9 = .ok (.iconst 0, 1) := by decide +kernel
theorem dX6_heightOf_10 : decode cX6_heightOf 10 = .ok (.goto 29, 3) := by decide +kernel
theorem dX6_heightOf_13 : decode cX6_heightOf 13 = .ok (.aload_n 1, 1) := by decide +kernel
theorem dX6_heightOf_14 : decode cX6_heightOf 14 = .ok (.bipush 12, 2) := by decide +kernel
theorem dX6_heightOf_16 : decode cX6_heightOf 16 = .ok (.iload_n 2, 1) := by decide +kernel
theorem dX6_heightOf_17 : decode cX6_heightOf 17 = .ok (.iadd, 1) := by decide +kernel
theorem dX6_heightOf_18 : decode cX6_heightOf 18 = .ok (.iaload, 1) := by decide +kernel
theorem dX6_heightOf_19 : decode cX6_heightOf 19 = .ok (.iconst 3, 1) := by decide +kernel
theorem dX6_heightOf_20 : decode cX6_heightOf 20 = .ok (.if_icmp .ne 18, 3) := by decide +kernel
theorem dX6_heightOf_23 : decode cX6_heightOf 23 = .ok (.aload_n 0, 1) := by decide +kernel
theorem dX6_heightOf_24 : decode cX6_heightOf 24 = .ok (.getfield 31, 3) := by decide +kernel
theorem dX6_heightOf_27 : decode cX6_heightOf 27 = .ok (.aload_n 1, 1) := by decide +kernel
theorem dX6_heightOf_28 : decode cX6_heightOf 28 = .ok (.sipush 137, 3) := by decide +kernel
theorem dX6_heightOf_31 : decode cX6_heightOf 31 = .ok (.iload_n 2, 1) := by decide +kernel
theorem dX6_heightOf_32 : decode cX6_heightOf 32 = .ok (.iadd, 1) := by decide +kernel
theorem dX6_heightOf_33 : decode cX6_heightOf 33 = .ok (.iaload, 1) := by decide +kernel
theorem dX6_heightOf_34 : decode cX6_heightOf 34 = .ok (.iaload, 1) := by decide +kernel
theorem dX6_heightOf_35 : decode cX6_heightOf 35 = .ok (.goto 4, 3) := by decide +kernel
theorem dX6_heightOf_38 : decode cX6_heightOf 38 = .ok (.iconst 1, 1) := by decide +kernel
theorem dX6_heightOf_39 : decode cX6_heightOf 39 = .ok (.ireturn, 1) := by decide +kernel
theorem dX6_laysColumns_0 : decode cX6_laysColumns 0 = .ok (.iconst 0, 1) := by decide +kernel
theorem dX6_laysColumns_1 : decode cX6_laysColumns 1 = .ok (.istore_n 3, 1) := by decide +kernel
theorem dX6_laysColumns_2 : decode cX6_laysColumns 2 = .ok (.iload_n 3, 1) := by decide +kernel
theorem dX6_laysColumns_3 : decode cX6_laysColumns 3 = .ok (.iconst 5, 1) := by decide +kernel
theorem dX6_laysColumns_4 : decode cX6_laysColumns 4 = .ok (.if_icmp .ge 20, 3) := by decide +kernel
theorem dX6_laysColumns_7 : decode cX6_laysColumns 7 = .ok (.aload_n 0, 1) := by decide +kernel
theorem dX6_laysColumns_8 : decode cX6_laysColumns 8 = .ok (.getfield 49, 3) := by decide +kernel
theorem dX6_laysColumns_11 : decode cX6_laysColumns 11 = .ok (.iconst 5, 1) := by decide +kernel
theorem dX6_laysColumns_12 : decode cX6_laysColumns 12 = .ok (.iload_n 2, 1) := by decide +kernel
theorem dX6_laysColumns_13 : decode cX6_laysColumns 13 = .ok (.imul, 1) := by decide +kernel
theorem dX6_laysColumns_14 : decode cX6_laysColumns 14 = .ok (.iload_n 3, 1) := by decide +kernel
theorem dX6_laysColumns_15 : decode cX6_laysColumns 15 = .ok (.iadd, 1) := by decide +kernel
theorem dX6_laysColumns_16 : decode cX6_laysColumns 16 = .ok (.iconst 0, 1) := by decide +kernel
theorem dX6_laysColumns_17 : decode cX6_laysColumns 17 = .ok (.iastore, 1) := by decide +kernel
theorem dX6_laysColumns_18 : decode cX6_laysColumns 18 = .ok (.iinc 3 1, 3) := by decide +kernel
theorem dX6_laysColumns_21 : decode cX6_laysColumns 21 = .ok (.goto (-19), 3) := by decide +kernel
theorem dX6_laysColumns_24 : decode cX6_laysColumns 24 = .ok (.iconst 0, 1) := by decide +kernel
theorem dX6_laysColumns_25 : decode cX6_laysColumns 25 = .ok (.istore_n 3, 1) := by decide +kernel
theorem dX6_laysColumns_26 : decode cX6_laysColumns 26 = .ok (.iload_n 3, 1) := by decide +kernel
theorem dX6_laysColumns_27 : decode cX6_laysColumns 27 = .ok (.bipush 50, 2) := by decide +kernel
theorem dX6_laysColumns_29 : decode cX6_laysColumns 29 = .ok (.if_icmp .ge 153, 3) := by decide +kernel
theorem dX6_laysColumns_32 : decode cX6_laysColumns 32 = .ok (.bipush 25, 2) := by decide +kernel
theorem dX6_laysColumns_34 : decode cX6_laysColumns 34 = .ok (.iload_n 2, 1) := by decide +kernel
theorem dX6_laysColumns_35 : decode cX6_laysColumns 35 = .ok (.imul, 1) := by decide +kernel
theorem dX6_laysColumns_36 : decode cX6_laysColumns 36 = .ok (.iload_n 3, 1) := by decide +kernel
theorem dX6_laysColumns_37 : decode cX6_laysColumns 37 = .ok (.bipush 25, 2) := by decide +kernel
theorem dX6_laysColumns_39 : decode cX6_laysColumns 39 = .ok (.irem, 1) := by decide +kernel
theorem dX6_laysColumns_40 : decode cX6_laysColumns 40 = .ok (.iadd, 1) := by decide +kernel
theorem dX6_laysColumns_41 : decode cX6_laysColumns 41 = .ok (.istore 4, 2) := by decide +kernel
theorem dX6_laysColumns_43 : decode cX6_laysColumns 43 = .ok (.aload_n 1, 1) := by decide +kernel
theorem dX6_laysColumns_44 : decode cX6_laysColumns 44 = .ok (.iload 4, 2) := by decide +kernel
theorem dX6_laysColumns_46 : decode cX6_laysColumns 46 = .ok (.invokestatic 103, 3) := by decide +kernel
theorem dX6_laysColumns_49 : decode cX6_laysColumns 49 = .ok (.ifCond .eq 127, 3) := by decide +kernel
theorem dX6_laysColumns_52 : decode cX6_laysColumns 52 = .ok (.aload_n 1, 1) := by decide +kernel
theorem dX6_laysColumns_53 : decode cX6_laysColumns 53 = .ok (.sipush 387, 3) := by decide +kernel
theorem dX6_laysColumns_56 : decode cX6_laysColumns 56 = .ok (.iload 4, 2) := by decide +kernel
theorem dX6_laysColumns_58 : decode cX6_laysColumns 58 = .ok (.iadd, 1) := by decide +kernel
theorem dX6_laysColumns_59 : decode cX6_laysColumns 59 = .ok (.iaload, 1) := by decide +kernel
theorem dX6_laysColumns_60 : decode cX6_laysColumns 60 = .ok (.iconst 1, 1) := by decide +kernel
theorem dX6_laysColumns_61 : decode cX6_laysColumns 61 = .ok (.if_icmp .ne 7, 3) := by decide +kernel
theorem dX6_laysColumns_64 : decode cX6_laysColumns 64 = .ok (.iconst 1, 1) := by decide +kernel
theorem dX6_laysColumns_65 : decode cX6_laysColumns 65 = .ok (.goto 4, 3) := by decide +kernel
theorem dX6_laysColumns_68 : decode cX6_laysColumns 68 = .ok (.iconst 0, 1) := by decide +kernel
theorem dX6_laysColumns_69 : decode cX6_laysColumns 69 = .ok (.iload_n 3, 1) := by decide +kernel
theorem dX6_laysColumns_70 : decode cX6_laysColumns 70 = .ok (.bipush 25, 2) := by decide +kernel
theorem dX6_laysColumns_72 : decode cX6_laysColumns 72 = .ok (.if_icmp .ge 7, 3) := by decide +kernel
theorem dX6_laysColumns_75 : decode cX6_laysColumns 75 = .ok (.iconst 1, 1) := by decide +kernel
theorem dX6_laysColumns_76 : decode cX6_laysColumns 76 = .ok (.goto 4, 3) := by decide +kernel
theorem dX6_laysColumns_79 : decode cX6_laysColumns 79 = .ok (.iconst 0, 1) := by decide +kernel
theorem dX6_laysColumns_80 : decode cX6_laysColumns 80 = .ok (.if_icmp .ne 96, 3) := by decide +kernel
theorem dX6_laysColumns_83 : decode cX6_laysColumns 83 = .ok (.iconst 5, 1) := by decide +kernel
theorem dX6_laysColumns_84 : decode cX6_laysColumns 84 = .ok (.iload_n 2, 1) := by decide +kernel
theorem dX6_laysColumns_85 : decode cX6_laysColumns 85 = .ok (.imul, 1) := by decide +kernel
theorem dX6_laysColumns_86 : decode cX6_laysColumns 86 = .ok (.iload 4, 2) := by decide +kernel
theorem dX6_laysColumns_88 : decode cX6_laysColumns 88 = .ok (.iconst 5, 1) := by decide +kernel
theorem dX6_laysColumns_89 : decode cX6_laysColumns 89 = .ok (.irem, 1) := by decide +kernel
theorem dX6_laysColumns_90 : decode cX6_laysColumns 90 = .ok (.iadd, 1) := by decide +kernel
theorem dX6_laysColumns_91 : decode cX6_laysColumns 91 = .ok (.istore 5, 2) := by decide +kernel
theorem dX6_laysColumns_93 : decode cX6_laysColumns 93 = .ok (.iload 5, 2) := by decide +kernel
theorem dX6_laysColumns_95 : decode cX6_laysColumns 95 = .ok (.aload_n 1, 1) := by decide +kernel
theorem dX6_laysColumns_96 : decode cX6_laysColumns 96 = .ok (.sipush 387, 3) := by decide +kernel
theorem dX6_laysColumns_99 : decode cX6_laysColumns 99 = .ok (.iload 4, 2) := by decide +kernel
theorem dX6_laysColumns_101 : decode cX6_laysColumns 101 = .ok (.iadd, 1) := by decide +kernel
theorem dX6_laysColumns_102 : decode cX6_laysColumns 102 = .ok (.iaload, 1) := by decide +kernel
theorem dX6_laysColumns_103 : decode cX6_laysColumns 103 = .ok (.iadd, 1) := by decide +kernel
theorem dX6_laysColumns_104 : decode cX6_laysColumns 104 = .ok (.iconst 1, 1) := by decide +kernel
theorem dX6_laysColumns_105 : decode cX6_laysColumns 105 = .ok (.isub, 1) := by decide +kernel
theorem dX6_laysColumns_106 : decode cX6_laysColumns 106 = .ok (.istore 6, 2) := by decide +kernel
theorem dX6_laysColumns_108 : decode cX6_laysColumns 108 = .ok (.iconst 0, 1) := by decide +kernel
theorem dX6_laysColumns_109 : decode cX6_laysColumns 109 = .ok (.istore 7, 2) := by decide +kernel
theorem dX6_laysColumns_111 : decode cX6_laysColumns 111 = .ok (.iload 5, 2) := by decide +kernel
theorem dX6_laysColumns_113 : decode cX6_laysColumns 113 = .ok (.istore 8, 2) := by decide +kernel
theorem dX6_laysColumns_115 : decode cX6_laysColumns 115 = .ok (.iload 8, 2) := by decide +kernel
theorem dX6_laysColumns_117 : decode cX6_laysColumns 117 = .ok (.iload 6, 2) := by decide +kernel
theorem dX6_laysColumns_119 : decode cX6_laysColumns 119 = .ok (.if_icmp .gt 21, 3) := by decide +kernel
theorem dX6_laysColumns_122 : decode cX6_laysColumns 122 = .ok (.iload 7, 2) := by decide +kernel
theorem dX6_laysColumns_124 : decode cX6_laysColumns 124 = .ok (.aload_n 0, 1) := by decide +kernel
theorem dX6_laysColumns_125 : decode cX6_laysColumns 125 = .ok (.getfield 49, 3) := by decide +kernel
theorem dX6_laysColumns_128 : decode cX6_laysColumns 128 = .ok (.iload 8, 2) := by decide +kernel
theorem dX6_laysColumns_130 : decode cX6_laysColumns 130 = .ok (.iaload, 1) := by decide +kernel
theorem dX6_laysColumns_131 : decode cX6_laysColumns 131 = .ok (.iadd, 1) := by decide +kernel
theorem dX6_laysColumns_132 : decode cX6_laysColumns 132 = .ok (.istore 7, 2) := by decide +kernel
theorem dX6_laysColumns_134 : decode cX6_laysColumns 134 = .ok (.iinc 8 1, 3) := by decide +kernel
theorem dX6_laysColumns_137 : decode cX6_laysColumns 137 = .ok (.goto (-22), 3) := by decide +kernel
theorem dX6_laysColumns_140 : decode cX6_laysColumns 140 = .ok (.aload_n 0, 1) := by decide +kernel
theorem dX6_laysColumns_141 : decode cX6_laysColumns 141 = .ok (.getfield 49, 3) := by decide +kernel
theorem dX6_laysColumns_144 : decode cX6_laysColumns 144 = .ok (.iload 6, 2) := by decide +kernel
theorem dX6_laysColumns_146 : decode cX6_laysColumns 146 = .ok (.dup2, 1) := by decide +kernel
theorem dX6_laysColumns_147 : decode cX6_laysColumns 147 = .ok (.iaload, 1) := by decide +kernel
theorem dX6_laysColumns_148 : decode cX6_laysColumns 148 = .ok (.aload_n 0, 1) := by decide +kernel
theorem dX6_laysColumns_149 : decode cX6_laysColumns 149 = .ok (.aload_n 1, 1) := by decide +kernel
theorem dX6_laysColumns_150 : decode cX6_laysColumns 150 = .ok (.iload 4, 2) := by decide +kernel
theorem dX6_laysColumns_152 : decode cX6_laysColumns 152 = .ok (.invokevirtual 142, 3) := by decide +kernel
theorem dX6_laysColumns_155 : decode cX6_laysColumns 155 = .ok (.iload 7, 2) := by decide +kernel
theorem dX6_laysColumns_157 : decode cX6_laysColumns 157 = .ok (.if_icmp .le 16, 3) := by decide +kernel
theorem dX6_laysColumns_160 : decode cX6_laysColumns 160 = .ok (.aload_n 0, 1) := by decide +kernel
theorem dX6_laysColumns_161 : decode cX6_laysColumns 161 = .ok (.aload_n 1, 1) := by decide +kernel
theorem dX6_laysColumns_162 : decode cX6_laysColumns 162 = .ok (.iload 4, 2) := by decide +kernel
theorem dX6_laysColumns_164 : decode cX6_laysColumns 164 = .ok (.invokevirtual 142, 3) := by decide +kernel
theorem dX6_laysColumns_167 : decode cX6_laysColumns 167 = .ok (.iload 7, 2) := by decide +kernel
theorem dX6_laysColumns_169 : decode cX6_laysColumns 169 = .ok (.isub, 1) := by decide +kernel
theorem dX6_laysColumns_170 : decode cX6_laysColumns 170 = .ok (.goto 4, 3) := by decide +kernel
theorem dX6_laysColumns_173 : decode cX6_laysColumns 173 = .ok (.iconst 0, 1) := by decide +kernel
theorem dX6_laysColumns_174 : decode cX6_laysColumns 174 = .ok (.iadd, 1) := by decide +kernel
theorem dX6_laysColumns_175 : decode cX6_laysColumns 175 = .ok (.iastore, 1) := by decide +kernel
theorem dX6_laysColumns_176 : decode cX6_laysColumns 176 = .ok (.iinc 3 1, 3) := by decide +kernel
theorem dX6_laysColumns_179 : decode cX6_laysColumns 179 = .ok (.goto (-153), 3) := by decide +kernel
theorem dX6_laysColumns_182 : decode cX6_laysColumns 182 = .ok (.return_, 1) := by decide +kernel
theorem dX6_laysRows_0 : decode cX6_laysRows 0 = .ok (.iconst 0, 1) := by decide +kernel
theorem dX6_laysRows_1 : decode cX6_laysRows 1 = .ok (.istore_n 3, 1) := by decide +kernel
theorem dX6_laysRows_2 : decode cX6_laysRows 2 = .ok (.iload_n 3, 1) := by decide +kernel
theorem dX6_laysRows_3 : decode cX6_laysRows 3 = .ok (.iconst 5, 1) := by decide +kernel
theorem dX6_laysRows_4 : decode cX6_laysRows 4 = .ok (.if_icmp .ge 20, 3) := by decide +kernel
theorem dX6_laysRows_7 : decode cX6_laysRows 7 = .ok (.aload_n 0, 1) := by decide +kernel
theorem dX6_laysRows_8 : decode cX6_laysRows 8 = .ok (.getfield 52, 3) := by decide +kernel
theorem dX6_laysRows_11 : decode cX6_laysRows 11 = .ok (.iconst 5, 1) := by decide +kernel
theorem dX6_laysRows_12 : decode cX6_laysRows 12 = .ok (.iload_n 2, 1) := by decide +kernel
theorem dX6_laysRows_13 : decode cX6_laysRows 13 = .ok (.imul, 1) := by decide +kernel
theorem dX6_laysRows_14 : decode cX6_laysRows 14 = .ok (.iload_n 3, 1) := by decide +kernel
theorem dX6_laysRows_15 : decode cX6_laysRows 15 = .ok (.iadd, 1) := by decide +kernel
theorem dX6_laysRows_16 : decode cX6_laysRows 16 = .ok (.iconst 0, 1) := by decide +kernel
theorem dX6_laysRows_17 : decode cX6_laysRows 17 = .ok (.iastore, 1) := by decide +kernel
theorem dX6_laysRows_18 : decode cX6_laysRows 18 = .ok (.iinc 3 1, 3) := by decide +kernel
theorem dX6_laysRows_21 : decode cX6_laysRows 21 = .ok (.goto (-19), 3) := by decide +kernel
theorem dX6_laysRows_24 : decode cX6_laysRows 24 = .ok (.iconst 0, 1) := by decide +kernel
theorem dX6_laysRows_25 : decode cX6_laysRows 25 = .ok (.istore_n 3, 1) := by decide +kernel
theorem dX6_laysRows_26 : decode cX6_laysRows 26 = .ok (.iload_n 3, 1) := by decide +kernel
theorem dX6_laysRows_27 : decode cX6_laysRows 27 = .ok (.bipush 50, 2) := by decide +kernel
theorem dX6_laysRows_29 : decode cX6_laysRows 29 = .ok (.if_icmp .ge 154, 3) := by decide +kernel
theorem dX6_laysRows_32 : decode cX6_laysRows 32 = .ok (.bipush 25, 2) := by decide +kernel
theorem dX6_laysRows_34 : decode cX6_laysRows 34 = .ok (.iload_n 2, 1) := by decide +kernel
theorem dX6_laysRows_35 : decode cX6_laysRows 35 = .ok (.imul, 1) := by decide +kernel
theorem dX6_laysRows_36 : decode cX6_laysRows 36 = .ok (.iload_n 3, 1) := by decide +kernel
theorem dX6_laysRows_37 : decode cX6_laysRows 37 = .ok (.bipush 25, 2) := by decide +kernel
theorem dX6_laysRows_39 : decode cX6_laysRows 39 = .ok (.irem, 1) := by decide +kernel
theorem dX6_laysRows_40 : decode cX6_laysRows 40 = .ok (.iadd, 1) := by decide +kernel
theorem dX6_laysRows_41 : decode cX6_laysRows 41 = .ok (.istore 4, 2) := by decide +kernel
theorem dX6_laysRows_43 : decode cX6_laysRows 43 = .ok (.aload_n 1, 1) := by decide +kernel
theorem dX6_laysRows_44 : decode cX6_laysRows 44 = .ok (.iload 4, 2) := by decide +kernel
theorem dX6_laysRows_46 : decode cX6_laysRows 46 = .ok (.invokestatic 103, 3) := by decide +kernel
theorem dX6_laysRows_49 : decode cX6_laysRows 49 = .ok (.ifCond .eq 128, 3) := by decide +kernel
theorem dX6_laysRows_52 : decode cX6_laysRows 52 = .ok (.aload_n 1, 1) := by decide +kernel
theorem dX6_laysRows_53 : decode cX6_laysRows 53 = .ok (.sipush 262, 3) := by decide +kernel
theorem dX6_laysRows_56 : decode cX6_laysRows 56 = .ok (.iload 4, 2) := by decide +kernel
theorem dX6_laysRows_58 : decode cX6_laysRows 58 = .ok (.iadd, 1) := by decide +kernel
theorem dX6_laysRows_59 : decode cX6_laysRows 59 = .ok (.iaload, 1) := by decide +kernel
theorem dX6_laysRows_60 : decode cX6_laysRows 60 = .ok (.iconst 1, 1) := by decide +kernel
theorem dX6_laysRows_61 : decode cX6_laysRows 61 = .ok (.if_icmp .ne 7, 3) := by decide +kernel
theorem dX6_laysRows_64 : decode cX6_laysRows 64 = .ok (.iconst 1, 1) := by decide +kernel
theorem dX6_laysRows_65 : decode cX6_laysRows 65 = .ok (.goto 4, 3) := by decide +kernel
theorem dX6_laysRows_68 : decode cX6_laysRows 68 = .ok (.iconst 0, 1) := by decide +kernel
theorem dX6_laysRows_69 : decode cX6_laysRows 69 = .ok (.iload_n 3, 1) := by decide +kernel
theorem dX6_laysRows_70 : decode cX6_laysRows 70 = .ok (.bipush 25, 2) := by decide +kernel
theorem dX6_laysRows_72 : decode cX6_laysRows 72 = .ok (.if_icmp .ge 7, 3) := by decide +kernel
theorem dX6_laysRows_75 : decode cX6_laysRows 75 = .ok (.iconst 1, 1) := by decide +kernel
theorem dX6_laysRows_76 : decode cX6_laysRows 76 = .ok (.goto 4, 3) := by decide +kernel
theorem dX6_laysRows_79 : decode cX6_laysRows 79 = .ok (.iconst 0, 1) := by decide +kernel
theorem dX6_laysRows_80 : decode cX6_laysRows 80 = .ok (.if_icmp .ne 97, 3) := by decide +kernel
theorem dX6_laysRows_83 : decode cX6_laysRows 83 = .ok (.iconst 5, 1) := by decide +kernel
theorem dX6_laysRows_84 : decode cX6_laysRows 84 = .ok (.iload_n 2, 1) := by decide +kernel
theorem dX6_laysRows_85 : decode cX6_laysRows 85 = .ok (.imul, 1) := by decide +kernel
theorem dX6_laysRows_86 : decode cX6_laysRows 86 = .ok (.iload 4, 2) := by decide +kernel
theorem dX6_laysRows_88 : decode cX6_laysRows 88 = .ok (.invokestatic 100, 3) := by decide +kernel
theorem dX6_laysRows_91 : decode cX6_laysRows 91 = .ok (.iadd, 1) := by decide +kernel
theorem dX6_laysRows_92 : decode cX6_laysRows 92 = .ok (.istore 5, 2) := by decide +kernel
theorem dX6_laysRows_94 : decode cX6_laysRows 94 = .ok (.iload 5, 2) := by decide +kernel
theorem dX6_laysRows_96 : decode cX6_laysRows 96 = .ok (.aload_n 1, 1) := by decide +kernel
theorem dX6_laysRows_97 : decode cX6_laysRows 97 = .ok (.sipush 262, 3) := by decide +kernel
theorem dX6_laysRows_100 : decode cX6_laysRows 100 = .ok (.iload 4, 2) := by decide +kernel
theorem dX6_laysRows_102 : decode cX6_laysRows 102 = .ok (.iadd, 1) := by decide +kernel
theorem dX6_laysRows_103 : decode cX6_laysRows 103 = .ok (.iaload, 1) := by decide +kernel
theorem dX6_laysRows_104 : decode cX6_laysRows 104 = .ok (.iadd, 1) := by decide +kernel
theorem dX6_laysRows_105 : decode cX6_laysRows 105 = .ok (.iconst 1, 1) := by decide +kernel
theorem dX6_laysRows_106 : decode cX6_laysRows 106 = .ok (.isub, 1) := by decide +kernel
theorem dX6_laysRows_107 : decode cX6_laysRows 107 = .ok (.istore 6, 2) := by decide +kernel
theorem dX6_laysRows_109 : decode cX6_laysRows 109 = .ok (.iconst 0, 1) := by decide +kernel
theorem dX6_laysRows_110 : decode cX6_laysRows 110 = .ok (.istore 7, 2) := by decide +kernel
theorem dX6_laysRows_112 : decode cX6_laysRows 112 = .ok (.iload 5, 2) := by decide +kernel
theorem dX6_laysRows_114 : decode cX6_laysRows 114 = .ok (.istore 8, 2) := by decide +kernel
theorem dX6_laysRows_116 : decode cX6_laysRows 116 = .ok (.iload 8, 2) := by decide +kernel
theorem dX6_laysRows_118 : decode cX6_laysRows 118 = .ok (.iload 6, 2) := by decide +kernel
theorem dX6_laysRows_120 : decode cX6_laysRows 120 = .ok (.if_icmp .gt 21, 3) := by decide +kernel
theorem dX6_laysRows_123 : decode cX6_laysRows 123 = .ok (.iload 7, 2) := by decide +kernel
theorem dX6_laysRows_125 : decode cX6_laysRows 125 = .ok (.aload_n 0, 1) := by decide +kernel
theorem dX6_laysRows_126 : decode cX6_laysRows 126 = .ok (.getfield 52, 3) := by decide +kernel
theorem dX6_laysRows_129 : decode cX6_laysRows 129 = .ok (.iload 8, 2) := by decide +kernel
theorem dX6_laysRows_131 : decode cX6_laysRows 131 = .ok (.iaload, 1) := by decide +kernel
theorem dX6_laysRows_132 : decode cX6_laysRows 132 = .ok (.iadd, 1) := by decide +kernel
theorem dX6_laysRows_133 : decode cX6_laysRows 133 = .ok (.istore 7, 2) := by decide +kernel
theorem dX6_laysRows_135 : decode cX6_laysRows 135 = .ok (.iinc 8 1, 3) := by decide +kernel
theorem dX6_laysRows_138 : decode cX6_laysRows 138 = .ok (.goto (-22), 3) := by decide +kernel
theorem dX6_laysRows_141 : decode cX6_laysRows 141 = .ok (.aload_n 0, 1) := by decide +kernel
theorem dX6_laysRows_142 : decode cX6_laysRows 142 = .ok (.getfield 52, 3) := by decide +kernel
theorem dX6_laysRows_145 : decode cX6_laysRows 145 = .ok (.iload 6, 2) := by decide +kernel
theorem dX6_laysRows_147 : decode cX6_laysRows 147 = .ok (.dup2, 1) := by decide +kernel
theorem dX6_laysRows_148 : decode cX6_laysRows 148 = .ok (.iaload, 1) := by decide +kernel
theorem dX6_laysRows_149 : decode cX6_laysRows 149 = .ok (.aload_n 0, 1) := by decide +kernel
theorem dX6_laysRows_150 : decode cX6_laysRows 150 = .ok (.aload_n 1, 1) := by decide +kernel
theorem dX6_laysRows_151 : decode cX6_laysRows 151 = .ok (.iload 4, 2) := by decide +kernel
theorem dX6_laysRows_153 : decode cX6_laysRows 153 = .ok (.invokevirtual 145, 3) := by decide +kernel
theorem dX6_laysRows_156 : decode cX6_laysRows 156 = .ok (.iload 7, 2) := by decide +kernel
theorem dX6_laysRows_158 : decode cX6_laysRows 158 = .ok (.if_icmp .le 16, 3) := by decide +kernel
theorem dX6_laysRows_161 : decode cX6_laysRows 161 = .ok (.aload_n 0, 1) := by decide +kernel
theorem dX6_laysRows_162 : decode cX6_laysRows 162 = .ok (.aload_n 1, 1) := by decide +kernel
theorem dX6_laysRows_163 : decode cX6_laysRows 163 = .ok (.iload 4, 2) := by decide +kernel
theorem dX6_laysRows_165 : decode cX6_laysRows 165 = .ok (.invokevirtual 145, 3) := by decide +kernel
theorem dX6_laysRows_168 : decode cX6_laysRows 168 = .ok (.iload 7, 2) := by decide +kernel
theorem dX6_laysRows_170 : decode cX6_laysRows 170 = .ok (.isub, 1) := by decide +kernel
theorem dX6_laysRows_171 : decode cX6_laysRows 171 = .ok (.goto 4, 3) := by decide +kernel
theorem dX6_laysRows_174 : decode cX6_laysRows 174 = .ok (.iconst 0, 1) := by decide +kernel
theorem dX6_laysRows_175 : decode cX6_laysRows 175 = .ok (.iadd, 1) := by decide +kernel
theorem dX6_laysRows_176 : decode cX6_laysRows 176 = .ok (.iastore, 1) := by decide +kernel
theorem dX6_laysRows_177 : decode cX6_laysRows 177 = .ok (.iinc 3 1, 3) := by decide +kernel
theorem dX6_laysRows_180 : decode cX6_laysRows 180 = .ok (.goto (-154), 3) := by decide +kernel
theorem dX6_laysRows_183 : decode cX6_laysRows 183 = .ok (.return_, 1) := by decide +kernel
theorem dX6_laysTable_0 : decode cX6_laysTable 0 = .ok (.aload_n 0, 1) := by decide +kernel
theorem dX6_laysTable_1 : decode cX6_laysTable 1 = .ok (.getfield 25, 3) := by decide +kernel
theorem dX6_laysTable_4 : decode cX6_laysTable 4 = .ok (.iload_n 2, 1) := by decide +kernel
theorem dX6_laysTable_5 : decode cX6_laysTable 5 = .ok (.iconst 0, 1) := by decide +kernel
theorem dX6_laysTable_6 : decode cX6_laysTable 6 = .ok (.iastore, 1) := by decide +kernel
theorem dX6_laysTable_7 : decode cX6_laysTable 7 = .ok (.iconst 0, 1) := by decide +kernel
theorem dX6_laysTable_8 : decode cX6_laysTable 8 = .ok (.istore_n 3, 1) := by decide +kernel
theorem dX6_laysTable_9 : decode cX6_laysTable 9 = .ok (.iload_n 3, 1) := by decide +kernel
theorem dX6_laysTable_10 : decode cX6_laysTable 10 = .ok (.bipush 25, 2) := by decide +kernel
theorem dX6_laysTable_12 : decode cX6_laysTable 12 = .ok (.if_icmp .ge 46, 3) := by decide +kernel
theorem dX6_laysTable_15 : decode cX6_laysTable 15 = .ok (.bipush 25, 2) := by decide +kernel
theorem dX6_laysTable_17 : decode cX6_laysTable 17 = .ok (.iload_n 2, 1) := by decide +kernel
theorem dX6_laysTable_18 : decode cX6_laysTable 18 = .ok (.imul, 1) := by decide +kernel
theorem dX6_laysTable_19 : decode cX6_laysTable 19 = .ok (.iload_n 3, 1) := by decide +kernel
theorem dX6_laysTable_20 : decode cX6_laysTable 20 = .ok (.iadd, 1) := by decide +kernel
theorem dX6_laysTable_21 : decode cX6_laysTable 21 = .ok (.istore 4, 2) := by decide +kernel
theorem dX6_laysTable_23 : decode cX6_laysTable 23 = .ok (.aload_n 0, 1) := by decide +kernel
theorem dX6_laysTable_24 : decode cX6_laysTable 24 = .ok (.getfield 25, 3) := by decide +kernel
theorem dX6_laysTable_27 : decode cX6_laysTable 27 = .ok (.iload_n 2, 1) := by decide +kernel
theorem dX6_laysTable_28 : decode cX6_laysTable 28 = .ok (.dup2, 1) := by decide +kernel
theorem dX6_laysTable_29 : decode cX6_laysTable 29 = .ok (.iaload, 1) := by decide +kernel
theorem dX6_laysTable_30 : decode cX6_laysTable 30 = .ok (.aload_n 1, 1) := by decide +kernel
theorem dX6_laysTable_31 : decode cX6_laysTable 31 = .ok (.iload 4, 2) := by decide +kernel
theorem dX6_laysTable_33 : decode cX6_laysTable 33 = .ok (.invokestatic 103, 3) := by decide +kernel
theorem dX6_laysTable_36 : decode cX6_laysTable 36 = .ok (.ifCond .eq 13, 3) := by decide +kernel
theorem dX6_laysTable_39 : decode cX6_laysTable 39 = .ok (.aload_n 0, 1) := by decide +kernel
theorem dX6_laysTable_40 : decode cX6_laysTable 40 = .ok (.aload_n 1, 1) := by decide +kernel
theorem dX6_laysTable_41 : decode cX6_laysTable 41 = .ok (.iload 4, 2) := by decide +kernel
theorem dX6_laysTable_43 : decode cX6_laysTable 43 = .ok (.invokevirtual 122, 3) := by decide +kernel
theorem dX6_laysTable_46 : decode cX6_laysTable 46 = .ok (.goto 4, 3) := by decide +kernel
theorem dX6_laysTable_49 : decode cX6_laysTable 49 = .ok (.iconst 0, 1) := by decide +kernel
theorem dX6_laysTable_50 : decode cX6_laysTable 50 = .ok (.iadd, 1) := by decide +kernel
theorem dX6_laysTable_51 : decode cX6_laysTable 51 = .ok (.iastore, 1) := by decide +kernel
theorem dX6_laysTable_52 : decode cX6_laysTable 52 = .ok (.iinc 3 1, 3) := by decide +kernel
theorem dX6_laysTable_55 : decode cX6_laysTable 55 = .ok (.goto (-46), 3) := by decide +kernel
theorem dX6_laysTable_58 : decode cX6_laysTable 58 = .ok (.iconst 0, 1) := by decide +kernel
theorem dX6_laysTable_59 : decode cX6_laysTable 59 = .ok (.istore_n 3, 1) := by decide +kernel
theorem dX6_laysTable_60 : decode cX6_laysTable 60 = .ok (.iload_n 3, 1) := by decide +kernel
theorem dX6_laysTable_61 : decode cX6_laysTable 61 = .ok (.bipush 25, 2) := by decide +kernel
theorem dX6_laysTable_63 : decode cX6_laysTable 63 = .ok (.if_icmp .ge 63, 3) := by decide +kernel
theorem dX6_laysTable_66 : decode cX6_laysTable 66 = .ok (.bipush 25, 2) := by decide +kernel
theorem dX6_laysTable_68 : decode cX6_laysTable 68 = .ok (.iload_n 2, 1) := by decide +kernel
theorem dX6_laysTable_69 : decode cX6_laysTable 69 = .ok (.imul, 1) := by decide +kernel
theorem dX6_laysTable_70 : decode cX6_laysTable 70 = .ok (.iload_n 3, 1) := by decide +kernel
theorem dX6_laysTable_71 : decode cX6_laysTable 71 = .ok (.iadd, 1) := by decide +kernel
theorem dX6_laysTable_72 : decode cX6_laysTable 72 = .ok (.istore 4, 2) := by decide +kernel
theorem dX6_laysTable_74 : decode cX6_laysTable 74 = .ok (.aload_n 0, 1) := by decide +kernel
theorem dX6_laysTable_75 : decode cX6_laysTable 75 = .ok (.getfield 40, 3) := by decide +kernel
theorem dX6_laysTable_78 : decode cX6_laysTable 78 = .ok (.iload 4, 2) := by decide +kernel
theorem dX6_laysTable_80 : decode cX6_laysTable 80 = .ok (.aload_n 1, 1) := by decide +kernel
theorem dX6_laysTable_81 : decode cX6_laysTable 81 = .ok (.iload 4, 2) := by decide +kernel
theorem dX6_laysTable_83 : decode cX6_laysTable 83 = .ok (.invokestatic 103, 3) := by decide +kernel
theorem dX6_laysTable_86 : decode cX6_laysTable 86 = .ok (.ifCond .ne 7, 3) := by decide +kernel
theorem dX6_laysTable_89 : decode cX6_laysTable 89 = .ok (.iconst 0, 1) := by decide +kernel
theorem dX6_laysTable_90 : decode cX6_laysTable 90 = .ok (.goto 29, 3) := by decide +kernel
theorem dX6_laysTable_93 : decode cX6_laysTable 93 = .ok (.aload_n 1, 1) := by decide +kernel
theorem dX6_laysTable_94 : decode cX6_laysTable 94 = .ok (.iload 4, 2) := by decide +kernel
theorem dX6_laysTable_96 : decode cX6_laysTable 96 = .ok (.invokestatic 148, 3) := by decide +kernel
theorem dX6_laysTable_99 : decode cX6_laysTable 99 = .ok (.ifCond .eq 13, 3) := by decide +kernel
theorem dX6_laysTable_102 : decode cX6_laysTable 102 = .ok (.aload_n 0, 1) := by decide +kernel
theorem dX6_laysTable_103 : decode cX6_laysTable 103 = .ok (.aload_n 1, 1) := by decide +kernel
theorem dX6_laysTable_104 : decode cX6_laysTable 104 = .ok (.iload 4, 2) := by decide +kernel
theorem dX6_laysTable_106 : decode cX6_laysTable 106 = .ok (.invokevirtual 151, 3) := by decide +kernel
theorem dX6_laysTable_109 : decode cX6_laysTable 109 = .ok (.goto 10, 3) := by decide +kernel
theorem dX6_laysTable_112 : decode cX6_laysTable 112 = .ok (.aload_n 0, 1) := by decide +kernel
theorem dX6_laysTable_113 : decode cX6_laysTable 113 = .ok (.aload_n 1, 1) := by decide +kernel
theorem dX6_laysTable_114 : decode cX6_laysTable 114 = .ok (.iload 4, 2) := by decide +kernel
theorem dX6_laysTable_116 : decode cX6_laysTable 116 = .ok (.invokevirtual 122, 3) := by decide +kernel
theorem dX6_laysTable_119 : decode cX6_laysTable 119 = .ok (.iastore, 1) := by decide +kernel
theorem dX6_laysTable_120 : decode cX6_laysTable 120 = .ok (.iinc 3 1, 3) := by decide +kernel
theorem dX6_laysTable_123 : decode cX6_laysTable 123 = .ok (.goto (-63), 3) := by decide +kernel
theorem dX6_laysTable_126 : decode cX6_laysTable 126 = .ok (.aload_n 0, 1) := by decide +kernel
theorem dX6_laysTable_127 : decode cX6_laysTable 127 = .ok (.aload_n 1, 1) := by decide +kernel
theorem dX6_laysTable_128 : decode cX6_laysTable 128 = .ok (.iload_n 2, 1) := by decide +kernel
theorem dX6_laysTable_129 : decode cX6_laysTable 129 = .ok (.invokevirtual 154, 3) := by decide +kernel
theorem dX6_laysTable_132 : decode cX6_laysTable 132 = .ok (.aload_n 0, 1) := by decide +kernel
theorem dX6_laysTable_133 : decode cX6_laysTable 133 = .ok (.getfield 34, 3) := by decide +kernel
theorem dX6_laysTable_136 : decode cX6_laysTable 136 = .ok (.iload_n 2, 1) := by decide +kernel
theorem dX6_laysTable_137 : decode cX6_laysTable 137 = .ok (.aload_n 0, 1) := by decide +kernel
theorem dX6_laysTable_138 : decode cX6_laysTable 138 = .ok (.aload_n 1, 1) := by decide +kernel
theorem dX6_laysTable_139 : decode cX6_laysTable 139 = .ok (.iload_n 2, 1) := by decide +kernel
theorem dX6_laysTable_140 : decode cX6_laysTable 140 = .ok (.iconst 1, 1) := by decide +kernel
theorem dX6_laysTable_141 : decode cX6_laysTable 141 = .ok (.invokevirtual 157, 3) := by decide +kernel
theorem dX6_laysTable_144 : decode cX6_laysTable 144 = .ok (.iastore, 1) := by decide +kernel
theorem dX6_laysTable_145 : decode cX6_laysTable 145 = .ok (.aload_n 0, 1) := by decide +kernel
theorem dX6_laysTable_146 : decode cX6_laysTable 146 = .ok (.getfield 37, 3) := by decide +kernel
theorem dX6_laysTable_149 : decode cX6_laysTable 149 = .ok (.iload_n 2, 1) := by decide +kernel
theorem dX6_laysTable_150 : decode cX6_laysTable 150 = .ok (.aload_n 0, 1) := by decide +kernel
theorem dX6_laysTable_151 : decode cX6_laysTable 151 = .ok (.aload_n 1, 1) := by decide +kernel
theorem dX6_laysTable_152 : decode cX6_laysTable 152 = .ok (.iload_n 2, 1) := by decide +kernel
theorem dX6_laysTable_153 : decode cX6_laysTable 153 = .ok (.iconst 0, 1) := by decide +kernel
theorem dX6_laysTable_154 : decode cX6_laysTable 154 = .ok (.invokevirtual 157, 3) := by decide +kernel
theorem dX6_laysTable_157 : decode cX6_laysTable 157 = .ok (.iastore, 1) := by decide +kernel
theorem dX6_laysTable_158 : decode cX6_laysTable 158 = .ok (.aload_n 0, 1) := by decide +kernel
theorem dX6_laysTable_159 : decode cX6_laysTable 159 = .ok (.aload_n 1, 1) := by decide +kernel
theorem dX6_laysTable_160 : decode cX6_laysTable 160 = .ok (.iload_n 2, 1) := by decide +kernel
theorem dX6_laysTable_161 : decode cX6_laysTable 161 = .ok (.invokevirtual 161, 3) := by decide +kernel
theorem dX6_laysTable_164 : decode cX6_laysTable 164 = .ok (.aload_n 0, 1) := by decide +kernel
theorem dX6_laysTable_165 : decode cX6_laysTable 165 = .ok (.aload_n 1, 1) := by decide +kernel
theorem dX6_laysTable_166 : decode cX6_laysTable 166 = .ok (.iload_n 2, 1) := by decide +kernel
theorem dX6_laysTable_167 : decode cX6_laysTable 167 = .ok (.invokevirtual 164, 3) := by decide +kernel
theorem dX6_laysTable_170 : decode cX6_laysTable 170 = .ok (.aload_n 0, 1) := by decide +kernel
theorem dX6_laysTable_171 : decode cX6_laysTable 171 = .ok (.getfield 28, 3) := by decide +kernel
theorem dX6_laysTable_174 : decode cX6_laysTable 174 = .ok (.iload_n 2, 1) := by decide +kernel
theorem dX6_laysTable_175 : decode cX6_laysTable 175 = .ok (.aload_n 0, 1) := by decide +kernel
theorem dX6_laysTable_176 : decode cX6_laysTable 176 = .ok (.getfield 34, 3) := by decide +kernel
theorem dX6_laysTable_179 : decode cX6_laysTable 179 = .ok (.iload_n 2, 1) := by decide +kernel
theorem dX6_laysTable_180 : decode cX6_laysTable 180 = .ok (.iaload, 1) := by decide +kernel
theorem dX6_laysTable_181 : decode cX6_laysTable 181 = .ok (.iastore, 1) := by decide +kernel
theorem dX6_laysTable_182 : decode cX6_laysTable 182 = .ok (.aload_n 0, 1) := by decide +kernel
theorem dX6_laysTable_183 : decode cX6_laysTable 183 = .ok (.getfield 31, 3) := by decide +kernel
theorem dX6_laysTable_186 : decode cX6_laysTable 186 = .ok (.iload_n 2, 1) := by decide +kernel
theorem dX6_laysTable_187 : decode cX6_laysTable 187 = .ok (.aload_n 0, 1) := by decide +kernel
theorem dX6_laysTable_188 : decode cX6_laysTable 188 = .ok (.getfield 37, 3) := by decide +kernel
theorem dX6_laysTable_191 : decode cX6_laysTable 191 = .ok (.iload_n 2, 1) := by decide +kernel
theorem dX6_laysTable_192 : decode cX6_laysTable 192 = .ok (.iaload, 1) := by decide +kernel
theorem dX6_laysTable_193 : decode cX6_laysTable 193 = .ok (.iastore, 1) := by decide +kernel
theorem dX6_laysTable_194 : decode cX6_laysTable 194 = .ok (.iconst 0, 1) := by decide +kernel
theorem dX6_laysTable_195 : decode cX6_laysTable 195 = .ok (.istore_n 3, 1) := by decide +kernel
theorem dX6_laysTable_196 : decode cX6_laysTable 196 = .ok (.iload_n 3, 1) := by decide +kernel
theorem dX6_laysTable_197 : decode cX6_laysTable 197 = .ok (.iconst 5, 1) := by decide +kernel
theorem dX6_laysTable_198 : decode cX6_laysTable 198 = .ok (.if_icmp .ge 47, 3) := by decide +kernel
theorem dX6_laysTable_201 : decode cX6_laysTable 201 = .ok (.aload_n 0, 1) := by decide +kernel
theorem dX6_laysTable_202 : decode cX6_laysTable 202 = .ok (.getfield 28, 3) := by decide +kernel
theorem dX6_laysTable_205 : decode cX6_laysTable 205 = .ok (.iload_n 2, 1) := by decide +kernel
theorem dX6_laysTable_206 : decode cX6_laysTable 206 = .ok (.dup2, 1) := by decide +kernel
theorem dX6_laysTable_207 : decode cX6_laysTable 207 = .ok (.iaload, 1) := by decide +kernel
theorem dX6_laysTable_208 : decode cX6_laysTable 208 = .ok (.aload_n 0, 1) := by decide +kernel
theorem dX6_laysTable_209 : decode cX6_laysTable 209 = .ok (.getfield 49, 3) := by decide +kernel
theorem dX6_laysTable_212 : decode cX6_laysTable 212 = .ok (.iconst 5, 1) := by decide +kernel
theorem dX6_laysTable_213 : decode cX6_laysTable 213 = .ok (.iload_n 2, 1) := by decide +kernel
theorem dX6_laysTable_214 : decode cX6_laysTable 214 = .ok (.imul, 1) := by decide +kernel
theorem dX6_laysTable_215 : decode cX6_laysTable 215 = .ok (.iload_n 3, 1) := by decide +kernel
theorem dX6_laysTable_216 : decode cX6_laysTable 216 = .ok (.iadd, 1) := by decide +kernel
theorem dX6_laysTable_217 : decode cX6_laysTable 217 = .ok (.iaload, 1) := by decide +kernel
theorem dX6_laysTable_218 : decode cX6_laysTable 218 = .ok (.iadd, 1) := by decide +kernel
theorem dX6_laysTable_219 : decode cX6_laysTable 219 = .ok (.iastore, 1) := by decide +kernel
theorem dX6_laysTable_220 : decode cX6_laysTable 220 = .ok (.aload_n 0, 1) := by decide +kernel
theorem dX6_laysTable_221 : decode cX6_laysTable 221 = .ok (.getfield 31, 3) := by decide +kernel
theorem dX6_laysTable_224 : decode cX6_laysTable 224 = .ok (.iload_n 2, 1) := by decide +kernel
theorem dX6_laysTable_225 : decode cX6_laysTable 225 = .ok (.dup2, 1) := by decide +kernel
theorem dX6_laysTable_226 : decode cX6_laysTable 226 = .ok (.iaload, 1) := by decide +kernel
theorem dX6_laysTable_227 : decode cX6_laysTable 227 = .ok (.aload_n 0, 1) := by decide +kernel
theorem dX6_laysTable_228 : decode cX6_laysTable 228 = .ok (.getfield 52, 3) := by decide +kernel
theorem dX6_laysTable_231 : decode cX6_laysTable 231 = .ok (.iconst 5, 1) := by decide +kernel
theorem dX6_laysTable_232 : decode cX6_laysTable 232 = .ok (.iload_n 2, 1) := by decide +kernel
theorem dX6_laysTable_233 : decode cX6_laysTable 233 = .ok (.imul, 1) := by decide +kernel
theorem dX6_laysTable_234 : decode cX6_laysTable 234 = .ok (.iload_n 3, 1) := by decide +kernel
theorem dX6_laysTable_235 : decode cX6_laysTable 235 = .ok (.iadd, 1) := by decide +kernel
theorem dX6_laysTable_236 : decode cX6_laysTable 236 = .ok (.iaload, 1) := by decide +kernel
theorem dX6_laysTable_237 : decode cX6_laysTable 237 = .ok (.iadd, 1) := by decide +kernel
theorem dX6_laysTable_238 : decode cX6_laysTable 238 = .ok (.iastore, 1) := by decide +kernel
theorem dX6_laysTable_239 : decode cX6_laysTable 239 = .ok (.iinc 3 1, 3) := by decide +kernel
theorem dX6_laysTable_242 : decode cX6_laysTable 242 = .ok (.goto (-46), 3) := by decide +kernel
theorem dX6_laysTable_245 : decode cX6_laysTable 245 = .ok (.return_, 1) := by decide +kernel
theorem dX6_lays_0 : decode cX6_lays 0 = .ok (.aload_n 1, 1) := by decide +kernel
theorem dX6_lays_1 : decode cX6_lays 1 = .ok (.iconst 0, 1) := by decide +kernel
theorem dX6_lays_2 : decode cX6_lays 2 = .ok (.iaload, 1) := by decide +kernel
theorem dX6_lays_3 : decode cX6_lays 3 = .ok (.iconst 1, 1) := by decide +kernel
theorem dX6_lays_4 : decode cX6_lays 4 = .ok (.isub, 1) := by decide +kernel
theorem dX6_lays_5 : decode cX6_lays 5 = .ok (.istore_n 2, 1) := by decide +kernel
theorem dX6_lays_6 : decode cX6_lays 6 = .ok (.iload_n 2, 1) := by decide +kernel
theorem dX6_lays_7 : decode cX6_lays 7 = .ok (.ifCond .lt 15, 3) := by decide +kernel
theorem dX6_lays_10 : decode cX6_lays 10 = .ok (.aload_n 0, 1) := by decide +kernel
theorem dX6_lays_11 : decode cX6_lays 11 = .ok (.aload_n 1, 1) := by decide +kernel
theorem dX6_lays_12 : decode cX6_lays 12 = .ok (.iload_n 2, 1) := by decide +kernel
theorem dX6_lays_13 : decode cX6_lays 13 = .ok (.invokevirtual 167, 3) := by decide +kernel
theorem dX6_lays_16 : decode cX6_lays 16 = .ok (.iinc 2 (-1), 3) := by decide +kernel
theorem dX6_lays_19 : decode cX6_lays 19 = .ok (.goto (-13), 3) := by decide +kernel
theorem dX6_lays_22 : decode cX6_lays 22 = .ok (.return_, 1) := by decide +kernel
theorem dX6_laysNow_0 : decode cX6_laysNow 0 = .ok (.aload_n 0, 1) := by decide +kernel
theorem dX6_laysNow_1 : decode cX6_laysNow 1 = .ok (.getfield 77, 3) := by decide +kernel
theorem dX6_laysNow_4 : decode cX6_laysNow 4 = .ok (.ifCond .ne 16, 3) := by decide +kernel
theorem dX6_laysNow_7 : decode cX6_laysNow 7 = .ok (.aload_n 0, 1) := by decide +kernel
theorem dX6_laysNow_8 : decode cX6_laysNow 8 = .ok (.aload_n 0, 1) := by decide +kernel
theorem dX6_laysNow_9 : decode cX6_laysNow 9 = .ok (.getfield 7, 3) := by decide +kernel
theorem dX6_laysNow_12 : decode cX6_laysNow 12 = .ok (.invokevirtual 170, 3) := by decide +kernel
theorem dX6_laysNow_15 : decode cX6_laysNow 15 = .ok (.aload_n 0, 1) := by decide +kernel
theorem dX6_laysNow_16 : decode cX6_laysNow 16 = .ok (.iconst 1, 1) := by decide +kernel
theorem dX6_laysNow_17 : decode cX6_laysNow 17 = .ok (.putfield 77, 3) := by decide +kernel
theorem dX6_laysNow_20 : decode cX6_laysNow 20 = .ok (.return_, 1) := by decide +kernel
theorem dX6_isParted_0 : decode cX6_isParted 0 = .ok (.iconst 1, 1) := by decide +kernel
theorem dX6_isParted_1 : decode cX6_isParted 1 = .ok (.istore_n 2, 1) := by decide +kernel
theorem dX6_isParted_2 : decode cX6_isParted 2 = .ok (.iconst 0, 1) := by decide +kernel
theorem dX6_isParted_3 : decode cX6_isParted 3 = .ok (.istore_n 3, 1) := by decide +kernel
theorem dX6_isParted_4 : decode cX6_isParted 4 = .ok (.iload_n 3, 1) := by decide +kernel
theorem dX6_isParted_5 : decode cX6_isParted 5 = .ok (.aload_n 0, 1) := by decide +kernel
theorem dX6_isParted_6 : decode cX6_isParted 6 = .ok (.bipush 7, 2) := by decide +kernel
theorem dX6_isParted_8 : decode cX6_isParted 8 = .ok (.iaload, 1) := by decide +kernel
theorem dX6_isParted_9 : decode cX6_isParted 9 = .ok (.if_icmp .ge 46, 3) := by decide +kernel
theorem dX6_isParted_12 : decode cX6_isParted 12 = .ok (.iload_n 2, 1) := by decide +kernel
theorem dX6_isParted_13 : decode cX6_isParted 13 = .ok (.ifCond .eq 34, 3) := by decide +kernel
theorem dX6_isParted_16 : decode cX6_isParted 16 = .ok (.aload_n 0, 1) := by decide +kernel
theorem dX6_isParted_17 : decode cX6_isParted 17 = .ok (.sipush 512, 3) := by decide +kernel
theorem dX6_isParted_20 : decode cX6_isParted 20 = .ok (.iconst 5, 1) := by decide +kernel
theorem dX6_isParted_21 : decode cX6_isParted 21 = .ok (.iload_n 1, 1) := by decide +kernel
theorem dX6_isParted_22 : decode cX6_isParted 22 = .ok (.imul, 1) := by decide +kernel
theorem dX6_isParted_23 : decode cX6_isParted 23 = .ok (.iadd, 1) := by decide +kernel
theorem dX6_isParted_24 : decode cX6_isParted 24 = .ok (.iload_n 3, 1) := by decide +kernel
theorem dX6_isParted_25 : decode cX6_isParted 25 = .ok (.iadd, 1) := by decide +kernel
theorem dX6_isParted_26 : decode cX6_isParted 26 = .ok (.iaload, 1) := by decide +kernel
theorem dX6_isParted_27 : decode cX6_isParted 27 = .ok (.aload_n 0, 1) := by decide +kernel
theorem dX6_isParted_28 : decode cX6_isParted 28 = .ok (.sipush 512, 3) := by decide +kernel
theorem dX6_isParted_31 : decode cX6_isParted 31 = .ok (.iconst 5, 1) := by decide +kernel
theorem dX6_isParted_32 : decode cX6_isParted 32 = .ok (.iload_n 1, 1) := by decide +kernel
theorem dX6_isParted_33 : decode cX6_isParted 33 = .ok (.iconst 1, 1) := by decide +kernel
theorem dX6_isParted_34 : decode cX6_isParted 34 = .ok (.iadd, 1) := by decide +kernel
theorem dX6_isParted_35 : decode cX6_isParted 35 = .ok (.imul, 1) := by decide +kernel
theorem dX6_isParted_36 : decode cX6_isParted 36 = .ok (.iadd, 1) := by decide +kernel
theorem dX6_isParted_37 : decode cX6_isParted 37 = .ok (.iload_n 3, 1) := by decide +kernel
theorem dX6_isParted_38 : decode cX6_isParted 38 = .ok (.iadd, 1) := by decide +kernel
theorem dX6_isParted_39 : decode cX6_isParted 39 = .ok (.iaload, 1) := by decide +kernel
theorem dX6_isParted_40 : decode cX6_isParted 40 = .ok (.if_icmp .eq 7, 3) := by decide +kernel
theorem dX6_isParted_43 : decode cX6_isParted 43 = .ok (.iconst 1, 1) := by decide +kernel
theorem dX6_isParted_44 : decode cX6_isParted 44 = .ok (.goto 4, 3) := by decide +kernel
theorem dX6_isParted_47 : decode cX6_isParted 47 = .ok (.iconst 0, 1) := by decide +kernel
theorem dX6_isParted_48 : decode cX6_isParted 48 = .ok (.istore_n 2, 1) := by decide +kernel
theorem dX6_isParted_49 : decode cX6_isParted 49 = .ok (.iinc 3 1, 3) := by decide +kernel
theorem dX6_isParted_52 : decode cX6_isParted 52 = .ok (.goto (-48), 3) := by decide +kernel
theorem dX6_isParted_55 : decode cX6_isParted 55 = .ok (.iload_n 2, 1) := by decide +kernel
theorem dX6_isParted_56 : decode cX6_isParted 56 = .ok (.ireturn, 1) := by decide +kernel
theorem dX6_laysPages_0 : decode cX6_laysPages 0 = .ok (.iconst 0, 1) := by decide +kernel
theorem dX6_laysPages_1 : decode cX6_laysPages 1 = .ok (.istore_n 3, 1) := by decide +kernel
theorem dX6_laysPages_2 : decode cX6_laysPages 2 = .ok (.iconst 0, 1) := by decide +kernel
theorem dX6_laysPages_3 : decode cX6_laysPages 3 = .ok (.istore 4, 2) := by decide +kernel
theorem dX6_laysPages_5 : decode cX6_laysPages 5 = .ok (.iconst 0, 1) := by decide +kernel
theorem dX6_laysPages_6 : decode cX6_laysPages 6 = .ok (.istore 5, 2) := by decide +kernel
theorem dX6_laysPages_8 : decode cX6_laysPages 8 = .ok (.iload 5, 2) := by decide +kernel
theorem dX6_laysPages_10 : decode cX6_laysPages 10 = .ok (.aload_n 1, 1) := by decide +kernel
theorem dX6_laysPages_11 : decode cX6_laysPages 11 = .ok (.iconst 2, 1) := by decide +kernel
theorem dX6_laysPages_12 : decode cX6_laysPages 12 = .ok (.iaload, 1) := by decide +kernel
theorem dX6_laysPages_13 : decode cX6_laysPages 13 = .ok (.if_icmp .ge 149, 3) := by decide +kernel
theorem dX6_laysPages_16 : decode cX6_laysPages 16 = .ok (.iload 5, 2) := by decide +kernel
theorem dX6_laysPages_18 : decode cX6_laysPages 18 = .ok (.istore 6, 2) := by decide +kernel
theorem dX6_laysPages_20 : decode cX6_laysPages 20 = .ok (.iload 6, 2) := by decide +kernel
theorem dX6_laysPages_22 : decode cX6_laysPages 22 = .ok (.iconst 1, 1) := by decide +kernel
theorem dX6_laysPages_23 : decode cX6_laysPages 23 = .ok (.iadd, 1) := by decide +kernel
theorem dX6_laysPages_24 : decode cX6_laysPages 24 = .ok (.aload_n 1, 1) := by decide +kernel
theorem dX6_laysPages_25 : decode cX6_laysPages 25 = .ok (.iconst 2, 1) := by decide +kernel
theorem dX6_laysPages_26 : decode cX6_laysPages 26 = .ok (.iaload, 1) := by decide +kernel
theorem dX6_laysPages_27 : decode cX6_laysPages 27 = .ok (.if_icmp .ge 18, 3) := by decide +kernel
theorem dX6_laysPages_30 : decode cX6_laysPages 30 = .ok (.aload_n 1, 1) := by decide +kernel
theorem dX6_laysPages_31 : decode cX6_laysPages 31 = .ok (.iload 6, 2) := by decide +kernel
theorem dX6_laysPages_33 : decode cX6_laysPages 33 = .ok (.invokestatic 174, 3) := by decide +kernel
theorem dX6_laysPages_36 : decode cX6_laysPages 36 = .ok (.ifCond .ne 9, 3) := by decide +kernel
theorem dX6_laysPages_39 : decode cX6_laysPages 39 = .ok (.iinc 6 1, 3) := by decide +kernel
theorem dX6_laysPages_42 : decode cX6_laysPages 42 = .ok (.goto (-22), 3) := by decide +kernel
theorem dX6_laysPages_45 : decode cX6_laysPages 45 = .ok (.iconst 0, 1) := by decide +kernel
theorem dX6_laysPages_46 : decode cX6_laysPages 46 = .ok (.istore 7, 2) := by decide +kernel
theorem dX6_laysPages_48 : decode cX6_laysPages 48 = .ok (.iload 5, 2) := by decide +kernel
theorem dX6_laysPages_50 : decode cX6_laysPages 50 = .ok (.istore 8, 2) := by decide +kernel
theorem dX6_laysPages_52 : decode cX6_laysPages 52 = .ok (.iload 8, 2) := by decide +kernel
theorem dX6_laysPages_54 : decode cX6_laysPages 54 = .ok (.iload 6, 2) := by decide +kernel
theorem dX6_laysPages_56 : decode cX6_laysPages 56 = .ok (.if_icmp .gt 21, 3) := by decide +kernel
theorem dX6_laysPages_59 : decode cX6_laysPages 59 = .ok (.iload 7, 2) := by decide +kernel
theorem dX6_laysPages_61 : decode cX6_laysPages 61 = .ok (.aload_n 0, 1) := by decide +kernel
theorem dX6_laysPages_62 : decode cX6_laysPages 62 = .ok (.getfield 52, 3) := by decide +kernel
theorem dX6_laysPages_65 : decode cX6_laysPages 65 = .ok (.iload 8, 2) := by decide +kernel
theorem dX6_laysPages_67 : decode cX6_laysPages 67 = .ok (.iaload, 1) := by decide +kernel
theorem dX6_laysPages_68 : decode cX6_laysPages 68 = .ok (.iadd, 1) := by decide +kernel
theorem dX6_laysPages_69 : decode cX6_laysPages 69 = .ok (.istore 7, 2) := by decide +kernel
theorem dX6_laysPages_71 : decode cX6_laysPages 71 = .ok (.iinc 8 1, 3) := by decide +kernel
theorem dX6_laysPages_74 : decode cX6_laysPages 74 = .ok (.goto (-22), 3) := by decide +kernel
theorem dX6_laysPages_77 : decode cX6_laysPages 77 = .ok (.iload 5, 2) := by decide +kernel
theorem dX6_laysPages_79 : decode cX6_laysPages 79 = .ok (.ifCond .eq 12, 3) := by decide +kernel
theorem dX6_laysPages_82 : decode cX6_laysPages 82 = .ok (.iload 4, 2) := by decide +kernel
theorem dX6_laysPages_84 : decode cX6_laysPages 84 = .ok (.iload 7, 2) := by decide +kernel
theorem dX6_laysPages_86 : decode cX6_laysPages 86 = .ok (.iadd, 1) := by decide +kernel
theorem dX6_laysPages_87 : decode cX6_laysPages 87 = .ok (.iload_n 2, 1) := by decide +kernel
theorem dX6_laysPages_88 : decode cX6_laysPages 88 = .ok (.if_icmp .gt 7, 3) := by decide +kernel
theorem dX6_laysPages_91 : decode cX6_laysPages 91 = .ok (.iconst 1, 1) := by decide +kernel
theorem dX6_laysPages_92 : decode cX6_laysPages 92 = .ok (.goto 4, 3) := by decide +kernel
theorem dX6_laysPages_95 : decode cX6_laysPages 95 = .ok (.iconst 0, 1) := by decide +kernel
theorem dX6_laysPages_96 : decode cX6_laysPages 96 = .ok (.istore 8, 2) := by decide +kernel
theorem dX6_laysPages_98 : decode cX6_laysPages 98 = .ok (.iload_n 3, 1) := by decide +kernel
theorem dX6_laysPages_99 : decode cX6_laysPages 99 = .ok (.iload 8, 2) := by decide +kernel
theorem dX6_laysPages_101 : decode cX6_laysPages 101 = .ok (.ifCond .eq 7, 3) := by decide +kernel
theorem dX6_laysPages_104 : decode cX6_laysPages 104 = .ok (.iconst 0, 1) := by decide +kernel
theorem dX6_laysPages_105 : decode cX6_laysPages 105 = .ok (.goto 4, 3) := by decide +kernel
theorem dX6_laysPages_108 : decode cX6_laysPages 108 = .ok (.iconst 1, 1) := by decide +kernel
theorem dX6_laysPages_109 : decode cX6_laysPages 109 = .ok (.iadd, 1) := by decide +kernel
theorem dX6_laysPages_110 : decode cX6_laysPages 110 = .ok (.istore_n 3, 1) := by decide +kernel
theorem dX6_laysPages_111 : decode cX6_laysPages 111 = .ok (.iload 8, 2) := by decide +kernel
theorem dX6_laysPages_113 : decode cX6_laysPages 113 = .ok (.ifCond .eq 11, 3) := by decide +kernel
theorem dX6_laysPages_116 : decode cX6_laysPages 116 = .ok (.iload 4, 2) := by decide +kernel
theorem dX6_laysPages_118 : decode cX6_laysPages 118 = .ok (.iload 7, 2) := by decide +kernel
theorem dX6_laysPages_120 : decode cX6_laysPages 120 = .ok (.iadd, 1) := by decide +kernel
theorem dX6_laysPages_121 : decode cX6_laysPages 121 = .ok (.goto 5, 3) := by decide +kernel
theorem dX6_laysPages_124 : decode cX6_laysPages 124 = .ok (.iload 7, 2) := by decide +kernel
theorem dX6_laysPages_126 : decode cX6_laysPages 126 = .ok (.istore 4, 2) := by decide +kernel
theorem dX6_laysPages_128 : decode cX6_laysPages 128 = .ok (.iload 5, 2) := by decide +kernel
theorem dX6_laysPages_130 : decode cX6_laysPages 130 = .ok (.istore 9, 2) := by decide +kernel
theorem dX6_laysPages_132 : decode cX6_laysPages 132 = .ok (.iload 9, 2) := by decide +kernel
theorem dX6_laysPages_134 : decode cX6_laysPages 134 = .ok (.iload 6, 2) := by decide +kernel
theorem dX6_laysPages_136 : decode cX6_laysPages 136 = .ok (.if_icmp .gt 17, 3) := by decide +kernel
theorem dX6_laysPages_139 : decode cX6_laysPages 139 = .ok (.aload_n 0, 1) := by decide +kernel
theorem dX6_laysPages_140 : decode cX6_laysPages 140 = .ok (.getfield 55, 3) := by decide +kernel
theorem dX6_laysPages_143 : decode cX6_laysPages 143 = .ok (.iload 9, 2) := by decide +kernel
theorem dX6_laysPages_145 : decode cX6_laysPages 145 = .ok (.iload_n 3, 1) := by decide +kernel
theorem dX6_laysPages_146 : decode cX6_laysPages 146 = .ok (.iastore, 1) := by decide +kernel
theorem dX6_laysPages_147 : decode cX6_laysPages 147 = .ok (.iinc 9 1, 3) := by decide +kernel
theorem dX6_laysPages_150 : decode cX6_laysPages 150 = .ok (.goto (-18), 3) := by decide +kernel
theorem dX6_laysPages_153 : decode cX6_laysPages 153 = .ok (.iload 6, 2) := by decide +kernel
theorem dX6_laysPages_155 : decode cX6_laysPages 155 = .ok (.iconst 1, 1) := by decide +kernel
theorem dX6_laysPages_156 : decode cX6_laysPages 156 = .ok (.iadd, 1) := by decide +kernel
theorem dX6_laysPages_157 : decode cX6_laysPages 157 = .ok (.istore 5, 2) := by decide +kernel
theorem dX6_laysPages_159 : decode cX6_laysPages 159 = .ok (.goto (-151), 3) := by decide +kernel
theorem dX6_laysPages_162 : decode cX6_laysPages 162 = .ok (.iload_n 3, 1) := by decide +kernel
theorem dX6_laysPages_163 : decode cX6_laysPages 163 = .ok (.iconst 1, 1) := by decide +kernel
theorem dX6_laysPages_164 : decode cX6_laysPages 164 = .ok (.iadd, 1) := by decide +kernel
theorem dX6_laysPages_165 : decode cX6_laysPages 165 = .ok (.ireturn, 1) := by decide +kernel
theorem dX6_begin_0 : decode cX6_begin 0 = .ok (.aload_n 0, 1) := by decide +kernel
theorem dX6_begin_1 : decode cX6_begin 1 = .ok (.iconst 0, 1) := by decide +kernel
theorem dX6_begin_2 : decode cX6_begin 2 = .ok (.putfield 62, 3) := by decide +kernel
theorem dX6_begin_5 : decode cX6_begin 5 = .ok (.iload_n 1, 1) := by decide +kernel
theorem dX6_begin_6 : decode cX6_begin 6 = .ok (.iconst 1, 1) := by decide +kernel
theorem dX6_begin_7 : decode cX6_begin 7 = .ok (.iconst 5, 1) := by decide +kernel
theorem dX6_begin_8 : decode cX6_begin 8 = .ok (.invokestatic 66, 3) := by decide +kernel
theorem dX6_begin_11 : decode cX6_begin 11 = .ok (.ifCond .eq 12, 3) := by decide +kernel
theorem dX6_begin_14 : decode cX6_begin 14 = .ok (.iload_n 2, 1) := by decide +kernel
theorem dX6_begin_15 : decode cX6_begin 15 = .ok (.iconst 1, 1) := by decide +kernel
theorem dX6_begin_16 : decode cX6_begin 16 = .ok (.iconst 5, 1) := by decide +kernel
theorem dX6_begin_17 : decode cX6_begin 17 = .ok (.invokestatic 66, 3) := by decide +kernel
theorem dX6_begin_20 : decode cX6_begin 20 = .ok (.ifCond .ne 9, 3) := by decide +kernel
theorem dX6_begin_23 : decode cX6_begin 23 = .ok (.aload_n 0, 1) := by decide +kernel
theorem dX6_begin_24 : decode cX6_begin 24 = .ok (.iconst 1, 1) := by decide +kernel
theorem dX6_begin_25 : decode cX6_begin 25 = .ok (.invokevirtual 88, 3) := by decide +kernel
theorem dX6_begin_28 : decode cX6_begin 28 = .ok (.ireturn, 1) := by decide +kernel
theorem dX6_begin_29 : decode cX6_begin 29 = .ok (.aload_n 0, 1) := by decide +kernel
theorem dX6_begin_30 : decode cX6_begin 30 = .ok (.invokevirtual 177, 3) := by decide +kernel
theorem dX6_begin_33 : decode cX6_begin 33 = .ok (.aload_n 0, 1) := by decide +kernel
theorem dX6_begin_34 : decode cX6_begin 34 = .ok (.iload_n 1, 1) := by decide +kernel
theorem dX6_begin_35 : decode cX6_begin 35 = .ok (.iload_n 2, 1) := by decide +kernel
theorem dX6_begin_36 : decode cX6_begin 36 = .ok (.invokevirtual 58, 3) := by decide +kernel
theorem dX6_begin_39 : decode cX6_begin 39 = .ok (.iload_n 1, 1) := by decide +kernel
theorem dX6_begin_40 : decode cX6_begin 40 = .ok (.iload_n 2, 1) := by decide +kernel
theorem dX6_begin_41 : decode cX6_begin 41 = .ok (.imul, 1) := by decide +kernel
theorem dX6_begin_42 : decode cX6_begin 42 = .ok (.ireturn, 1) := by decide +kernel
theorem dX6_nest_0 : decode cX6_nest 0 = .ok (.aload_n 0, 1) := by decide +kernel
theorem dX6_nest_1 : decode cX6_nest 1 = .ok (.iconst 0, 1) := by decide +kernel
theorem dX6_nest_2 : decode cX6_nest 2 = .ok (.putfield 62, 3) := by decide +kernel
theorem dX6_nest_5 : decode cX6_nest 5 = .ok (.aload_n 0, 1) := by decide +kernel
theorem dX6_nest_6 : decode cX6_nest 6 = .ok (.iload_n 1, 1) := by decide +kernel
theorem dX6_nest_7 : decode cX6_nest 7 = .ok (.iload_n 2, 1) := by decide +kernel
theorem dX6_nest_8 : decode cX6_nest 8 = .ok (.iload_n 3, 1) := by decide +kernel
theorem dX6_nest_9 : decode cX6_nest 9 = .ok (.invokevirtual 180, 3) := by decide +kernel
theorem dX6_nest_12 : decode cX6_nest 12 = .ok (.ifCond .ne 9, 3) := by decide +kernel
theorem dX6_nest_15 : decode cX6_nest 15 = .ok (.aload_n 0, 1) := by decide +kernel
theorem dX6_nest_16 : decode cX6_nest 16 = .ok (.iconst 1, 1) := by decide +kernel
theorem dX6_nest_17 : decode cX6_nest 17 = .ok (.invokevirtual 88, 3) := by decide +kernel
theorem dX6_nest_20 : decode cX6_nest 20 = .ok (.ireturn, 1) := by decide +kernel
theorem dX6_nest_21 : decode cX6_nest 21 = .ok (.iload 4, 2) := by decide +kernel
theorem dX6_nest_23 : decode cX6_nest 23 = .ok (.iconst 1, 1) := by decide +kernel
theorem dX6_nest_24 : decode cX6_nest 24 = .ok (.iconst 5, 1) := by decide +kernel
theorem dX6_nest_25 : decode cX6_nest 25 = .ok (.invokestatic 66, 3) := by decide +kernel
theorem dX6_nest_28 : decode cX6_nest 28 = .ok (.ifCond .eq 13, 3) := by decide +kernel
theorem dX6_nest_31 : decode cX6_nest 31 = .ok (.iload 5, 2) := by decide +kernel
theorem dX6_nest_33 : decode cX6_nest 33 = .ok (.iconst 1, 1) := by decide +kernel
theorem dX6_nest_34 : decode cX6_nest 34 = .ok (.iconst 5, 1) := by decide +kernel
theorem dX6_nest_35 : decode cX6_nest 35 = .ok (.invokestatic 66, 3) := by decide +kernel
theorem dX6_nest_38 : decode cX6_nest 38 = .ok (.ifCond .ne 9, 3) := by decide +kernel
theorem dX6_nest_41 : decode cX6_nest 41 = .ok (.aload_n 0, 1) := by decide +kernel
theorem dX6_nest_42 : decode cX6_nest 42 = .ok (.iconst 2, 1) := by decide +kernel
theorem dX6_nest_43 : decode cX6_nest 43 = .ok (.invokevirtual 88, 3) := by decide +kernel
theorem dX6_nest_46 : decode cX6_nest 46 = .ok (.ireturn, 1) := by decide +kernel
theorem dX6_nest_47 : decode cX6_nest 47 = .ok (.iload_n 1, 1) := by decide +kernel
theorem dX6_nest_48 : decode cX6_nest 48 = .ok (.iload_n 2, 1) := by decide +kernel
theorem dX6_nest_49 : decode cX6_nest 49 = .ok (.iload_n 3, 1) := by decide +kernel
theorem dX6_nest_50 : decode cX6_nest 50 = .ok (.invokestatic 125, 3) := by decide +kernel
theorem dX6_nest_53 : decode cX6_nest 53 = .ok (.istore 6, 2) := by decide +kernel
theorem dX6_nest_55 : decode cX6_nest 55 = .ok (.aload_n 0, 1) := by decide +kernel
theorem dX6_nest_56 : decode cX6_nest 56 = .ok (.getfield 7, 3) := by decide +kernel
theorem dX6_nest_59 : decode cX6_nest 59 = .ok (.iload 6, 2) := by decide +kernel
theorem dX6_nest_61 : decode cX6_nest 61 = .ok (.invokestatic 103, 3) := by decide +kernel
theorem dX6_nest_64 : decode cX6_nest 64 = .ok (.ifCond .eq 26, 3) := by decide +kernel
theorem dX6_nest_67 : decode cX6_nest 67 = .ok (.aload_n 0, 1) := by decide +kernel
theorem dX6_nest_68 : decode cX6_nest 68 = .ok (.getfield 7, 3) := by decide +kernel
theorem dX6_nest_71 : decode cX6_nest 71 = .ok (.bipush 12, 2) := by decide +kernel
theorem dX6_nest_73 : decode cX6_nest 73 = .ok (.iload 6, 2) := by decide +kernel
theorem dX6_nest_75 : decode cX6_nest 75 = .ok (.iadd, 1) := by decide +kernel
theorem dX6_nest_76 : decode cX6_nest 76 = .ok (.iaload, 1) := by decide +kernel
theorem dX6_nest_77 : decode cX6_nest 77 = .ok (.ifCond .ne 13, 3) := by decide +kernel
theorem dX6_nest_80 : decode cX6_nest 80 = .ok (.aload_n 0, 1) := by decide +kernel
theorem dX6_nest_81 : decode cX6_nest 81 = .ok (.getfield 7, 3) := by decide +kernel
theorem dX6_nest_84 : decode cX6_nest 84 = .ok (.iconst 0, 1) := by decide +kernel
theorem dX6_nest_85 : decode cX6_nest 85 = .ok (.iaload, 1) := by decide +kernel
theorem dX6_nest_86 : decode cX6_nest 86 = .ok (.iconst 5, 1) := by decide +kernel
theorem dX6_nest_87 : decode cX6_nest 87 = .ok (.if_icmp .ne 9, 3) := by decide +kernel
theorem dX6_nest_90 : decode cX6_nest 90 = .ok (.aload_n 0, 1) := by decide +kernel
theorem dX6_nest_91 : decode cX6_nest 91 = .ok (.iconst 3, 1) := by decide +kernel
theorem dX6_nest_92 : decode cX6_nest 92 = .ok (.invokevirtual 88, 3) := by decide +kernel
theorem dX6_nest_95 : decode cX6_nest 95 = .ok (.ireturn, 1) := by decide +kernel
theorem dX6_nest_96 : decode cX6_nest 96 = .ok (.aload_n 0, 1) := by decide +kernel
theorem dX6_nest_97 : decode cX6_nest 97 = .ok (.invokevirtual 177, 3) := by decide +kernel
theorem dX6_nest_100 : decode cX6_nest 100 = .ok (.aload_n 0, 1) := by decide +kernel
theorem dX6_nest_101 : decode cX6_nest 101 = .ok (.getfield 7, 3) := by decide +kernel
theorem dX6_nest_104 : decode cX6_nest 104 = .ok (.bipush 12, 2) := by decide +kernel
theorem dX6_nest_106 : decode cX6_nest 106 = .ok (.iload 6, 2) := by decide +kernel
theorem dX6_nest_108 : decode cX6_nest 108 = .ok (.iadd, 1) := by decide +kernel
theorem dX6_nest_109 : decode cX6_nest 109 = .ok (.iconst 3, 1) := by decide +kernel
theorem dX6_nest_110 : decode cX6_nest 110 = .ok (.iastore, 1) := by decide +kernel
theorem dX6_nest_111 : decode cX6_nest 111 = .ok (.aload_n 0, 1) := by decide +kernel
theorem dX6_nest_112 : decode cX6_nest 112 = .ok (.getfield 7, 3) := by decide +kernel
theorem dX6_nest_115 : decode cX6_nest 115 = .ok (.sipush 137, 3) := by decide +kernel
theorem dX6_nest_118 : decode cX6_nest 118 = .ok (.iload 6, 2) := by decide +kernel
theorem dX6_nest_120 : decode cX6_nest 120 = .ok (.iadd, 1) := by decide +kernel
theorem dX6_nest_121 : decode cX6_nest 121 = .ok (.aload_n 0, 1) := by decide +kernel
theorem dX6_nest_122 : decode cX6_nest 122 = .ok (.getfield 7, 3) := by decide +kernel
theorem dX6_nest_125 : decode cX6_nest 125 = .ok (.iconst 0, 1) := by decide +kernel
theorem dX6_nest_126 : decode cX6_nest 126 = .ok (.iaload, 1) := by decide +kernel
theorem dX6_nest_127 : decode cX6_nest 127 = .ok (.iastore, 1) := by decide +kernel
theorem dX6_nest_128 : decode cX6_nest 128 = .ok (.aload_n 0, 1) := by decide +kernel
theorem dX6_nest_129 : decode cX6_nest 129 = .ok (.iload 4, 2) := by decide +kernel
theorem dX6_nest_131 : decode cX6_nest 131 = .ok (.iload 5, 2) := by decide +kernel
theorem dX6_nest_133 : decode cX6_nest 133 = .ok (.invokevirtual 96, 3) := by decide +kernel
theorem dX6_nest_136 : decode cX6_nest 136 = .ok (.ireturn, 1) := by decide +kernel
theorem dX6_isKind_0 : decode cX6_isKind 0 = .ok (.iload_n 0, 1) := by decide +kernel
theorem dX6_isKind_1 : decode cX6_isKind 1 = .ok (.iconst 1, 1) := by decide +kernel
theorem dX6_isKind_2 : decode cX6_isKind 2 = .ok (.if_icmp .ne 16, 3) := by decide +kernel
theorem dX6_isKind_5 : decode cX6_isKind 5 = .ok (.iload_n 1, 1) := by decide +kernel
theorem dX6_isKind_6 : decode cX6_isKind 6 = .ok (.sipush (-999), 3) := by decide +kernel
theorem dX6_isKind_9 : decode cX6_isKind 9 = .ok (.sipush 999, 3) := by decide +kernel
theorem dX6_isKind_12 : decode cX6_isKind 12 = .ok (.invokestatic 66, 3) := by decide +kernel
theorem dX6_isKind_15 : decode cX6_isKind 15 = .ok (.goto 38, 3) := by decide +kernel
theorem dX6_isKind_18 : decode cX6_isKind 18 = .ok (.iload_n 0, 1) := by decide +kernel
theorem dX6_isKind_19 : decode cX6_isKind 19 = .ok (.iconst 2, 1) := by decide +kernel
theorem dX6_isKind_20 : decode cX6_isKind 20 = .ok (.if_icmp .ne 13, 3) := by decide +kernel
theorem dX6_isKind_23 : decode cX6_isKind 23 = .ok (.iload_n 1, 1) := by decide +kernel
theorem dX6_isKind_24 : decode cX6_isKind 24 = .ok (.iconst 1, 1) := by decide +kernel
theorem dX6_isKind_25 : decode cX6_isKind 25 = .ok (.bipush 12, 2) := by decide +kernel
theorem dX6_isKind_27 : decode cX6_isKind 27 = .ok (.invokestatic 66, 3) := by decide +kernel
theorem dX6_isKind_30 : decode cX6_isKind 30 = .ok (.goto 23, 3) := by decide +kernel
theorem dX6_isKind_33 : decode cX6_isKind 33 = .ok (.iload_n 0, 1) := by decide +kernel
theorem dX6_isKind_34 : decode cX6_isKind 34 = .ok (.iconst 0, 1) := by decide +kernel
theorem dX6_isKind_35 : decode cX6_isKind 35 = .ok (.bipush 6, 2) := by decide +kernel
theorem dX6_isKind_37 : decode cX6_isKind 37 = .ok (.invokestatic 66, 3) := by decide +kernel
theorem dX6_isKind_40 : decode cX6_isKind 40 = .ok (.ifCond .eq 12, 3) := by decide +kernel
theorem dX6_isKind_43 : decode cX6_isKind 43 = .ok (.iload_n 0, 1) := by decide +kernel
theorem dX6_isKind_44 : decode cX6_isKind 44 = .ok (.iconst 3, 1) := by decide +kernel
theorem dX6_isKind_45 : decode cX6_isKind 45 = .ok (.if_icmp .eq 7, 3) := by decide +kernel
theorem dX6_isKind_48 : decode cX6_isKind 48 = .ok (.iconst 1, 1) := by decide +kernel
theorem dX6_isKind_49 : decode cX6_isKind 49 = .ok (.goto 4, 3) := by decide +kernel
theorem dX6_isKind_52 : decode cX6_isKind 52 = .ok (.iconst 0, 1) := by decide +kernel
theorem dX6_isKind_53 : decode cX6_isKind 53 = .ok (.ireturn, 1) := by decide +kernel
theorem dX6_mayPut_0 : decode cX6_mayPut 0 = .ok (.aload_n 0, 1) := by decide +kernel
theorem dX6_mayPut_1 : decode cX6_mayPut 1 = .ok (.iload_n 1, 1) := by decide +kernel
theorem dX6_mayPut_2 : decode cX6_mayPut 2 = .ok (.iload_n 2, 1) := by decide +kernel
theorem dX6_mayPut_3 : decode cX6_mayPut 3 = .ok (.iload_n 3, 1) := by decide +kernel
theorem dX6_mayPut_4 : decode cX6_mayPut 4 = .ok (.invokevirtual 180, 3) := by decide +kernel
theorem dX6_mayPut_7 : decode cX6_mayPut 7 = .ok (.ifCond .ne 5, 3) := by decide +kernel
theorem dX6_mayPut_10 : decode cX6_mayPut 10 = .ok (.iconst 1, 1) := by decide +kernel
theorem dX6_mayPut_11 : decode cX6_mayPut 11 = .ok (.ireturn, 1) := by decide +kernel
theorem dX6_mayPut_12 : decode cX6_mayPut 12 = .ok (.iload 4, 2) := by decide +kernel
theorem dX6_mayPut_14 : decode cX6_mayPut 14 = .ok (.iload 5, 2) := by decide +kernel
theorem dX6_mayPut_16 : decode cX6_mayPut 16 = .ok (.invokestatic 183, 3) := by decide +kernel
theorem dX6_mayPut_19 : decode cX6_mayPut 19 = .ok (.ifCond .ne 5, 3) := by decide +kernel
theorem dX6_mayPut_22 : decode cX6_mayPut 22 = .ok (.iconst 2, 1) := by decide +kernel
theorem dX6_mayPut_23 : decode cX6_mayPut 23 = .ok (.ireturn, 1) := by decide +kernel
theorem dX6_mayPut_24 : decode cX6_mayPut 24 = .ok (.iload_n 1, 1) := by decide +kernel
theorem dX6_mayPut_25 : decode cX6_mayPut 25 = .ok (.iload_n 2, 1) := by decide +kernel
theorem dX6_mayPut_26 : decode cX6_mayPut 26 = .ok (.iload_n 3, 1) := by decide +kernel
theorem dX6_mayPut_27 : decode cX6_mayPut 27 = .ok (.invokestatic 125, 3) := by decide +kernel
theorem dX6_mayPut_30 : decode cX6_mayPut 30 = .ok (.istore 6, 2) := by decide +kernel
theorem dX6_mayPut_32 : decode cX6_mayPut 32 = .ok (.aload_n 0, 1) := by decide +kernel
theorem dX6_mayPut_33 : decode cX6_mayPut 33 = .ok (.getfield 7, 3) := by decide +kernel
theorem dX6_mayPut_36 : decode cX6_mayPut 36 = .ok (.iload 6, 2) := by decide +kernel
theorem dX6_mayPut_38 : decode cX6_mayPut 38 = .ok (.invokestatic 103, 3) := by decide +kernel
theorem dX6_mayPut_41 : decode cX6_mayPut 41 = .ok (.ifCond .eq 39, 3) := by decide +kernel
theorem dX6_mayPut_44 : decode cX6_mayPut 44 = .ok (.aload_n 0, 1) := by decide +kernel
theorem dX6_mayPut_45 : decode cX6_mayPut 45 = .ok (.getfield 7, 3) := by decide +kernel
theorem dX6_mayPut_48 : decode cX6_mayPut 48 = .ok (.bipush 12, 2) := by decide +kernel
theorem dX6_mayPut_50 : decode cX6_mayPut 50 = .ok (.iload 6, 2) := by decide +kernel
theorem dX6_mayPut_52 : decode cX6_mayPut 52 = .ok (.iadd, 1) := by decide +kernel
theorem dX6_mayPut_53 : decode cX6_mayPut 53 = .ok (.iaload, 1) := by decide +kernel
theorem dX6_mayPut_54 : decode cX6_mayPut 54 = .ok (.iconst 3, 1) := by decide +kernel
theorem dX6_mayPut_55 : decode cX6_mayPut 55 = .ok (.if_icmp .ne 29, 3) := by decide +kernel
theorem dX6_mayPut_58 : decode cX6_mayPut 58 = .ok (.aload_n 0, 1) := by decide +kernel
theorem dX6_mayPut_59 : decode cX6_mayPut 59 = .ok (.getfield 7, 3) := by decide +kernel
theorem dX6_mayPut_62 : decode cX6_mayPut 62 = .ok (.sipush 137, 3) := by decide +kernel
theorem dX6_mayPut_65 : decode cX6_mayPut 65 = .ok (.iload 6, 2) := by decide +kernel
theorem dX6_mayPut_67 : decode cX6_mayPut 67 = .ok (.iadd, 1) := by decide +kernel
theorem dX6_mayPut_68 : decode cX6_mayPut 68 = .ok (.iaload, 1) := by decide +kernel
theorem dX6_mayPut_69 : decode cX6_mayPut 69 = .ok (.aload_n 0, 1) := by decide +kernel
theorem dX6_mayPut_70 : decode cX6_mayPut 70 = .ok (.getfield 7, 3) := by decide +kernel
theorem dX6_mayPut_73 : decode cX6_mayPut 73 = .ok (.iconst 0, 1) := by decide +kernel
theorem dX6_mayPut_74 : decode cX6_mayPut 74 = .ok (.iaload, 1) := by decide +kernel
theorem dX6_mayPut_75 : decode cX6_mayPut 75 = .ok (.iconst 1, 1) := by decide +kernel
theorem dX6_mayPut_76 : decode cX6_mayPut 76 = .ok (.isub, 1) := by decide +kernel
theorem dX6_mayPut_77 : decode cX6_mayPut 77 = .ok (.if_icmp .eq 7, 3) := by decide +kernel
theorem dX6_mayPut_80 : decode cX6_mayPut 80 = .ok (.iconst 3, 1) := by decide +kernel
theorem dX6_mayPut_81 : decode cX6_mayPut 81 = .ok (.goto 4, 3) := by decide +kernel
theorem dX6_mayPut_84 : decode cX6_mayPut 84 = .ok (.iconst 0, 1) := by decide +kernel
theorem dX6_mayPut_85 : decode cX6_mayPut 85 = .ok (.ireturn, 1) := by decide +kernel
theorem dX6_puts_0 : decode cX6_puts 0 = .ok (.aload_n 0, 1) := by decide +kernel
theorem dX6_puts_1 : decode cX6_puts 1 = .ok (.bipush 12, 2) := by decide +kernel
theorem dX6_puts_3 : decode cX6_puts 3 = .ok (.iload_n 1, 1) := by decide +kernel
theorem dX6_puts_4 : decode cX6_puts 4 = .ok (.iadd, 1) := by decide +kernel
theorem dX6_puts_5 : decode cX6_puts 5 = .ok (.iaload, 1) := by decide +kernel
theorem dX6_puts_6 : decode cX6_puts 6 = .ok (.istore 4, 2) := by decide +kernel
theorem dX6_puts_8 : decode cX6_puts 8 = .ok (.aload_n 0, 1) := by decide +kernel
theorem dX6_puts_9 : decode cX6_puts 9 = .ok (.iconst 0, 1) := by decide +kernel
theorem dX6_puts_10 : decode cX6_puts 10 = .ok (.dup2, 1) := by decide +kernel
theorem dX6_puts_11 : decode cX6_puts 11 = .ok (.iaload, 1) := by decide +kernel
theorem dX6_puts_12 : decode cX6_puts 12 = .ok (.iload 4, 2) := by decide +kernel
theorem dX6_puts_14 : decode cX6_puts 14 = .ok (.iconst 3, 1) := by decide +kernel
theorem dX6_puts_15 : decode cX6_puts 15 = .ok (.if_icmp .ne 7, 3) := by decide +kernel
theorem dX6_puts_18 : decode cX6_puts 18 = .ok (.iconst 1, 1) := by decide +kernel
theorem dX6_puts_19 : decode cX6_puts 19 = .ok (.goto 4, 3) := by decide +kernel
theorem dX6_puts_22 : decode cX6_puts 22 = .ok (.iconst 0, 1) := by decide +kernel
theorem dX6_puts_23 : decode cX6_puts 23 = .ok (.isub, 1) := by decide +kernel
theorem dX6_puts_24 : decode cX6_puts 24 = .ok (.iastore, 1) := by decide +kernel
theorem dX6_puts_25 : decode cX6_puts 25 = .ok (.aload_n 0, 1) := by decide +kernel
theorem dX6_puts_26 : decode cX6_puts 26 = .ok (.bipush 12, 2) := by decide +kernel
theorem dX6_puts_28 : decode cX6_puts 28 = .ok (.iload_n 1, 1) := by decide +kernel
theorem dX6_puts_29 : decode cX6_puts 29 = .ok (.iadd, 1) := by decide +kernel
theorem dX6_puts_30 : decode cX6_puts 30 = .ok (.iload_n 2, 1) := by decide +kernel
theorem dX6_puts_31 : decode cX6_puts 31 = .ok (.iastore, 1) := by decide +kernel
theorem dX6_puts_32 : decode cX6_puts 32 = .ok (.aload_n 0, 1) := by decide +kernel
theorem dX6_puts_33 : decode cX6_puts 33 = .ok (.sipush 137, 3) := by decide +kernel
theorem dX6_puts_36 : decode cX6_puts 36 = .ok (.iload_n 1, 1) := by decide +kernel
theorem dX6_puts_37 : decode cX6_puts 37 = .ok (.iadd, 1) := by decide +kernel
theorem dX6_puts_38 : decode cX6_puts 38 = .ok (.iload_n 2, 1) := by decide +kernel
theorem dX6_puts_39 : decode cX6_puts 39 = .ok (.iconst 1, 1) := by decide +kernel
theorem dX6_puts_40 : decode cX6_puts 40 = .ok (.if_icmp .eq 8, 3) := by decide +kernel
theorem dX6_puts_43 : decode cX6_puts 43 = .ok (.iload_n 2, 1) := by decide +kernel
theorem dX6_puts_44 : decode cX6_puts 44 = .ok (.iconst 2, 1) := by decide +kernel
theorem dX6_puts_45 : decode cX6_puts 45 = .ok (.if_icmp .ne 7, 3) := by decide +kernel
theorem dX6_puts_48 : decode cX6_puts 48 = .ok (.iload_n 3, 1) := by decide +kernel
theorem dX6_puts_49 : decode cX6_puts 49 = .ok (.goto 4, 3) := by decide +kernel
theorem dX6_puts_52 : decode cX6_puts 52 = .ok (.iconst 0, 1) := by decide +kernel
theorem dX6_puts_53 : decode cX6_puts 53 = .ok (.iastore, 1) := by decide +kernel
theorem dX6_puts_54 : decode cX6_puts 54 = .ok (.iload 4, 2) := by decide +kernel
theorem dX6_puts_56 : decode cX6_puts 56 = .ok (.ireturn, 1) := by decide +kernel
theorem dX6_put_0 : decode cX6_put 0 = .ok (.aload_n 0, 1) := by decide +kernel
theorem dX6_put_1 : decode cX6_put 1 = .ok (.aload_n 0, 1) := by decide +kernel
theorem dX6_put_2 : decode cX6_put 2 = .ok (.iload_n 1, 1) := by decide +kernel
theorem dX6_put_3 : decode cX6_put 3 = .ok (.iload_n 2, 1) := by decide +kernel
theorem dX6_put_4 : decode cX6_put 4 = .ok (.iload_n 3, 1) := by decide +kernel
theorem dX6_put_5 : decode cX6_put 5 = .ok (.iload 4, 2) := by decide +kernel
theorem dX6_put_7 : decode cX6_put 7 = .ok (.iload 5, 2) := by decide +kernel
theorem dX6_put_9 : decode cX6_put 9 = .ok (.invokevirtual 187, 3) := by decide +kernel
theorem dX6_put_12 : decode cX6_put 12 = .ok (.putfield 62, 3) := by decide +kernel
theorem dX6_put_15 : decode cX6_put 15 = .ok (.aload_n 0, 1) := by decide +kernel
theorem dX6_put_16 : decode cX6_put 16 = .ok (.getfield 62, 3) := by decide +kernel
theorem dX6_put_19 : decode cX6_put 19 = .ok (.ifCond .eq 5, 3) := by decide +kernel
theorem dX6_put_22 : decode cX6_put 22 = .ok (.iconst 0, 1) := by decide +kernel
theorem dX6_put_23 : decode cX6_put 23 = .ok (.ireturn, 1) := by decide +kernel
theorem dX6_put_24 : decode cX6_put 24 = .ok (.aload_n 0, 1) := by decide +kernel
theorem dX6_put_25 : decode cX6_put 25 = .ok (.invokevirtual 177, 3) := by decide +kernel
theorem dX6_put_28 : decode cX6_put 28 = .ok (.aload_n 0, 1) := by decide +kernel
theorem dX6_put_29 : decode cX6_put 29 = .ok (.getfield 7, 3) := by decide +kernel
theorem dX6_put_32 : decode cX6_put 32 = .ok (.iload_n 1, 1) := by decide +kernel
theorem dX6_put_33 : decode cX6_put 33 = .ok (.iload_n 2, 1) := by decide +kernel
theorem dX6_put_34 : decode cX6_put 34 = .ok (.iload_n 3, 1) := by decide +kernel
theorem dX6_put_35 : decode cX6_put 35 = .ok (.invokestatic 125, 3) := by decide +kernel
theorem dX6_put_38 : decode cX6_put 38 = .ok (.iload 4, 2) := by decide +kernel
theorem dX6_put_40 : decode cX6_put 40 = .ok (.iload 5, 2) := by decide +kernel
theorem dX6_put_42 : decode cX6_put 42 = .ok (.invokestatic 191, 3) := by decide +kernel
theorem dX6_put_45 : decode cX6_put 45 = .ok (.ireturn, 1) := by decide +kernel
theorem dX6_canSpan_0 : decode cX6_canSpan 0 = .ok (.aload_n 0, 1) := by decide +kernel
theorem dX6_canSpan_1 : decode cX6_canSpan 1 = .ok (.getfield 7, 3) := by decide +kernel
theorem dX6_canSpan_4 : decode cX6_canSpan 4 = .ok (.iload_n 1, 1) := by decide +kernel
theorem dX6_canSpan_5 : decode cX6_canSpan 5 = .ok (.invokestatic 103, 3) := by decide +kernel
theorem dX6_canSpan_8 : decode cX6_canSpan 8 = .ok (.istore 4, 2) := by decide +kernel
theorem dX6_canSpan_10 : decode cX6_canSpan 10 = .ok (.iconst 0, 1) := by decide +kernel
theorem dX6_canSpan_11 : decode cX6_canSpan 11 = .ok (.istore 5, 2) := by decide +kernel
theorem dX6_canSpan_13 : decode cX6_canSpan 13 = .ok (.iload 5, 2) := by decide +kernel
theorem dX6_canSpan_15 : decode cX6_canSpan 15 = .ok (.iload_n 2, 1) := by decide +kernel
theorem dX6_canSpan_16 : decode cX6_canSpan 16 = .ok (.iload_n 3, 1) := by decide +kernel
theorem dX6_canSpan_17 : decode cX6_canSpan 17 = .ok (.imul, 1) := by decide +kernel
theorem dX6_canSpan_18 : decode cX6_canSpan 18 = .ok (.if_icmp .ge 91, 3) := by decide +kernel
theorem dX6_canSpan_21 : decode cX6_canSpan 21 = .ok (.iload 4, 2) := by decide +kernel
theorem dX6_canSpan_23 : decode cX6_canSpan 23 = .ok (.ifCond .eq 86, 3) := by decide +kernel
theorem dX6_canSpan_26 : decode cX6_canSpan 26 = .ok (.aload_n 0, 1) := by decide +kernel
theorem dX6_canSpan_27 : decode cX6_canSpan 27 = .ok (.getfield 7, 3) := by decide +kernel
theorem dX6_canSpan_30 : decode cX6_canSpan 30 = .ok (.sipush 512, 3) := by decide +kernel
theorem dX6_canSpan_33 : decode cX6_canSpan 33 = .ok (.iload_n 1, 1) := by decide +kernel
theorem dX6_canSpan_34 : decode cX6_canSpan 34 = .ok (.iadd, 1) := by decide +kernel
theorem dX6_canSpan_35 : decode cX6_canSpan 35 = .ok (.iconst 5, 1) := by decide +kernel
theorem dX6_canSpan_36 : decode cX6_canSpan 36 = .ok (.iload 5, 2) := by decide +kernel
theorem dX6_canSpan_38 : decode cX6_canSpan 38 = .ok (.iload_n 3, 1) := by decide +kernel
theorem dX6_canSpan_39 : decode cX6_canSpan 39 = .ok (.idiv, 1) := by decide +kernel
theorem dX6_canSpan_40 : decode cX6_canSpan 40 = .ok (.imul, 1) := by decide +kernel
theorem dX6_canSpan_41 : decode cX6_canSpan 41 = .ok (.iadd, 1) := by decide +kernel
theorem dX6_canSpan_42 : decode cX6_canSpan 42 = .ok (.iload 5, 2) := by decide +kernel
theorem dX6_canSpan_44 : decode cX6_canSpan 44 = .ok (.iload_n 3, 1) := by decide +kernel
theorem dX6_canSpan_45 : decode cX6_canSpan 45 = .ok (.irem, 1) := by decide +kernel
theorem dX6_canSpan_46 : decode cX6_canSpan 46 = .ok (.iadd, 1) := by decide +kernel
theorem dX6_canSpan_47 : decode cX6_canSpan 47 = .ok (.iaload, 1) := by decide +kernel
theorem dX6_canSpan_48 : decode cX6_canSpan 48 = .ok (.istore 6, 2) := by decide +kernel
theorem dX6_canSpan_50 : decode cX6_canSpan 50 = .ok (.iload 6, 2) := by decide +kernel
theorem dX6_canSpan_52 : decode cX6_canSpan 52 = .ok (.iload_n 1, 1) := by decide +kernel
theorem dX6_canSpan_53 : decode cX6_canSpan 53 = .ok (.if_icmp .eq 43, 3) := by decide +kernel
theorem dX6_canSpan_56 : decode cX6_canSpan 56 = .ok (.aload_n 0, 1) := by decide +kernel
theorem dX6_canSpan_57 : decode cX6_canSpan 57 = .ok (.getfield 7, 3) := by decide +kernel
theorem dX6_canSpan_60 : decode cX6_canSpan 60 = .ok (.bipush 12, 2) := by decide +kernel
theorem dX6_canSpan_62 : decode cX6_canSpan 62 = .ok (.iload 6, 2) := by decide +kernel
theorem dX6_canSpan_64 : decode cX6_canSpan 64 = .ok (.iadd, 1) := by decide +kernel
theorem dX6_canSpan_65 : decode cX6_canSpan 65 = .ok (.iaload, 1) := by decide +kernel
theorem dX6_canSpan_66 : decode cX6_canSpan 66 = .ok (.ifCond .ne 34, 3) := by decide +kernel
theorem dX6_canSpan_69 : decode cX6_canSpan 69 = .ok (.aload_n 0, 1) := by decide +kernel
theorem dX6_canSpan_70 : decode cX6_canSpan 70 = .ok (.getfield 7, 3) := by decide +kernel
theorem dX6_canSpan_73 : decode cX6_canSpan 73 = .ok (.sipush 262, 3) := by decide +kernel
theorem dX6_canSpan_76 : decode cX6_canSpan 76 = .ok (.iload 6, 2) := by decide +kernel
theorem dX6_canSpan_78 : decode cX6_canSpan 78 = .ok (.iadd, 1) := by decide +kernel
theorem dX6_canSpan_79 : decode cX6_canSpan 79 = .ok (.iaload, 1) := by decide +kernel
theorem dX6_canSpan_80 : decode cX6_canSpan 80 = .ok (.aload_n 0, 1) := by decide +kernel
theorem dX6_canSpan_81 : decode cX6_canSpan 81 = .ok (.getfield 7, 3) := by decide +kernel
theorem dX6_canSpan_84 : decode cX6_canSpan 84 = .ok (.sipush 387, 3) := by decide +kernel

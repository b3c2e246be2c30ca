theorem dX5_init_0 : decode cX5_init 0 = .ok (.aload_n 0, 1) := by decide +kernel
theorem dX5_init_1 : decode cX5_init 1 = .ok (.invokespecial 3, 3) := by decide +kernel
theorem dX5_init_4 : decode cX5_init 4 = .ok (.aload_n 0, 1) := by decide +kernel
theorem dX5_init_5 : decode cX5_init 5 = .ok (.new 9, 3) := by decide +kernel
theorem dX5_init_8 : decode cX5_init 8 = .ok (.dup, 1) := by decide +kernel
theorem dX5_init_9 : decode cX5_init 9 = .ok (.invokespecial 11, 3) := by decide +kernel
theorem dX5_init_12 : decode cX5_init 12 = .ok (.putfield 12, 3) := by decide +kernel
theorem dX5_init_15 : decode cX5_init 15 = .ok (.aload_n 0, 1) := by decide +kernel
theorem dX5_init_16 : decode cX5_init 16 = .ok (.aload_n 0, 1) := by decide +kernel
theorem dX5_init_17 : decode cX5_init 17 = .ok (.getfield 12, 3) := by decide +kernel
theorem dX5_init_20 : decode cX5_init 20 = .ok (.getfield 16, 3) := by decide +kernel
theorem dX5_init_23 : decode cX5_init 23 = .ok (.putfield 20, 3) := by decide +kernel
theorem dX5_init_26 : decode cX5_init 26 = .ok (.aload_n 0, 1) := by decide +kernel
theorem dX5_init_27 : decode cX5_init 27 = .ok (.new 9, 3) := by decide +kernel
theorem dX5_init_30 : decode cX5_init 30 = .ok (.dup, 1) := by decide +kernel
theorem dX5_init_31 : decode cX5_init 31 = .ok (.invokespecial 11, 3) := by decide +kernel
theorem dX5_init_34 : decode cX5_init 34 = .ok (.putfield 21, 3) := by decide +kernel
theorem dX5_init_37 : decode cX5_init 37 = .ok (.aload_n 0, 1) := by decide +kernel
theorem dX5_init_38 : decode cX5_init 38 = .ok (.new 24, 3) := by decide +kernel
theorem dX5_init_41 : decode cX5_init 41 = .ok (.dup, 1) := by decide +kernel
theorem dX5_init_42 : decode cX5_init 42 = .ok (.invokespecial 26, 3) := by decide +kernel
theorem dX5_init_45 : decode cX5_init 45 = .ok (.putfield 27, 3) := by decide +kernel
theorem dX5_init_48 : decode cX5_init 48 = .ok (.aload_n 0, 1) := by decide +kernel
theorem dX5_init_49 : decode cX5_init 49 = .ok (.new 31, 3) := by decide +kernel
theorem dX5_init_52 : decode cX5_init 52 = .ok (.dup, 1) := by decide +kernel
theorem dX5_init_53 : decode cX5_init 53 = .ok (.invokespecial 33, 3) := by decide +kernel
theorem dX5_init_56 : decode cX5_init 56 = .ok (.putfield 34, 3) := by decide +kernel
theorem dX5_init_59 : decode cX5_init 59 = .ok (.aload_n 0, 1) := by decide +kernel
theorem dX5_init_60 : decode cX5_init 60 = .ok (.getfield 20, 3) := by decide +kernel
theorem dX5_init_63 : decode cX5_init 63 = .ok (.iconst 3, 1) := by decide +kernel
theorem dX5_init_64 : decode cX5_init 64 = .ok (.iconst 3, 1) := by decide +kernel
theorem dX5_init_65 : decode cX5_init 65 = .ok (.invokevirtual 38, 3) := by decide +kernel
theorem dX5_init_68 : decode cX5_init 68 = .ok (.aload_n 0, 1) := by decide +kernel
theorem dX5_init_69 : decode cX5_init 69 = .ok (.getfield 12, 3) := by decide +kernel
theorem dX5_init_72 : decode cX5_init 72 = .ok (.invokevirtual 44, 3) := by decide +kernel
theorem dX5_init_75 : decode cX5_init 75 = .ok (.return_, 1) := by decide +kernel
theorem dX5_begin_0 : decode cX5_begin 0 = .ok (.iload_n 1, 1) := by decide +kernel
theorem dX5_begin_1 : decode cX5_begin 1 = .ok (.iload_n 2, 1) := by decide +kernel
theorem dX5_begin_2 : decode cX5_begin 2 = .ok (.invokestatic 47, 3) := by decide +kernel
theorem dX5_begin_5 : decode cX5_begin 5 = .ok (.aload_n 0, 1) := by decide +kernel
theorem dX5_begin_6 : decode cX5_begin 6 = .ok (.getfield 27, 3) := by decide +kernel
theorem dX5_begin_9 : decode cX5_begin 9 = .ok (.aload_n 0, 1) := by decide +kernel
theorem dX5_begin_10 : decode cX5_begin 10 = .ok (.getfield 20, 3) := by decide +kernel
theorem dX5_begin_13 : decode cX5_begin 13 = .ok (.invokevirtual 50, 3) := by decide +kernel
theorem dX5_begin_16 : decode cX5_begin 16 = .ok (.aload_n 0, 1) := by decide +kernel
theorem dX5_begin_17 : decode cX5_begin 17 = .ok (.getfield 20, 3) := by decide +kernel
theorem dX5_begin_20 : decode cX5_begin 20 = .ok (.iload_n 1, 1) := by decide +kernel
theorem dX5_begin_21 : decode cX5_begin 21 = .ok (.iload_n 2, 1) := by decide +kernel
theorem dX5_begin_22 : decode cX5_begin 22 = .ok (.invokevirtual 38, 3) := by decide +kernel
theorem dX5_begin_25 : decode cX5_begin 25 = .ok (.aload_n 0, 1) := by decide +kernel
theorem dX5_begin_26 : decode cX5_begin 26 = .ok (.getfield 12, 3) := by decide +kernel
theorem dX5_begin_29 : decode cX5_begin 29 = .ok (.invokevirtual 44, 3) := by decide +kernel
theorem dX5_begin_32 : decode cX5_begin 32 = .ok (.iload_n 1, 1) := by decide +kernel
theorem dX5_begin_33 : decode cX5_begin 33 = .ok (.iload_n 2, 1) := by decide +kernel
theorem dX5_begin_34 : decode cX5_begin 34 = .ok (.imul, 1) := by decide +kernel
theorem dX5_begin_35 : decode cX5_begin 35 = .ok (.ireturn, 1) := by decide +kernel
theorem dX5_nest_0 : decode cX5_nest 0 = .ok (.aload_n 0, 1) := by decide +kernel
theorem dX5_nest_1 : decode cX5_nest 1 = .ok (.iload_n 1, 1) := by decide +kernel
theorem dX5_nest_2 : decode cX5_nest 2 = .ok (.iload_n 2, 1) := by decide +kernel
theorem dX5_nest_3 : decode cX5_nest 3 = .ok (.iload_n 3, 1) := by decide +kernel
theorem dX5_nest_4 : decode cX5_nest 4 = .ok (.invokevirtual 54, 3) := by decide +kernel
theorem dX5_nest_7 : decode cX5_nest 7 = .ok (.istore 6, 2) := by decide +kernel
theorem dX5_nest_9 : decode cX5_nest 9 = .ok (.iload 4, 2) := by decide +kernel
theorem dX5_nest_11 : decode cX5_nest 11 = .ok (.iload 5, 2) := by decide +kernel
theorem dX5_nest_13 : decode cX5_nest 13 = .ok (.invokestatic 47, 3) := by decide +kernel
theorem dX5_nest_16 : decode cX5_nest 16 = .ok (.aload_n 0, 1) := by decide +kernel
theorem dX5_nest_17 : decode cX5_nest 17 = .ok (.getfield 20, 3) := by decide +kernel
theorem dX5_nest_20 : decode cX5_nest 20 = .ok (.iload 6, 2) := by decide +kernel
theorem dX5_nest_22 : decode cX5_nest 22 = .ok (.invokevirtual 58, 3) := by decide +kernel
theorem dX5_nest_25 : decode cX5_nest 25 = .ok (.ifCond .eq 29, 3) := by decide +kernel
theorem dX5_nest_28 : decode cX5_nest 28 = .ok (.aload_n 0, 1) := by decide +kernel
theorem dX5_nest_29 : decode cX5_nest 29 = .ok (.getfield 20, 3) := by decide +kernel
theorem dX5_nest_32 : decode cX5_nest 32 = .ok (.getfield 62, 3) := by decide +kernel
theorem dX5_nest_35 : decode cX5_nest 35 = .ok (.iload 6, 2) := by decide +kernel
theorem dX5_nest_37 : decode cX5_nest 37 = .ok (.invokevirtual 66, 3) := by decide +kernel
theorem dX5_nest_40 : decode cX5_nest 40 = .ok (.ifCond .ne 14, 3) := by decide +kernel
theorem dX5_nest_43 : decode cX5_nest 43 = .ok (.aload_n 0, 1) := by decide +kernel
theorem dX5_nest_44 : decode cX5_nest 44 = .ok (.getfield 20, 3) := by decide +kernel
theorem dX5_nest_47 : decode cX5_nest 47 = .ok (.getfield 72, 3) := by decide +kernel
theorem dX5_nest_50 : decode cX5_nest 50 = .ok (.iconst 5, 1) := by decide +kernel
theorem dX5_nest_51 : decode cX5_nest 51 = .ok (.if_icmp .lt 11, 3) := by decide +kernel
theorem dX5_nest_54 : decode cX5_nest 54 = .ok (.new 76, 3) := by decide +kernel
theorem dX5_nest_57 : decode cX5_nest 57 = .ok (.dup, 1) := by decide +kernel
theorem dX5_nest_58 : decode cX5_nest 58 = .ok (.invokespecial 78, 3) := by decide +kernel
theorem dX5_nest_61 : decode cX5_nest 61 = .ok (.athrow, 1) := by decide +kernel
theorem dX5_nest_62 : decode cX5_nest 62 = .ok (.aload_n 0, 1) := by decide +kernel
theorem dX5_nest_63 : decode cX5_nest 63 = .ok (.getfield 27, 3) := by decide +kernel
theorem dX5_nest_66 : decode cX5_nest 66 = .ok (.aload_n 0, 1) := by decide +kernel
theorem dX5_nest_67 : decode cX5_nest 67 = .ok (.getfield 20, 3) := by decide +kernel
theorem dX5_nest_70 : decode cX5_nest 70 = .ok (.invokevirtual 50, 3) := by decide +kernel
theorem dX5_nest_73 : decode cX5_nest 73 = .ok (.aload_n 0, 1) := by decide +kernel
theorem dX5_nest_74 : decode cX5_nest 74 = .ok (.getfield 20, 3) := by decide +kernel
theorem dX5_nest_77 : decode cX5_nest 77 = .ok (.iload 6, 2) := by decide +kernel
theorem dX5_nest_79 : decode cX5_nest 79 = .ok (.iload 4, 2) := by decide +kernel
theorem dX5_nest_81 : decode cX5_nest 81 = .ok (.iload 5, 2) := by decide +kernel
theorem dX5_nest_83 : decode cX5_nest 83 = .ok (.invokevirtual 79, 3) := by decide +kernel
theorem dX5_nest_86 : decode cX5_nest 86 = .ok (.istore 7, 2) := by decide +kernel
theorem dX5_nest_88 : decode cX5_nest 88 = .ok (.aload_n 0, 1) := by decide +kernel
theorem dX5_nest_89 : decode cX5_nest 89 = .ok (.getfield 12, 3) := by decide +kernel
theorem dX5_nest_92 : decode cX5_nest 92 = .ok (.invokevirtual 44, 3) := by decide +kernel
theorem dX5_nest_95 : decode cX5_nest 95 = .ok (.iload 7, 2) := by decide +kernel
theorem dX5_nest_97 : decode cX5_nest 97 = .ok (.ireturn, 1) := by decide +kernel
theorem dX5_put_0 : decode cX5_put 0 = .ok (.aload_n 0, 1) := by decide +kernel
theorem dX5_put_1 : decode cX5_put 1 = .ok (.iload_n 1, 1) := by decide +kernel
theorem dX5_put_2 : decode cX5_put 2 = .ok (.iload_n 2, 1) := by decide +kernel
theorem dX5_put_3 : decode cX5_put 3 = .ok (.iload_n 3, 1) := by decide +kernel
theorem dX5_put_4 : decode cX5_put 4 = .ok (.invokevirtual 54, 3) := by decide +kernel
theorem dX5_put_7 : decode cX5_put 7 = .ok (.istore 6, 2) := by decide +kernel
theorem dX5_put_9 : decode cX5_put 9 = .ok (.iload 4, 2) := by decide +kernel
theorem dX5_put_11 : decode cX5_put 11 = .ok (.iload 5, 2) := by decide +kernel
theorem dX5_put_13 : decode cX5_put 13 = .ok (.invokestatic 82, 3) := by decide +kernel
theorem dX5_put_16 : decode cX5_put 16 = .ok (.ifCond .ne 11, 3) := by decide +kernel
theorem dX5_put_19 : decode cX5_put 19 = .ok (.new 86, 3) := by decide +kernel
theorem dX5_put_22 : decode cX5_put 22 = .ok (.dup, 1) := by decide +kernel
theorem dX5_put_23 : decode cX5_put 23 = .ok (.invokespecial 88, 3) := by decide +kernel
theorem dX5_put_26 : decode cX5_put 26 = .ok (.athrow, 1) := by decide +kernel
theorem dX5_put_27 : decode cX5_put 27 = .ok (.aload_n 0, 1) := by decide +kernel
theorem dX5_put_28 : decode cX5_put 28 = .ok (.getfield 20, 3) := by decide +kernel
theorem dX5_put_31 : decode cX5_put 31 = .ok (.iload 6, 2) := by decide +kernel
theorem dX5_put_33 : decode cX5_put 33 = .ok (.invokevirtual 89, 3) := by decide +kernel
theorem dX5_put_36 : decode cX5_put 36 = .ok (.ifCond .ne 11, 3) := by decide +kernel
theorem dX5_put_39 : decode cX5_put 39 = .ok (.new 76, 3) := by decide +kernel
theorem dX5_put_42 : decode cX5_put 42 = .ok (.dup, 1) := by decide +kernel
theorem dX5_put_43 : decode cX5_put 43 = .ok (.invokespecial 78, 3) := by decide +kernel
theorem dX5_put_46 : decode cX5_put 46 = .ok (.athrow, 1) := by decide +kernel
theorem dX5_put_47 : decode cX5_put 47 = .ok (.aload_n 0, 1) := by decide +kernel
theorem dX5_put_48 : decode cX5_put 48 = .ok (.getfield 27, 3) := by decide +kernel
theorem dX5_put_51 : decode cX5_put 51 = .ok (.aload_n 0, 1) := by decide +kernel
theorem dX5_put_52 : decode cX5_put 52 = .ok (.getfield 20, 3) := by decide +kernel
theorem dX5_put_55 : decode cX5_put 55 = .ok (.invokevirtual 50, 3) := by decide +kernel
theorem dX5_put_58 : decode cX5_put 58 = .ok (.aload_n 0, 1) := by decide +kernel
theorem dX5_put_59 : decode cX5_put 59 = .ok (.getfield 20, 3) := by decide +kernel
theorem dX5_put_62 : decode cX5_put 62 = .ok (.iload 6, 2) := by decide +kernel
theorem dX5_put_64 : decode cX5_put 64 = .ok (.iload 4, 2) := by decide +kernel
theorem dX5_put_66 : decode cX5_put 66 = .ok (.iload 5, 2) := by decide +kernel
theorem dX5_put_68 : decode cX5_put 68 = .ok (.invokevirtual 92, 3) := by decide +kernel
theorem dX5_put_71 : decode cX5_put 71 = .ok (.istore 7, 2) := by decide +kernel
theorem dX5_put_73 : decode cX5_put 73 = .ok (.aload_n 0, 1) := by decide +kernel
theorem dX5_put_74 : decode cX5_put 74 = .ok (.getfield 12, 3) := by decide +kernel
theorem dX5_put_77 : decode cX5_put 77 = .ok (.invokevirtual 44, 3) := by decide +kernel
theorem dX5_put_80 : decode cX5_put 80 = .ok (.iload 7, 2) := by decide +kernel
theorem dX5_put_82 : decode cX5_put 82 = .ok (.ireturn, 1) := by decide +kernel
theorem dX5_span_0 : decode cX5_span 0 = .ok (.aload_n 0, 1) := by decide +kernel
theorem dX5_span_1 : decode cX5_span 1 = .ok (.iload_n 1, 1) := by decide +kernel
theorem dX5_span_2 : decode cX5_span 2 = .ok (.iload_n 2, 1) := by decide +kernel
theorem dX5_span_3 : decode cX5_span 3 = .ok (.iload_n 3, 1) := by decide +kernel
theorem dX5_span_4 : decode cX5_span 4 = .ok (.invokevirtual 54, 3) := by decide +kernel
theorem dX5_span_7 : decode cX5_span 7 = .ok (.istore 6, 2) := by decide +kernel
theorem dX5_span_9 : decode cX5_span 9 = .ok (.iload 4, 2) := by decide +kernel
theorem dX5_span_11 : decode cX5_span 11 = .ok (.iconst 1, 1) := by decide +kernel
theorem dX5_span_12 : decode cX5_span 12 = .ok (.iconst 5, 1) := by decide +kernel
theorem dX5_span_13 : decode cX5_span 13 = .ok (.invokestatic 95, 3) := by decide +kernel
theorem dX5_span_16 : decode cX5_span 16 = .ok (.ifCond .eq 17, 3) := by decide +kernel
theorem dX5_span_19 : decode cX5_span 19 = .ok (.iload 5, 2) := by decide +kernel
theorem dX5_span_21 : decode cX5_span 21 = .ok (.iconst 1, 1) := by decide +kernel
theorem dX5_span_22 : decode cX5_span 22 = .ok (.iconst 5, 1) := by decide +kernel
theorem dX5_span_23 : decode cX5_span 23 = .ok (.invokestatic 95, 3) := by decide +kernel
theorem dX5_span_26 : decode cX5_span 26 = .ok (.ifCond .eq 7, 3) := by decide +kernel
theorem dX5_span_29 : decode cX5_span 29 = .ok (.iconst 1, 1) := by decide +kernel
theorem dX5_span_30 : decode cX5_span 30 = .ok (.goto 4, 3) := by decide +kernel
theorem dX5_span_33 : decode cX5_span 33 = .ok (.iconst 0, 1) := by decide +kernel
theorem dX5_span_34 : decode cX5_span 34 = .ok (.istore 7, 2) := by decide +kernel
theorem dX5_span_36 : decode cX5_span 36 = .ok (.iload 7, 2) := by decide +kernel
theorem dX5_span_38 : decode cX5_span 38 = .ok (.ifCond .eq 35, 3) := by decide +kernel
theorem dX5_span_41 : decode cX5_span 41 = .ok (.aload_n 0, 1) := by decide +kernel
theorem dX5_span_42 : decode cX5_span 42 = .ok (.getfield 20, 3) := by decide +kernel
theorem dX5_span_45 : decode cX5_span 45 = .ok (.iload_n 1, 1) := by decide +kernel
theorem dX5_span_46 : decode cX5_span 46 = .ok (.iload_n 2, 1) := by decide +kernel
theorem dX5_span_47 : decode cX5_span 47 = .ok (.iload 4, 2) := by decide +kernel
theorem dX5_span_49 : decode cX5_span 49 = .ok (.iadd, 1) := by decide +kernel
theorem dX5_span_50 : decode cX5_span 50 = .ok (.iconst 1, 1) := by decide +kernel
theorem dX5_span_51 : decode cX5_span 51 = .ok (.isub, 1) := by decide +kernel
theorem dX5_span_52 : decode cX5_span 52 = .ok (.iload_n 3, 1) := by decide +kernel
theorem dX5_span_53 : decode cX5_span 53 = .ok (.iload 5, 2) := by decide +kernel
theorem dX5_span_55 : decode cX5_span 55 = .ok (.iadd, 1) := by decide +kernel
theorem dX5_span_56 : decode cX5_span 56 = .ok (.iconst 1, 1) := by decide +kernel
theorem dX5_span_57 : decode cX5_span 57 = .ok (.isub, 1) := by decide +kernel
theorem dX5_span_58 : decode cX5_span 58 = .ok (.invokevirtual 99, 3) := by decide +kernel
theorem dX5_span_61 : decode cX5_span 61 = .ok (.iconst (-1), 1) := by decide +kernel
theorem dX5_span_62 : decode cX5_span 62 = .ok (.if_icmp .ne 11, 3) := by decide +kernel
theorem dX5_span_65 : decode cX5_span 65 = .ok (.new 102, 3) := by decide +kernel
theorem dX5_span_68 : decode cX5_span 68 = .ok (.dup, 1) := by decide +kernel
theorem dX5_span_69 : decode cX5_span 69 = .ok (.invokespecial 104, 3) := by decide +kernel
theorem dX5_span_72 : decode cX5_span 72 = .ok (.athrow, 1) := by decide +kernel
theorem dX5_span_73 : decode cX5_span 73 = .ok (.iload 4, 2) := by decide +kernel
theorem dX5_span_75 : decode cX5_span 75 = .ok (.iload 5, 2) := by decide +kernel
theorem dX5_span_77 : decode cX5_span 77 = .ok (.invokestatic 47, 3) := by decide +kernel
theorem dX5_span_80 : decode cX5_span 80 = .ok (.aload_n 0, 1) := by decide +kernel
theorem dX5_span_81 : decode cX5_span 81 = .ok (.getfield 20, 3) := by decide +kernel
theorem dX5_span_84 : decode cX5_span 84 = .ok (.iload 6, 2) := by decide +kernel
theorem dX5_span_86 : decode cX5_span 86 = .ok (.invokevirtual 58, 3) := by decide +kernel
theorem dX5_span_89 : decode cX5_span 89 = .ok (.ifCond .eq 19, 3) := by decide +kernel
theorem dX5_span_92 : decode cX5_span 92 = .ok (.aload_n 0, 1) := by decide +kernel
theorem dX5_span_93 : decode cX5_span 93 = .ok (.getfield 20, 3) := by decide +kernel
theorem dX5_span_96 : decode cX5_span 96 = .ok (.iload 6, 2) := by decide +kernel
theorem dX5_span_98 : decode cX5_span 98 = .ok (.iload 4, 2) := by decide +kernel
theorem dX5_span_100 : decode cX5_span 100 = .ok (.iload 5, 2) := by decide +kernel
theorem dX5_span_102 : decode cX5_span 102 = .ok (.invokevirtual 105, 3) := by decide +kernel
theorem dX5_span_105 : decode cX5_span 105 = .ok (.ifCond .ne 11, 3) := by decide +kernel
theorem dX5_span_108 : decode cX5_span 108 = .ok (.new 76, 3) := by decide +kernel
theorem dX5_span_111 : decode cX5_span 111 = .ok (.dup, 1) := by decide +kernel
theorem dX5_span_112 : decode cX5_span 112 = .ok (.invokespecial 78, 3) := by decide +kernel
theorem dX5_span_115 : decode cX5_span 115 = .ok (.athrow, 1) := by decide +kernel
theorem dX5_span_116 : decode cX5_span 116 = .ok (.aload_n 0, 1) := by decide +kernel
theorem dX5_span_117 : decode cX5_span 117 = .ok (.getfield 27, 3) := by decide +kernel
theorem dX5_span_120 : decode cX5_span 120 = .ok (.aload_n 0, 1) := by decide +kernel
theorem dX5_span_121 : decode cX5_span 121 = .ok (.getfield 20, 3) := by decide +kernel
theorem dX5_span_124 : decode cX5_span 124 = .ok (.invokevirtual 50, 3) := by decide +kernel
theorem dX5_span_127 : decode cX5_span 127 = .ok (.aload_n 0, 1) := by decide +kernel
theorem dX5_span_128 : decode cX5_span 128 = .ok (.getfield 20, 3) := by decide +kernel
theorem dX5_span_131 : decode cX5_span 131 = .ok (.iload 6, 2) := by decide +kernel
theorem dX5_span_133 : decode cX5_span 133 = .ok (.iload 4, 2) := by decide +kernel
theorem dX5_span_135 : decode cX5_span 135 = .ok (.iload 5, 2) := by decide +kernel
theorem dX5_span_137 : decode cX5_span 137 = .ok (.invokevirtual 108, 3) := by decide +kernel
theorem dX5_span_140 : decode cX5_span 140 = .ok (.aload_n 0, 1) := by decide +kernel
theorem dX5_span_141 : decode cX5_span 141 = .ok (.getfield 12, 3) := by decide +kernel
theorem dX5_span_144 : decode cX5_span 144 = .ok (.invokevirtual 44, 3) := by decide +kernel
theorem dX5_span_147 : decode cX5_span 147 = .ok (.iload 4, 2) := by decide +kernel
theorem dX5_span_149 : decode cX5_span 149 = .ok (.iload 5, 2) := by decide +kernel
theorem dX5_span_151 : decode cX5_span 151 = .ok (.imul, 1) := by decide +kernel
theorem dX5_span_152 : decode cX5_span 152 = .ok (.ireturn, 1) := by decide +kernel
theorem dX5_rule_0 : decode cX5_rule 0 = .ok (.aload_n 0, 1) := by decide +kernel
theorem dX5_rule_1 : decode cX5_rule 1 = .ok (.iload_n 1, 1) := by decide +kernel
theorem dX5_rule_2 : decode cX5_rule 2 = .ok (.iload_n 2, 1) := by decide +kernel
theorem dX5_rule_3 : decode cX5_rule 3 = .ok (.iload_n 3, 1) := by decide +kernel
theorem dX5_rule_4 : decode cX5_rule 4 = .ok (.invokevirtual 54, 3) := by decide +kernel
theorem dX5_rule_7 : decode cX5_rule 7 = .ok (.istore 6, 2) := by decide +kernel
theorem dX5_rule_9 : decode cX5_rule 9 = .ok (.iload 4, 2) := by decide +kernel
theorem dX5_rule_11 : decode cX5_rule 11 = .ok (.iconst 0, 1) := by decide +kernel
theorem dX5_rule_12 : decode cX5_rule 12 = .ok (.iconst 3, 1) := by decide +kernel
theorem dX5_rule_13 : decode cX5_rule 13 = .ok (.invokestatic 112, 3) := by decide +kernel
theorem dX5_rule_16 : decode cX5_rule 16 = .ok (.iload 5, 2) := by decide +kernel
theorem dX5_rule_18 : decode cX5_rule 18 = .ok (.iconst 0, 1) := by decide +kernel
theorem dX5_rule_19 : decode cX5_rule 19 = .ok (.iconst 3, 1) := by decide +kernel
theorem dX5_rule_20 : decode cX5_rule 20 = .ok (.invokestatic 112, 3) := by decide +kernel
theorem dX5_rule_23 : decode cX5_rule 23 = .ok (.aload_n 0, 1) := by decide +kernel
theorem dX5_rule_24 : decode cX5_rule 24 = .ok (.getfield 20, 3) := by decide +kernel
theorem dX5_rule_27 : decode cX5_rule 27 = .ok (.iload 6, 2) := by decide +kernel
theorem dX5_rule_29 : decode cX5_rule 29 = .ok (.invokevirtual 58, 3) := by decide +kernel
theorem dX5_rule_32 : decode cX5_rule 32 = .ok (.ifCond .ne 11, 3) := by decide +kernel
theorem dX5_rule_35 : decode cX5_rule 35 = .ok (.new 76, 3) := by decide +kernel
theorem dX5_rule_38 : decode cX5_rule 38 = .ok (.dup, 1) := by decide +kernel
theorem dX5_rule_39 : decode cX5_rule 39 = .ok (.invokespecial 78, 3) := by decide +kernel
theorem dX5_rule_42 : decode cX5_rule 42 = .ok (.athrow, 1) := by decide +kernel
theorem dX5_rule_43 : decode cX5_rule 43 = .ok (.aload_n 0, 1) := by decide +kernel
theorem dX5_rule_44 : decode cX5_rule 44 = .ok (.getfield 27, 3) := by decide +kernel
theorem dX5_rule_47 : decode cX5_rule 47 = .ok (.aload_n 0, 1) := by decide +kernel
theorem dX5_rule_48 : decode cX5_rule 48 = .ok (.getfield 20, 3) := by decide +kernel
theorem dX5_rule_51 : decode cX5_rule 51 = .ok (.invokevirtual 50, 3) := by decide +kernel
theorem dX5_rule_54 : decode cX5_rule 54 = .ok (.iload 6, 2) := by decide +kernel
theorem dX5_rule_56 : decode cX5_rule 56 = .ok (.iconst 4, 1) := by decide +kernel
theorem dX5_rule_57 : decode cX5_rule 57 = .ok (.imul, 1) := by decide +kernel
theorem dX5_rule_58 : decode cX5_rule 58 = .ok (.iload 4, 2) := by decide +kernel
theorem dX5_rule_60 : decode cX5_rule 60 = .ok (.iadd, 1) := by decide +kernel
theorem dX5_rule_61 : decode cX5_rule 61 = .ok (.istore 7, 2) := by decide +kernel
theorem dX5_rule_63 : decode cX5_rule 63 = .ok (.aload_n 0, 1) := by decide +kernel
theorem dX5_rule_64 : decode cX5_rule 64 = .ok (.getfield 20, 3) := by decide +kernel
theorem dX5_rule_67 : decode cX5_rule 67 = .ok (.getfield 115, 3) := by decide +kernel
theorem dX5_rule_70 : decode cX5_rule 70 = .ok (.iload 7, 2) := by decide +kernel
theorem dX5_rule_72 : decode cX5_rule 72 = .ok (.invokevirtual 66, 3) := by decide +kernel
theorem dX5_rule_75 : decode cX5_rule 75 = .ok (.istore 8, 2) := by decide +kernel
theorem dX5_rule_77 : decode cX5_rule 77 = .ok (.aload_n 0, 1) := by decide +kernel
theorem dX5_rule_78 : decode cX5_rule 78 = .ok (.getfield 20, 3) := by decide +kernel
theorem dX5_rule_81 : decode cX5_rule 81 = .ok (.getfield 115, 3) := by decide +kernel
theorem dX5_rule_84 : decode cX5_rule 84 = .ok (.iload 7, 2) := by decide +kernel
theorem dX5_rule_86 : decode cX5_rule 86 = .ok (.iload 5, 2) := by decide +kernel
theorem dX5_rule_88 : decode cX5_rule 88 = .ok (.invokevirtual 118, 3) := by decide +kernel
theorem dX5_rule_91 : decode cX5_rule 91 = .ok (.aload_n 0, 1) := by decide +kernel
theorem dX5_rule_92 : decode cX5_rule 92 = .ok (.getfield 12, 3) := by decide +kernel
theorem dX5_rule_95 : decode cX5_rule 95 = .ok (.invokevirtual 44, 3) := by decide +kernel
theorem dX5_rule_98 : decode cX5_rule 98 = .ok (.iload 8, 2) := by decide +kernel
theorem dX5_rule_100 : decode cX5_rule 100 = .ok (.ireturn, 1) := by decide +kernel
theorem dX5_set_0 : decode cX5_set 0 = .ok (.iload_n 1, 1) := by decide +kernel
theorem dX5_set_1 : decode cX5_set 1 = .ok (.iconst 1, 1) := by decide +kernel
theorem dX5_set_2 : decode cX5_set 2 = .ok (.bipush 60, 2) := by decide +kernel
theorem dX5_set_4 : decode cX5_set 4 = .ok (.invokestatic 112, 3) := by decide +kernel
theorem dX5_set_7 : decode cX5_set 7 = .ok (.aload_n 0, 1) := by decide +kernel
theorem dX5_set_8 : decode cX5_set 8 = .ok (.getfield 27, 3) := by decide +kernel
theorem dX5_set_11 : decode cX5_set 11 = .ok (.aload_n 0, 1) := by decide +kernel
theorem dX5_set_12 : decode cX5_set 12 = .ok (.getfield 20, 3) := by decide +kernel
theorem dX5_set_15 : decode cX5_set 15 = .ok (.invokevirtual 50, 3) := by decide +kernel
theorem dX5_set_18 : decode cX5_set 18 = .ok (.aload_n 0, 1) := by decide +kernel
theorem dX5_set_19 : decode cX5_set 19 = .ok (.getfield 20, 3) := by decide +kernel
theorem dX5_set_22 : decode cX5_set 22 = .ok (.getfield 121, 3) := by decide +kernel
theorem dX5_set_25 : decode cX5_set 25 = .ok (.istore_n 2, 1) := by decide +kernel
theorem dX5_set_26 : decode cX5_set 26 = .ok (.aload_n 0, 1) := by decide +kernel
theorem dX5_set_27 : decode cX5_set 27 = .ok (.getfield 20, 3) := by decide +kernel
theorem dX5_set_30 : decode cX5_set 30 = .ok (.iload_n 1, 1) := by decide +kernel
theorem dX5_set_31 : decode cX5_set 31 = .ok (.putfield 121, 3) := by decide +kernel
theorem dX5_set_34 : decode cX5_set 34 = .ok (.iload_n 2, 1) := by decide +kernel
theorem dX5_set_35 : decode cX5_set 35 = .ok (.ireturn, 1) := by decide +kernel
theorem dX5_undo_0 : decode cX5_undo 0 = .ok (.aload_n 0, 1) := by decide +kernel
theorem dX5_undo_1 : decode cX5_undo 1 = .ok (.getfield 27, 3) := by decide +kernel
theorem dX5_undo_4 : decode cX5_undo 4 = .ok (.getfield 145, 3) := by decide +kernel
theorem dX5_undo_7 : decode cX5_undo 7 = .ok (.ifCond .gt 11, 3) := by decide +kernel
theorem dX5_undo_10 : decode cX5_undo 10 = .ok (.new 76, 3) := by decide +kernel
theorem dX5_undo_13 : decode cX5_undo 13 = .ok (.dup, 1) := by decide +kernel
theorem dX5_undo_14 : decode cX5_undo 14 = .ok (.invokespecial 78, 3) := by decide +kernel
theorem dX5_undo_17 : decode cX5_undo 17 = .ok (.athrow, 1) := by decide +kernel
theorem dX5_undo_18 : decode cX5_undo 18 = .ok (.aload_n 0, 1) := by decide +kernel
theorem dX5_undo_19 : decode cX5_undo 19 = .ok (.getfield 27, 3) := by decide +kernel
theorem dX5_undo_22 : decode cX5_undo 22 = .ok (.aload_n 0, 1) := by decide +kernel
theorem dX5_undo_23 : decode cX5_undo 23 = .ok (.getfield 20, 3) := by decide +kernel
theorem dX5_undo_26 : decode cX5_undo 26 = .ok (.invokevirtual 148, 3) := by decide +kernel
theorem dX5_undo_29 : decode cX5_undo 29 = .ok (.aload_n 0, 1) := by decide +kernel
theorem dX5_undo_30 : decode cX5_undo 30 = .ok (.getfield 12, 3) := by decide +kernel
theorem dX5_undo_33 : decode cX5_undo 33 = .ok (.invokevirtual 44, 3) := by decide +kernel
theorem dX5_undo_36 : decode cX5_undo 36 = .ok (.aload_n 0, 1) := by decide +kernel
theorem dX5_undo_37 : decode cX5_undo 37 = .ok (.getfield 27, 3) := by decide +kernel
theorem dX5_undo_40 : decode cX5_undo 40 = .ok (.getfield 145, 3) := by decide +kernel
theorem dX5_undo_43 : decode cX5_undo 43 = .ok (.ireturn, 1) := by decide +kernel
theorem dX5_cell_0 : decode cX5_cell 0 = .ok (.aload_n 0, 1) := by decide +kernel
theorem dX5_cell_1 : decode cX5_cell 1 = .ok (.iload_n 1, 1) := by decide +kernel
theorem dX5_cell_2 : decode cX5_cell 2 = .ok (.iload_n 2, 1) := by decide +kernel
theorem dX5_cell_3 : decode cX5_cell 3 = .ok (.iload_n 3, 1) := by decide +kernel
theorem dX5_cell_4 : decode cX5_cell 4 = .ok (.invokevirtual 54, 3) := by decide +kernel
theorem dX5_cell_7 : decode cX5_cell 7 = .ok (.istore 5, 2) := by decide +kernel
theorem dX5_cell_9 : decode cX5_cell 9 = .ok (.iload 4, 2) := by decide +kernel
theorem dX5_cell_11 : decode cX5_cell 11 = .ok (.iconst 0, 1) := by decide +kernel
theorem dX5_cell_12 : decode cX5_cell 12 = .ok (.bipush 11, 2) := by decide +kernel
theorem dX5_cell_14 : decode cX5_cell 14 = .ok (.invokestatic 112, 3) := by decide +kernel
theorem dX5_cell_17 : decode cX5_cell 17 = .ok (.aload_n 0, 1) := by decide +kernel
theorem dX5_cell_18 : decode cX5_cell 18 = .ok (.iload 5, 2) := by decide +kernel
theorem dX5_cell_20 : decode cX5_cell 20 = .ok (.iload 4, 2) := by decide +kernel
theorem dX5_cell_22 : decode cX5_cell 22 = .ok (.invokevirtual 151, 3) := by decide +kernel
theorem dX5_cell_25 : decode cX5_cell 25 = .ok (.ireturn, 1) := by decide +kernel
theorem dX5_edge_0 : decode cX5_edge 0 = .ok (.aload_n 0, 1) := by decide +kernel
theorem dX5_edge_1 : decode cX5_edge 1 = .ok (.iload_n 1, 1) := by decide +kernel
theorem dX5_edge_2 : decode cX5_edge 2 = .ok (.iload_n 2, 1) := by decide +kernel
theorem dX5_edge_3 : decode cX5_edge 3 = .ok (.iload_n 3, 1) := by decide +kernel
theorem dX5_edge_4 : decode cX5_edge 4 = .ok (.invokevirtual 54, 3) := by decide +kernel
theorem dX5_edge_7 : decode cX5_edge 7 = .ok (.istore 5, 2) := by decide +kernel
theorem dX5_edge_9 : decode cX5_edge 9 = .ok (.iload 4, 2) := by decide +kernel
theorem dX5_edge_11 : decode cX5_edge 11 = .ok (.iconst 0, 1) := by decide +kernel
theorem dX5_edge_12 : decode cX5_edge 12 = .ok (.iconst 3, 1) := by decide +kernel
theorem dX5_edge_13 : decode cX5_edge 13 = .ok (.invokestatic 112, 3) := by decide +kernel
theorem dX5_edge_16 : decode cX5_edge 16 = .ok (.aload_n 0, 1) := by decide +kernel
theorem dX5_edge_17 : decode cX5_edge 17 = .ok (.getfield 12, 3) := by decide +kernel
theorem dX5_edge_20 : decode cX5_edge 20 = .ok (.getfield 155, 3) := by decide +kernel
theorem dX5_edge_23 : decode cX5_edge 23 = .ok (.iload 5, 2) := by decide +kernel
theorem dX5_edge_25 : decode cX5_edge 25 = .ok (.iconst 4, 1) := by decide +kernel
theorem dX5_edge_26 : decode cX5_edge 26 = .ok (.imul, 1) := by decide +kernel
theorem dX5_edge_27 : decode cX5_edge 27 = .ok (.iload 4, 2) := by decide +kernel
theorem dX5_edge_29 : decode cX5_edge 29 = .ok (.iadd, 1) := by decide +kernel
theorem dX5_edge_30 : decode cX5_edge 30 = .ok (.invokevirtual 66, 3) := by decide +kernel
theorem dX5_edge_33 : decode cX5_edge 33 = .ok (.ireturn, 1) := by decide +kernel
theorem dX5_table_0 : decode cX5_table 0 = .ok (.aload_n 0, 1) := by decide +kernel
theorem dX5_table_1 : decode cX5_table 1 = .ok (.iload_n 1, 1) := by decide +kernel
theorem dX5_table_2 : decode cX5_table 2 = .ok (.invokevirtual 158, 3) := by decide +kernel
theorem dX5_table_5 : decode cX5_table 5 = .ok (.iload_n 2, 1) := by decide +kernel
theorem dX5_table_6 : decode cX5_table 6 = .ok (.iconst 0, 1) := by decide +kernel
theorem dX5_table_7 : decode cX5_table 7 = .ok (.bipush 7, 2) := by decide +kernel
theorem dX5_table_9 : decode cX5_table 9 = .ok (.invokestatic 112, 3) := by decide +kernel
theorem dX5_table_12 : decode cX5_table 12 = .ok (.aload_n 0, 1) := by decide +kernel
theorem dX5_table_13 : decode cX5_table 13 = .ok (.iload_n 1, 1) := by decide +kernel
theorem dX5_table_14 : decode cX5_table 14 = .ok (.iload_n 2, 1) := by decide +kernel
theorem dX5_table_15 : decode cX5_table 15 = .ok (.invokevirtual 161, 3) := by decide +kernel
theorem dX5_table_18 : decode cX5_table 18 = .ok (.ireturn, 1) := by decide +kernel
theorem dX5_size_0 : decode cX5_size 0 = .ok (.aload_n 0, 1) := by decide +kernel
theorem dX5_size_1 : decode cX5_size 1 = .ok (.iload_n 1, 1) := by decide +kernel
theorem dX5_size_2 : decode cX5_size 2 = .ok (.invokevirtual 158, 3) := by decide +kernel
theorem dX5_size_5 : decode cX5_size 5 = .ok (.iload_n 2, 1) := by decide +kernel
theorem dX5_size_6 : decode cX5_size 6 = .ok (.ifCond .eq 7, 3) := by decide +kernel
theorem dX5_size_9 : decode cX5_size 9 = .ok (.iconst 1, 1) := by decide +kernel
theorem dX5_size_10 : decode cX5_size 10 = .ok (.goto 4, 3) := by decide +kernel
theorem dX5_size_13 : decode cX5_size 13 = .ok (.iconst 0, 1) := by decide +kernel
theorem dX5_size_14 : decode cX5_size 14 = .ok (.istore 4, 2) := by decide +kernel
theorem dX5_size_16 : decode cX5_size 16 = .ok (.iload_n 3, 1) := by decide +kernel
theorem dX5_size_17 : decode cX5_size 17 = .ok (.ifCond .lt 17, 3) := by decide +kernel
theorem dX5_size_20 : decode cX5_size 20 = .ok (.iload_n 3, 1) := by decide +kernel
theorem dX5_size_21 : decode cX5_size 21 = .ok (.aload_n 0, 1) := by decide +kernel
theorem dX5_size_22 : decode cX5_size 22 = .ok (.getfield 20, 3) := by decide +kernel
theorem dX5_size_25 : decode cX5_size 25 = .ok (.iload_n 1, 1) := by decide +kernel
theorem dX5_size_26 : decode cX5_size 26 = .ok (.iload 4, 2) := by decide +kernel
theorem dX5_size_28 : decode cX5_size 28 = .ok (.invokevirtual 164, 3) := by decide +kernel
theorem dX5_size_31 : decode cX5_size 31 = .ok (.if_icmp .lt 11, 3) := by decide +kernel
theorem dX5_size_34 : decode cX5_size 34 = .ok (.new 102, 3) := by decide +kernel
theorem dX5_size_37 : decode cX5_size 37 = .ok (.dup, 1) := by decide +kernel
theorem dX5_size_38 : decode cX5_size 38 = .ok (.invokespecial 104, 3) := by decide +kernel
theorem dX5_size_41 : decode cX5_size 41 = .ok (.athrow, 1) := by decide +kernel
theorem dX5_size_42 : decode cX5_size 42 = .ok (.aload_n 0, 1) := by decide +kernel
theorem dX5_size_43 : decode cX5_size 43 = .ok (.getfield 12, 3) := by decide +kernel
theorem dX5_size_46 : decode cX5_size 46 = .ok (.iload_n 1, 1) := by decide +kernel
theorem dX5_size_47 : decode cX5_size 47 = .ok (.iload 4, 2) := by decide +kernel
theorem dX5_size_49 : decode cX5_size 49 = .ok (.iload_n 3, 1) := by decide +kernel
theorem dX5_size_50 : decode cX5_size 50 = .ok (.invokevirtual 167, 3) := by decide +kernel
theorem dX5_size_53 : decode cX5_size 53 = .ok (.ireturn, 1) := by decide +kernel
theorem dX5_page_0 : decode cX5_page 0 = .ok (.iload_n 1, 1) := by decide +kernel
theorem dX5_page_1 : decode cX5_page 1 = .ok (.ifCond .lt 16, 3) := by decide +kernel
theorem dX5_page_4 : decode cX5_page 4 = .ok (.iload_n 1, 1) := by decide +kernel
theorem dX5_page_5 : decode cX5_page 5 = .ok (.aload_n 0, 1) := by decide +kernel
theorem dX5_page_6 : decode cX5_page 6 = .ok (.getfield 20, 3) := by decide +kernel
theorem dX5_page_9 : decode cX5_page 9 = .ok (.iconst 0, 1) := by decide +kernel
theorem dX5_page_10 : decode cX5_page 10 = .ok (.iconst 1, 1) := by decide +kernel
theorem dX5_page_11 : decode cX5_page 11 = .ok (.invokevirtual 164, 3) := by decide +kernel
theorem dX5_page_14 : decode cX5_page 14 = .ok (.if_icmp .lt 11, 3) := by decide +kernel
theorem dX5_page_17 : decode cX5_page 17 = .ok (.new 102, 3) := by decide +kernel
theorem dX5_page_20 : decode cX5_page 20 = .ok (.dup, 1) := by decide +kernel
theorem dX5_page_21 : decode cX5_page 21 = .ok (.invokespecial 104, 3) := by decide +kernel
theorem dX5_page_24 : decode cX5_page 24 = .ok (.athrow, 1) := by decide +kernel
theorem dX5_page_25 : decode cX5_page 25 = .ok (.aload_n 0, 1) := by decide +kernel
theorem dX5_page_26 : decode cX5_page 26 = .ok (.getfield 12, 3) := by decide +kernel
theorem dX5_page_29 : decode cX5_page 29 = .ok (.iload_n 1, 1) := by decide +kernel
theorem dX5_page_30 : decode cX5_page 30 = .ok (.aload_n 0, 1) := by decide +kernel
theorem dX5_page_31 : decode cX5_page 31 = .ok (.getfield 20, 3) := by decide +kernel
theorem dX5_page_34 : decode cX5_page 34 = .ok (.getfield 121, 3) := by decide +kernel
theorem dX5_page_37 : decode cX5_page 37 = .ok (.invokevirtual 170, 3) := by decide +kernel
theorem dX5_page_40 : decode cX5_page 40 = .ok (.ireturn, 1) := by decide +kernel
theorem dX5_count_0 : decode cX5_count 0 = .ok (.iload_n 1, 1) := by decide +kernel
theorem dX5_count_1 : decode cX5_count 1 = .ok (.iconst 0, 1) := by decide +kernel
theorem dX5_count_2 : decode cX5_count 2 = .ok (.bipush 12, 2) := by decide +kernel
theorem dX5_count_4 : decode cX5_count 4 = .ok (.invokestatic 112, 3) := by decide +kernel
theorem dX5_count_7 : decode cX5_count 7 = .ok (.iload_n 1, 1) := by decide +kernel
theorem dX5_count_8 : decode cX5_count 8 = .ok (.tableswitch 131 0 12 #[68, 76, 131, 131, 131, 131, 131, 131, 131, 84, 99, 107, 123], 68) := by decide +kernel
theorem dX5_count_76 : decode cX5_count 76 = .ok (.aload_n 0, 1) := by decide +kernel
theorem dX5_count_77 : decode cX5_count 77 = .ok (.getfield 20, 3) := by decide +kernel
theorem dX5_count_80 : decode cX5_count 80 = .ok (.getfield 72, 3) := by decide +kernel
theorem dX5_count_83 : decode cX5_count 83 = .ok (.ireturn, 1) := by decide +kernel
theorem dX5_count_84 : decode cX5_count 84 = .ok (.aload_n 0, 1) := by decide +kernel
theorem dX5_count_85 : decode cX5_count 85 = .ok (.getfield 20, 3) := by decide +kernel
theorem dX5_count_88 : decode cX5_count 88 = .ok (.invokevirtual 173, 3) := by decide +kernel
theorem dX5_count_91 : decode cX5_count 91 = .ok (.ireturn, 1) := by decide +kernel
theorem dX5_count_92 : decode cX5_count 92 = .ok (.aload_n 0, 1) := by decide +kernel
theorem dX5_count_93 : decode cX5_count 93 = .ok (.getfield 12, 3) := by decide +kernel
theorem dX5_count_96 : decode cX5_count 96 = .ok (.aload_n 0, 1) := by decide +kernel
theorem dX5_count_97 : decode cX5_count 97 = .ok (.getfield 20, 3) := by decide +kernel
theorem dX5_count_100 : decode cX5_count 100 = .ok (.getfield 121, 3) := by decide +kernel
theorem dX5_count_103 : decode cX5_count 103 = .ok (.invokevirtual 176, 3) := by decide +kernel
theorem dX5_count_106 : decode cX5_count 106 = .ok (.ireturn, 1) := by decide +kernel
theorem dX5_count_107 : decode cX5_count 107 = .ok (.aload_n 0, 1) := by decide +kernel
theorem dX5_count_108 : decode cX5_count 108 = .ok (.getfield 12, 3) := by decide +kernel
theorem dX5_count_111 : decode cX5_count 111 = .ok (.invokevirtual 179, 3) := by decide +kernel
theorem dX5_count_114 : decode cX5_count 114 = .ok (.ireturn, 1) := by decide +kernel
theorem dX5_count_115 : decode cX5_count 115 = .ok (.aload_n 0, 1) := by decide +kernel
theorem dX5_count_116 : decode cX5_count 116 = .ok (.getfield 20, 3) := by decide +kernel
theorem dX5_count_119 : decode cX5_count 119 = .ok (.invokevirtual 182, 3) := by decide +kernel
theorem dX5_count_122 : decode cX5_count 122 = .ok (.aload_n 0, 1) := by decide +kernel
theorem dX5_count_123 : decode cX5_count 123 = .ok (.getfield 20, 3) := by decide +kernel
theorem dX5_count_126 : decode cX5_count 126 = .ok (.invokevirtual 173, 3) := by decide +kernel
theorem dX5_count_129 : decode cX5_count 129 = .ok (.isub, 1) := by decide +kernel
theorem dX5_count_130 : decode cX5_count 130 = .ok (.ireturn, 1) := by decide +kernel
theorem dX5_count_131 : decode cX5_count 131 = .ok (.aload_n 0, 1) := by decide +kernel
theorem dX5_count_132 : decode cX5_count 132 = .ok (.getfield 27, 3) := by decide +kernel
theorem dX5_count_135 : decode cX5_count 135 = .ok (.getfield 145, 3) := by decide +kernel
theorem dX5_count_138 : decode cX5_count 138 = .ok (.ireturn, 1) := by decide +kernel
theorem dX5_count_139 : decode cX5_count 139 = .ok (.aload_n 0, 1) := by decide +kernel
theorem dX5_count_140 : decode cX5_count 140 = .ok (.getfield 20, 3) := by decide +kernel
theorem dX5_count_143 : decode cX5_count 143 = .ok (.iload_n 1, 1) := by decide +kernel
theorem dX5_count_144 : decode cX5_count 144 = .ok (.iconst 2, 1) := by decide +kernel
theorem dX5_count_145 : decode cX5_count 145 = .ok (.isub, 1) := by decide +kernel
theorem dX5_count_146 : decode cX5_count 146 = .ok (.invokevirtual 185, 3) := by decide +kernel
theorem dX5_count_149 : decode cX5_count 149 = .ok (.ireturn, 1) := by decide +kernel
theorem dX5_countedBy_0 : decode cX5_countedBy 0 = .ok (.aload_n 0, 1) := by decide +kernel
theorem dX5_countedBy_1 : decode cX5_countedBy 1 = .ok (.iload_n 1, 1) := by decide +kernel
theorem dX5_countedBy_2 : decode cX5_countedBy 2 = .ok (.iload_n 2, 1) := by decide +kernel
theorem dX5_countedBy_3 : decode cX5_countedBy 3 = .ok (.iload_n 3, 1) := by decide +kernel
theorem dX5_countedBy_4 : decode cX5_countedBy 4 = .ok (.invokevirtual 54, 3) := by decide +kernel
theorem dX5_countedBy_7 : decode cX5_countedBy 7 = .ok (.istore 4, 2) := by decide +kernel
theorem dX5_countedBy_9 : decode cX5_countedBy 9 = .ok (.aload_n 0, 1) := by decide +kernel
theorem dX5_countedBy_10 : decode cX5_countedBy 10 = .ok (.iload 4, 2) := by decide +kernel
theorem dX5_countedBy_12 : decode cX5_countedBy 12 = .ok (.invokevirtual 194, 3) := by decide +kernel
theorem dX5_countedBy_15 : decode cX5_countedBy 15 = .ok (.ireturn, 1) := by decide +kernel
theorem dX5_heightFor_0 : decode cX5_heightFor 0 = .ok (.iload_n 1, 1) := by decide +kernel
theorem dX5_heightFor_1 : decode cX5_heightFor 1 = .ok (.iconst 1, 1) := by decide +kernel
theorem dX5_heightFor_2 : decode cX5_heightFor 2 = .ok (.iconst 5, 1) := by decide +kernel
theorem dX5_heightFor_3 : decode cX5_heightFor 3 = .ok (.invokestatic 112, 3) := by decide +kernel
theorem dX5_heightFor_6 : decode cX5_heightFor 6 = .ok (.iconst 1, 1) := by decide +kernel
theorem dX5_heightFor_7 : decode cX5_heightFor 7 = .ok (.istore_n 2, 1) := by decide +kernel
theorem dX5_heightFor_8 : decode cX5_heightFor 8 = .ok (.iload_n 2, 1) := by decide +kernel
theorem dX5_heightFor_9 : decode cX5_heightFor 9 = .ok (.bipush 60, 2) := by decide +kernel
theorem dX5_heightFor_11 : decode cX5_heightFor 11 = .ok (.if_icmp .gt 23, 3) := by decide +kernel
theorem dX5_heightFor_14 : decode cX5_heightFor 14 = .ok (.aload_n 0, 1) := by decide +kernel
theorem dX5_heightFor_15 : decode cX5_heightFor 15 = .ok (.getfield 12, 3) := by decide +kernel
theorem dX5_heightFor_18 : decode cX5_heightFor 18 = .ok (.iload_n 2, 1) := by decide +kernel
theorem dX5_heightFor_19 : decode cX5_heightFor 19 = .ok (.invokevirtual 176, 3) := by decide +kernel
theorem dX5_heightFor_22 : decode cX5_heightFor 22 = .ok (.iload_n 1, 1) := by decide +kernel
theorem dX5_heightFor_23 : decode cX5_heightFor 23 = .ok (.if_icmp .gt 5, 3) := by decide +kernel
theorem dX5_heightFor_26 : decode cX5_heightFor 26 = .ok (.iload_n 2, 1) := by decide +kernel
theorem dX5_heightFor_27 : decode cX5_heightFor 27 = .ok (.ireturn, 1) := by decide +kernel
theorem dX5_heightFor_28 : decode cX5_heightFor 28 = .ok (.iinc 2 1, 3) := by decide +kernel
theorem dX5_heightFor_31 : decode cX5_heightFor 31 = .ok (.goto (-23), 3) := by decide +kernel
theorem dX5_heightFor_34 : decode cX5_heightFor 34 = .ok (.iconst (-1), 1) := by decide +kernel
theorem dX5_heightFor_35 : decode cX5_heightFor 35 = .ok (.ireturn, 1) := by decide +kernel
theorem dX5_filledShare_0 : decode cX5_filledShare 0 = .ok (.aload_n 0, 1) := by decide +kernel
theorem dX5_filledShare_1 : decode cX5_filledShare 1 = .ok (.getfield 20, 3) := by decide +kernel
theorem dX5_filledShare_4 : decode cX5_filledShare 4 = .ok (.invokevirtual 173, 3) := by decide +kernel
theorem dX5_filledShare_7 : decode cX5_filledShare 7 = .ok (.istore_n 1, 1) := by decide +kernel
theorem dX5_filledShare_8 : decode cX5_filledShare 8 = .ok (.iload_n 1, 1) := by decide +kernel
theorem dX5_filledShare_9 : decode cX5_filledShare 9 = .ok (.aload_n 0, 1) := by decide +kernel
theorem dX5_filledShare_10 : decode cX5_filledShare 10 = .ok (.getfield 20, 3) := by decide +kernel
theorem dX5_filledShare_13 : decode cX5_filledShare 13 = .ok (.iconst 0, 1) := by decide +kernel
theorem dX5_filledShare_14 : decode cX5_filledShare 14 = .ok (.invokevirtual 185, 3) := by decide +kernel
theorem dX5_filledShare_17 : decode cX5_filledShare 17 = .ok (.isub, 1) := by decide +kernel
theorem dX5_filledShare_18 : decode cX5_filledShare 18 = .ok (.istore_n 2, 1) := by decide +kernel
theorem dX5_filledShare_19 : decode cX5_filledShare 19 = .ok (.iload_n 1, 1) := by decide +kernel
theorem dX5_filledShare_20 : decode cX5_filledShare 20 = .ok (.ifCond .le 11, 3) := by decide +kernel
theorem dX5_filledShare_23 : decode cX5_filledShare 23 = .ok (.iload_n 2, 1) := by decide +kernel
theorem dX5_filledShare_24 : decode cX5_filledShare 24 = .ok (.i2d, 1) := by decide +kernel
theorem dX5_filledShare_25 : decode cX5_filledShare 25 = .ok (.iload_n 1, 1) := by decide +kernel
theorem dX5_filledShare_26 : decode cX5_filledShare 26 = .ok (.i2d, 1) := by decide +kernel
theorem dX5_filledShare_27 : decode cX5_filledShare 27 = .ok (.ddiv, 1) := by decide +kernel
theorem dX5_filledShare_28 : decode cX5_filledShare 28 = .ok (.goto 4, 3) := by decide +kernel
theorem dX5_filledShare_31 : decode cX5_filledShare 31 = .ok (.dconst 0, 1) := by decide +kernel
theorem dX5_filledShare_32 : decode cX5_filledShare 32 = .ok (.dreturn, 1) := by decide +kernel
theorem dX5_isBetween_0 : decode cX5_isBetween 0 = .ok (.iload_n 0, 1) := by decide +kernel
theorem dX5_isBetween_1 : decode cX5_isBetween 1 = .ok (.iload_n 1, 1) := by decide +kernel
theorem dX5_isBetween_2 : decode cX5_isBetween 2 = .ok (.if_icmp .lt 12, 3) := by decide +kernel
theorem dX5_isBetween_5 : decode cX5_isBetween 5 = .ok (.iload_n 0, 1) := by decide +kernel
theorem dX5_isBetween_6 : decode cX5_isBetween 6 = .ok (.iload_n 2, 1) := by decide +kernel
theorem dX5_isBetween_7 : decode cX5_isBetween 7 = .ok (.if_icmp .gt 7, 3) := by decide +kernel
theorem dX5_isBetween_10 : decode cX5_isBetween 10 = .ok (.iconst 1, 1) := by decide +kernel
theorem dX5_isBetween_11 : decode cX5_isBetween 11 = .ok (.goto 4, 3) := by decide +kernel
theorem dX5_isBetween_14 : decode cX5_isBetween 14 = .ok (.iconst 0, 1) := by decide +kernel
theorem dX5_isBetween_15 : decode cX5_isBetween 15 = .ok (.ireturn, 1) := by decide +kernel
theorem dX5_requireBetween_0 : decode cX5_requireBetween 0 = .ok (.iload_n 0, 1) := by decide +kernel
theorem dX5_requireBetween_1 : decode cX5_requireBetween 1 = .ok (.iload_n 1, 1) := by decide +kernel
theorem dX5_requireBetween_2 : decode cX5_requireBetween 2 = .ok (.iload_n 2, 1) := by decide +kernel
theorem dX5_requireBetween_3 : decode cX5_requireBetween 3 = .ok (.invokestatic 95, 3) := by decide +kernel
theorem dX5_requireBetween_6 : decode cX5_requireBetween 6 = .ok (.ifCond .ne 11, 3) := by decide +kernel
theorem dX5_requireBetween_9 : decode cX5_requireBetween 9 = .ok (.new 86, 3) := by decide +kernel
theorem dX5_requireBetween_12 : decode cX5_requireBetween 12 = .ok (.dup, 1) := by decide +kernel
theorem dX5_requireBetween_13 : decode cX5_requireBetween 13 = .ok (.invokespecial 88, 3) := by decide +kernel
theorem dX5_requireBetween_16 : decode cX5_requireBetween 16 = .ok (.athrow, 1) := by decide +kernel
theorem dX5_requireBetween_17 : decode cX5_requireBetween 17 = .ok (.return_, 1) := by decide +kernel
theorem dX5_requireLines_0 : decode cX5_requireLines 0 = .ok (.iload_n 0, 1) := by decide +kernel
theorem dX5_requireLines_1 : decode cX5_requireLines 1 = .ok (.iconst 1, 1) := by decide +kernel
theorem dX5_requireLines_2 : decode cX5_requireLines 2 = .ok (.iconst 5, 1) := by decide +kernel
theorem dX5_requireLines_3 : decode cX5_requireLines 3 = .ok (.invokestatic 112, 3) := by decide +kernel
theorem dX5_requireLines_6 : decode cX5_requireLines 6 = .ok (.iload_n 1, 1) := by decide +kernel
theorem dX5_requireLines_7 : decode cX5_requireLines 7 = .ok (.iconst 1, 1) := by decide +kernel
theorem dX5_requireLines_8 : decode cX5_requireLines 8 = .ok (.iconst 5, 1) := by decide +kernel
theorem dX5_requireLines_9 : decode cX5_requireLines 9 = .ok (.invokestatic 112, 3) := by decide +kernel
theorem dX5_requireLines_12 : decode cX5_requireLines 12 = .ok (.return_, 1) := by decide +kernel
theorem dX5_requireTable_0 : decode cX5_requireTable 0 = .ok (.aload_n 0, 1) := by decide +kernel
theorem dX5_requireTable_1 : decode cX5_requireTable 1 = .ok (.getfield 20, 3) := by decide +kernel
theorem dX5_requireTable_4 : decode cX5_requireTable 4 = .ok (.iload_n 1, 1) := by decide +kernel
theorem dX5_requireTable_5 : decode cX5_requireTable 5 = .ok (.invokevirtual 229, 3) := by decide +kernel
theorem dX5_requireTable_8 : decode cX5_requireTable 8 = .ok (.ifCond .ne 11, 3) := by decide +kernel
theorem dX5_requireTable_11 : decode cX5_requireTable 11 = .ok (.new 102, 3) := by decide +kernel
theorem dX5_requireTable_14 : decode cX5_requireTable 14 = .ok (.dup, 1) := by decide +kernel
theorem dX5_requireTable_15 : decode cX5_requireTable 15 = .ok (.invokespecial 104, 3) := by decide +kernel
theorem dX5_requireTable_18 : decode cX5_requireTable 18 = .ok (.athrow, 1) := by decide +kernel
theorem dX5_requireTable_19 : decode cX5_requireTable 19 = .ok (.return_, 1) := by decide +kernel
theorem dX5_requireSquare_0 : decode cX5_requireSquare 0 = .ok (.aload_n 0, 1) := by decide +kernel
theorem dX5_requireSquare_1 : decode cX5_requireSquare 1 = .ok (.getfield 20, 3) := by decide +kernel
theorem dX5_requireSquare_4 : decode cX5_requireSquare 4 = .ok (.iload_n 1, 1) := by decide +kernel
theorem dX5_requireSquare_5 : decode cX5_requireSquare 5 = .ok (.iload_n 2, 1) := by decide +kernel
theorem dX5_requireSquare_6 : decode cX5_requireSquare 6 = .ok (.iload_n 3, 1) := by decide +kernel
theorem dX5_requireSquare_7 : decode cX5_requireSquare 7 = .ok (.invokevirtual 99, 3) := by decide +kernel
theorem dX5_requireSquare_10 : decode cX5_requireSquare 10 = .ok (.istore 4, 2) := by decide +kernel
theorem dX5_requireSquare_12 : decode cX5_requireSquare 12 = .ok (.iload 4, 2) := by decide +kernel
theorem dX5_requireSquare_14 : decode cX5_requireSquare 14 = .ok (.iconst (-1), 1) := by decide +kernel
theorem dX5_requireSquare_15 : decode cX5_requireSquare 15 = .ok (.if_icmp .ne 11, 3) := by decide +kernel
theorem dX5_requireSquare_18 : decode cX5_requireSquare 18 = .ok (.new 102, 3) := by decide +kernel
theorem dX5_requireSquare_21 : decode cX5_requireSquare 21 = .ok (.dup, 1) := by decide +kernel
theorem dX5_requireSquare_22 : decode cX5_requireSquare 22 = .ok (.invokespecial 104, 3) := by decide +kernel
theorem dX5_requireSquare_25 : decode cX5_requireSquare 25 = .ok (.athrow, 1) := by decide +kernel
theorem dX5_requireSquare_26 : decode cX5_requireSquare 26 = .ok (.iload 4, 2) := by decide +kernel
theorem dX5_requireSquare_28 : decode cX5_requireSquare 28 = .ok (.ireturn, 1) := by decide +kernel
theorem dX5_isContent_0 : decode cX5_isContent 0 = .ok (.iload_n 0, 1) := by decide +kernel
theorem dX5_isContent_1 : decode cX5_isContent 1 = .ok (.lookupswitch 46 #[(1, 27), (2, 38)], 27) := by decide +kernel
theorem dX5_isContent_28 : decode cX5_isContent 28 = .ok (.iload_n 1, 1) := by decide +kernel
theorem dX5_isContent_29 : decode cX5_isContent 29 = .ok (.sipush (-999), 3) := by decide +kernel
theorem dX5_isContent_32 : decode cX5_isContent 32 = .ok (.sipush 999, 3) := by decide +kernel
theorem dX5_isContent_35 : decode cX5_isContent 35 = .ok (.invokestatic 95, 3) := by decide +kernel
theorem dX5_isContent_38 : decode cX5_isContent 38 = .ok (.ireturn, 1) := by decide +kernel
theorem dX5_isContent_39 : decode cX5_isContent 39 = .ok (.iload_n 1, 1) := by decide +kernel
theorem dX5_isContent_40 : decode cX5_isContent 40 = .ok (.iconst 1, 1) := by decide +kernel
theorem dX5_isContent_41 : decode cX5_isContent 41 = .ok (.bipush 12, 2) := by decide +kernel
theorem dX5_isContent_43 : decode cX5_isContent 43 = .ok (.invokestatic 95, 3) := by decide +kernel
theorem dX5_isContent_46 : decode cX5_isContent 46 = .ok (.ireturn, 1) := by decide +kernel
theorem dX5_isContent_47 : decode cX5_isContent 47 = .ok (.iload_n 0, 1) := by decide +kernel
theorem dX5_isContent_48 : decode cX5_isContent 48 = .ok (.ifCond .eq 10, 3) := by decide +kernel
theorem dX5_isContent_51 : decode cX5_isContent 51 = .ok (.iload_n 0, 1) := by decide +kernel
theorem dX5_isContent_52 : decode cX5_isContent 52 = .ok (.invokestatic 232, 3) := by decide +kernel
theorem dX5_isContent_55 : decode cX5_isContent 55 = .ok (.ifCond .eq 7, 3) := by decide +kernel
theorem dX5_isContent_58 : decode cX5_isContent 58 = .ok (.iconst 1, 1) := by decide +kernel
theorem dX5_isContent_59 : decode cX5_isContent 59 = .ok (.goto 4, 3) := by decide +kernel
theorem dX5_isContent_62 : decode cX5_isContent 62 = .ok (.iconst 0, 1) := by decide +kernel
theorem dX5_isContent_63 : decode cX5_isContent 63 = .ok (.ireturn, 1) := by decide +kernel
theorem dX5_isSum_0 : decode cX5_isSum 0 = .ok (.iload_n 0, 1) := by decide +kernel
theorem dX5_isSum_1 : decode cX5_isSum 1 = .ok (.iconst 4, 1) := by decide +kernel
theorem dX5_isSum_2 : decode cX5_isSum 2 = .ok (.if_icmp .eq 14, 3) := by decide +kernel
theorem dX5_isSum_5 : decode cX5_isSum 5 = .ok (.iload_n 0, 1) := by decide +kernel
theorem dX5_isSum_6 : decode cX5_isSum 6 = .ok (.iconst 5, 1) := by decide +kernel
theorem dX5_isSum_7 : decode cX5_isSum 7 = .ok (.if_icmp .eq 9, 3) := by decide +kernel
theorem dX5_isSum_10 : decode cX5_isSum 10 = .ok (.iload_n 0, 1) := by decide +kernel
theorem dX5_isSum_11 : decode cX5_isSum 11 = .ok (.bipush 6, 2) := by decide +kernel
theorem dX5_isSum_13 : decode cX5_isSum 13 = .ok (.if_icmp .ne 7, 3) := by decide +kernel
theorem dX5_isSum_16 : decode cX5_isSum 16 = .ok (.iconst 1, 1) := by decide +kernel
theorem dX5_isSum_17 : decode cX5_isSum 17 = .ok (.goto 4, 3) := by decide +kernel
theorem dX5_isSum_20 : decode cX5_isSum 20 = .ok (.iconst 0, 1) := by decide +kernel
theorem dX5_isSum_21 : decode cX5_isSum 21 = .ok (.ireturn, 1) := by decide +kernel
theorem dX5_cellProperty_0 : decode cX5_cellProperty 0 = .ok (.aload_n 0, 1) := by decide +kernel
theorem dX5_cellProperty_1 : decode cX5_cellProperty 1 = .ok (.getfield 20, 3) := by decide +kernel
theorem dX5_cellProperty_4 : decode cX5_cellProperty 4 = .ok (.iload_n 1, 1) := by decide +kernel
theorem dX5_cellProperty_5 : decode cX5_cellProperty 5 = .ok (.invokevirtual 58, 3) := by decide +kernel
theorem dX5_cellProperty_8 : decode cX5_cellProperty 8 = .ok (.ifCond .ne 5, 3) := by decide +kernel
theorem dX5_cellProperty_11 : decode cX5_cellProperty 11 = .ok (.iconst (-1), 1) := by decide +kernel
theorem dX5_cellProperty_12 : decode cX5_cellProperty 12 = .ok (.ireturn, 1) := by decide +kernel
theorem dX5_cellProperty_13 : decode cX5_cellProperty 13 = .ok (.iload_n 2, 1) := by decide +kernel
theorem dX5_cellProperty_14 : decode cX5_cellProperty 14 = .ok (.tableswitch 143 0 7 #[46, 58, 70, 82, 92, 102, 118, 134], 46) := by decide +kernel
theorem dX5_cellProperty_60 : decode cX5_cellProperty 60 = .ok (.aload_n 0, 1) := by decide +kernel
theorem dX5_cellProperty_61 : decode cX5_cellProperty 61 = .ok (.getfield 20, 3) := by decide +kernel
theorem dX5_cellProperty_64 : decode cX5_cellProperty 64 = .ok (.getfield 62, 3) := by decide +kernel
theorem dX5_cellProperty_67 : decode cX5_cellProperty 67 = .ok (.iload_n 1, 1) := by decide +kernel
theorem dX5_cellProperty_68 : decode cX5_cellProperty 68 = .ok (.invokevirtual 66, 3) := by decide +kernel
theorem dX5_cellProperty_71 : decode cX5_cellProperty 71 = .ok (.ireturn, 1) := by decide +kernel
theorem dX5_cellProperty_72 : decode cX5_cellProperty 72 = .ok (.aload_n 0, 1) := by decide +kernel
theorem dX5_cellProperty_73 : decode cX5_cellProperty 73 = .ok (.getfield 12, 3) := by decide +kernel
theorem dX5_cellProperty_76 : decode cX5_cellProperty 76 = .ok (.getfield 250, 3) := by decide +kernel
theorem dX5_cellProperty_79 : decode cX5_cellProperty 79 = .ok (.iload_n 1, 1) := by decide +kernel
theorem dX5_cellProperty_80 : decode cX5_cellProperty 80 = .ok (.invokevirtual 66, 3) := by decide +kernel
theorem dX5_cellProperty_83 : decode cX5_cellProperty 83 = .ok (.ireturn, 1) := by decide +kernel
theorem dX5_cellProperty_84 : decode cX5_cellProperty 84 = .ok (.aload_n 0, 1) := by decide +kernel
theorem dX5_cellProperty_85 : decode cX5_cellProperty 85 = .ok (.getfield 12, 3) := by decide +kernel
theorem dX5_cellProperty_88 : decode cX5_cellProperty 88 = .ok (.getfield 253, 3) := by decide +kernel
theorem dX5_cellProperty_91 : decode cX5_cellProperty 91 = .ok (.iload_n 1, 1) := by decide +kernel
theorem dX5_cellProperty_92 : decode cX5_cellProperty 92 = .ok (.invokevirtual 66, 3) := by decide +kernel
theorem dX5_cellProperty_95 : decode cX5_cellProperty 95 = .ok (.ireturn, 1) := by decide +kernel
theorem dX5_cellProperty_96 : decode cX5_cellProperty 96 = .ok (.aload_n 0, 1) := by decide +kernel
theorem dX5_cellProperty_97 : decode cX5_cellProperty 97 = .ok (.getfield 20, 3) := by decide +kernel
theorem dX5_cellProperty_100 : decode cX5_cellProperty 100 = .ok (.iload_n 1, 1) := by decide +kernel
theorem dX5_cellProperty_101 : decode cX5_cellProperty 101 = .ok (.iconst 1, 1) := by decide +kernel
theorem dX5_cellProperty_102 : decode cX5_cellProperty 102 = .ok (.invokevirtual 256, 3) := by decide +kernel
theorem dX5_cellProperty_105 : decode cX5_cellProperty 105 = .ok (.ireturn, 1) := by decide +kernel
theorem dX5_cellProperty_106 : decode cX5_cellProperty 106 = .ok (.aload_n 0, 1) := by decide +kernel
theorem dX5_cellProperty_107 : decode cX5_cellProperty 107 = .ok (.getfield 20, 3) := by decide +kernel
theorem dX5_cellProperty_110 : decode cX5_cellProperty 110 = .ok (.iload_n 1, 1) := by decide +kernel
theorem dX5_cellProperty_111 : decode cX5_cellProperty 111 = .ok (.iconst 0, 1) := by decide +kernel
theorem dX5_cellProperty_112 : decode cX5_cellProperty 112 = .ok (.invokevirtual 256, 3) := by decide +kernel
theorem dX5_cellProperty_115 : decode cX5_cellProperty 115 = .ok (.ireturn, 1) := by decide +kernel
theorem dX5_cellProperty_116 : decode cX5_cellProperty 116 = .ok (.aload_n 0, 1) := by decide +kernel
theorem dX5_cellProperty_117 : decode cX5_cellProperty 117 = .ok (.getfield 12, 3) := by decide +kernel
theorem dX5_cellProperty_120 : decode cX5_cellProperty 120 = .ok (.getfield 259, 3) := by decide +kernel
theorem dX5_cellProperty_123 : decode cX5_cellProperty 123 = .ok (.iload_n 1, 1) := by decide +kernel
theorem dX5_cellProperty_124 : decode cX5_cellProperty 124 = .ok (.iconst 2, 1) := by decide +kernel
theorem dX5_cellProperty_125 : decode cX5_cellProperty 125 = .ok (.imul, 1) := by decide +kernel
theorem dX5_cellProperty_126 : decode cX5_cellProperty 126 = .ok (.iconst 0, 1) := by decide +kernel
theorem dX5_cellProperty_127 : decode cX5_cellProperty 127 = .ok (.iadd, 1) := by decide +kernel
theorem dX5_cellProperty_128 : decode cX5_cellProperty 128 = .ok (.invokevirtual 66, 3) := by decide +kernel
theorem dX5_cellProperty_131 : decode cX5_cellProperty 131 = .ok (.ireturn, 1) := by decide +kernel
theorem dX5_cellProperty_132 : decode cX5_cellProperty 132 = .ok (.aload_n 0, 1) := by decide +kernel
theorem dX5_cellProperty_133 : decode cX5_cellProperty 133 = .ok (.getfield 12, 3) := by decide +kernel
theorem dX5_cellProperty_136 : decode cX5_cellProperty 136 = .ok (.getfield 259, 3) := by decide +kernel
theorem dX5_cellProperty_139 : decode cX5_cellProperty 139 = .ok (.iload_n 1, 1) := by decide +kernel
theorem dX5_cellProperty_140 : decode cX5_cellProperty 140 = .ok (.iconst 2, 1) := by decide +kernel
theorem dX5_cellProperty_141 : decode cX5_cellProperty 141 = .ok (.imul, 1) := by decide +kernel
theorem dX5_cellProperty_142 : decode cX5_cellProperty 142 = .ok (.iconst 1, 1) := by decide +kernel
theorem dX5_cellProperty_143 : decode cX5_cellProperty 143 = .ok (.iadd, 1) := by decide +kernel
theorem dX5_cellProperty_144 : decode cX5_cellProperty 144 = .ok (.invokevirtual 66, 3) := by decide +kernel
theorem dX5_cellProperty_147 : decode cX5_cellProperty 147 = .ok (.ireturn, 1) := by decide +kernel
theorem dX5_cellProperty_148 : decode cX5_cellProperty 148 = .ok (.aload_n 0, 1) := by decide +kernel
theorem dX5_cellProperty_149 : decode cX5_cellProperty 149 = .ok (.getfield 20, 3) := by decide +kernel
theorem dX5_cellProperty_152 : decode cX5_cellProperty 152 = .ok (.iload_n 1, 1) := by decide +kernel
theorem dX5_cellProperty_153 : decode cX5_cellProperty 153 = .ok (.invokevirtual 262, 3) := by decide +kernel
theorem dX5_cellProperty_156 : decode cX5_cellProperty 156 = .ok (.ireturn, 1) := by decide +kernel
theorem dX5_cellProperty_157 : decode cX5_cellProperty 157 = .ok (.aload_n 0, 1) := by decide +kernel
theorem dX5_cellProperty_158 : decode cX5_cellProperty 158 = .ok (.getfield 12, 3) := by decide +kernel
theorem dX5_cellProperty_161 : decode cX5_cellProperty 161 = .ok (.getfield 265, 3) := by decide +kernel
theorem dX5_cellProperty_164 : decode cX5_cellProperty 164 = .ok (.iload_n 1, 1) := by decide +kernel
theorem dX5_cellProperty_165 : decode cX5_cellProperty 165 = .ok (.iconst 4, 1) := by decide +kernel
theorem dX5_cellProperty_166 : decode cX5_cellProperty 166 = .ok (.imul, 1) := by decide +kernel
theorem dX5_cellProperty_167 : decode cX5_cellProperty 167 = .ok (.iload_n 2, 1) := by decide +kernel
theorem dX5_cellProperty_168 : decode cX5_cellProperty 168 = .ok (.iadd, 1) := by decide +kernel
theorem dX5_cellProperty_169 : decode cX5_cellProperty 169 = .ok (.bipush 8, 2) := by decide +kernel
theorem dX5_cellProperty_171 : decode cX5_cellProperty 171 = .ok (.isub, 1) := by decide +kernel
theorem dX5_cellProperty_172 : decode cX5_cellProperty 172 = .ok (.invokevirtual 66, 3) := by decide +kernel
theorem dX5_cellProperty_175 : decode cX5_cellProperty 175 = .ok (.ireturn, 1) := by decide +kernel
theorem dX5_tableProperty_0 : decode cX5_tableProperty 0 = .ok (.iload_n 2, 1) := by decide +kernel
theorem dX5_tableProperty_1 : decode cX5_tableProperty 1 = .ok (.tableswitch 139 0 6 #[43, 53, 63, 75, 91, 107, 123], 43) := by decide +kernel
theorem dX5_tableProperty_44 : decode cX5_tableProperty 44 = .ok (.aload_n 0, 1) := by decide +kernel
theorem dX5_tableProperty_45 : decode cX5_tableProperty 45 = .ok (.getfield 20, 3) := by decide +kernel
theorem dX5_tableProperty_48 : decode cX5_tableProperty 48 = .ok (.iload_n 1, 1) := by decide +kernel
theorem dX5_tableProperty_49 : decode cX5_tableProperty 49 = .ok (.iconst 1, 1) := by decide +kernel
theorem dX5_tableProperty_50 : decode cX5_tableProperty 50 = .ok (.invokevirtual 164, 3) := by decide +kernel
theorem dX5_tableProperty_53 : decode cX5_tableProperty 53 = .ok (.ireturn, 1) := by decide +kernel
theorem dX5_tableProperty_54 : decode cX5_tableProperty 54 = .ok (.aload_n 0, 1) := by decide +kernel
theorem dX5_tableProperty_55 : decode cX5_tableProperty 55 = .ok (.getfield 20, 3) := by decide +kernel
theorem dX5_tableProperty_58 : decode cX5_tableProperty 58 = .ok (.iload_n 1, 1) := by decide +kernel
theorem dX5_tableProperty_59 : decode cX5_tableProperty 59 = .ok (.iconst 0, 1) := by decide +kernel
theorem dX5_tableProperty_60 : decode cX5_tableProperty 60 = .ok (.invokevirtual 164, 3) := by decide +kernel
theorem dX5_tableProperty_63 : decode cX5_tableProperty 63 = .ok (.ireturn, 1) := by decide +kernel
theorem dX5_tableProperty_64 : decode cX5_tableProperty 64 = .ok (.aload_n 0, 1) := by decide +kernel
theorem dX5_tableProperty_65 : decode cX5_tableProperty 65 = .ok (.getfield 12, 3) := by decide +kernel
theorem dX5_tableProperty_68 : decode cX5_tableProperty 68 = .ok (.getfield 266, 3) := by decide +kernel
theorem dX5_tableProperty_71 : decode cX5_tableProperty 71 = .ok (.iload_n 1, 1) := by decide +kernel
theorem dX5_tableProperty_72 : decode cX5_tableProperty 72 = .ok (.invokevirtual 66, 3) := by decide +kernel
theorem dX5_tableProperty_75 : decode cX5_tableProperty 75 = .ok (.ireturn, 1) := by decide +kernel
theorem dX5_tableProperty_76 : decode cX5_tableProperty 76 = .ok (.aload_n 0, 1) := by decide +kernel
theorem dX5_tableProperty_77 : decode cX5_tableProperty 77 = .ok (.getfield 12, 3) := by decide +kernel
theorem dX5_tableProperty_80 : decode cX5_tableProperty 80 = .ok (.getfield 269, 3) := by decide +kernel
theorem dX5_tableProperty_83 : decode cX5_tableProperty 83 = .ok (.iload_n 1, 1) := by decide +kernel
theorem dX5_tableProperty_84 : decode cX5_tableProperty 84 = .ok (.iconst 2, 1) := by decide +kernel
theorem dX5_tableProperty_85 : decode cX5_tableProperty 85 = .ok (.imul, 1) := by decide +kernel
theorem dX5_tableProperty_86 : decode cX5_tableProperty 86 = .ok (.iconst 0, 1) := by decide +kernel
theorem dX5_tableProperty_87 : decode cX5_tableProperty 87 = .ok (.iadd, 1) := by decide +kernel
theorem dX5_tableProperty_88 : decode cX5_tableProperty 88 = .ok (.invokevirtual 66, 3) := by decide +kernel
theorem dX5_tableProperty_91 : decode cX5_tableProperty 91 = .ok (.ireturn, 1) := by decide +kernel
theorem dX5_tableProperty_92 : decode cX5_tableProperty 92 = .ok (.aload_n 0, 1) := by decide +kernel
theorem dX5_tableProperty_93 : decode cX5_tableProperty 93 = .ok (.getfield 12, 3) := by decide +kernel
theorem dX5_tableProperty_96 : decode cX5_tableProperty 96 = .ok (.getfield 269, 3) := by decide +kernel
theorem dX5_tableProperty_99 : decode cX5_tableProperty 99 = .ok (.iload_n 1, 1) := by decide +kernel
theorem dX5_tableProperty_100 : decode cX5_tableProperty 100 = .ok (.iconst 2, 1) := by decide +kernel
theorem dX5_tableProperty_101 : decode cX5_tableProperty 101 = .ok (.imul, 1) := by decide +kernel
theorem dX5_tableProperty_102 : decode cX5_tableProperty 102 = .ok (.iconst 1, 1) := by decide +kernel
theorem dX5_tableProperty_103 : decode cX5_tableProperty 103 = .ok (.iadd, 1) := by decide +kernel
theorem dX5_tableProperty_104 : decode cX5_tableProperty 104 = .ok (.invokevirtual 66, 3) := by decide +kernel
theorem dX5_tableProperty_107 : decode cX5_tableProperty 107 = .ok (.ireturn, 1) := by decide +kernel
theorem dX5_tableProperty_108 : decode cX5_tableProperty 108 = .ok (.aload_n 0, 1) := by decide +kernel
theorem dX5_tableProperty_109 : decode cX5_tableProperty 109 = .ok (.getfield 12, 3) := by decide +kernel
theorem dX5_tableProperty_112 : decode cX5_tableProperty 112 = .ok (.getfield 272, 3) := by decide +kernel
theorem dX5_tableProperty_115 : decode cX5_tableProperty 115 = .ok (.iload_n 1, 1) := by decide +kernel
theorem dX5_tableProperty_116 : decode cX5_tableProperty 116 = .ok (.iconst 2, 1) := by decide +kernel
theorem dX5_tableProperty_117 : decode cX5_tableProperty 117 = .ok (.imul, 1) := by decide +kernel
theorem dX5_tableProperty_118 : decode cX5_tableProperty 118 = .ok (.iconst 0, 1) := by decide +kernel
theorem dX5_tableProperty_119 : decode cX5_tableProperty 119 = .ok (.iadd, 1) := by decide +kernel
theorem dX5_tableProperty_120 : decode cX5_tableProperty 120 = .ok (.invokevirtual 66, 3) := by decide +kernel
theorem dX5_tableProperty_123 : decode cX5_tableProperty 123 = .ok (.ireturn, 1) := by decide +kernel
theorem dX5_tableProperty_124 : decode cX5_tableProperty 124 = .ok (.aload_n 0, 1) := by decide +kernel
theorem dX5_tableProperty_125 : decode cX5_tableProperty 125 = .ok (.getfield 12, 3) := by decide +kernel
theorem dX5_tableProperty_128 : decode cX5_tableProperty 128 = .ok (.getfield 272, 3) := by decide +kernel
theorem dX5_tableProperty_131 : decode cX5_tableProperty 131 = .ok (.iload_n 1, 1) := by decide +kernel
theorem dX5_tableProperty_132 : decode cX5_tableProperty 132 = .ok (.iconst 2, 1) := by decide +kernel
theorem dX5_tableProperty_133 : decode cX5_tableProperty 133 = .ok (.imul, 1) := by decide +kernel
theorem dX5_tableProperty_134 : decode cX5_tableProperty 134 = .ok (.iconst 1, 1) := by decide +kernel
theorem dX5_tableProperty_135 : decode cX5_tableProperty 135 = .ok (.iadd, 1) := by decide +kernel
theorem dX5_tableProperty_136 : decode cX5_tableProperty 136 = .ok (.invokevirtual 66, 3) := by decide +kernel
theorem dX5_tableProperty_139 : decode cX5_tableProperty 139 = .ok (.ireturn, 1) := by decide +kernel
theorem dX5_tableProperty_140 : decode cX5_tableProperty 140 = .ok (.iload_n 1, 1) := by decide +kernel
theorem dX5_tableProperty_141 : decode cX5_tableProperty 141 = .ok (.ifCond .ne 7, 3) := by decide +kernel
theorem dX5_tableProperty_144 : decode cX5_tableProperty 144 = .ok (.iconst (-1), 1) := by decide +kernel
theorem dX5_tableProperty_145 : decode cX5_tableProperty 145 = .ok (.goto 17, 3) := by decide +kernel
theorem dX5_tableProperty_148 : decode cX5_tableProperty 148 = .ok (.aload_n 0, 1) := by decide +kernel
theorem dX5_tableProperty_149 : decode cX5_tableProperty 149 = .ok (.getfield 20, 3) := by decide +kernel
theorem dX5_tableProperty_152 : decode cX5_tableProperty 152 = .ok (.getfield 275, 3) := by decide +kernel
theorem dX5_tableProperty_155 : decode cX5_tableProperty 155 = .ok (.iload_n 1, 1) := by decide +kernel
theorem dX5_tableProperty_156 : decode cX5_tableProperty 156 = .ok (.invokevirtual 66, 3) := by decide +kernel
theorem dX5_tableProperty_159 : decode cX5_tableProperty 159 = .ok (.invokestatic 278, 3) := by decide +kernel
theorem dX5_tableProperty_162 : decode cX5_tableProperty 162 = .ok (.ireturn, 1) := by decide +kernel
theorem dX5_countingSums_0 : decode cX5_countingSums 0 = .ok (.aload_n 0, 1) := by decide +kernel
theorem dX5_countingSums_1 : decode cX5_countingSums 1 = .ok (.getfield 20, 3) := by decide +kernel
theorem dX5_countingSums_4 : decode cX5_countingSums 4 = .ok (.iload_n 1, 1) := by decide +kernel
theorem dX5_countingSums_5 : decode cX5_countingSums 5 = .ok (.invokevirtual 58, 3) := by decide +kernel
theorem dX5_countingSums_8 : decode cX5_countingSums 8 = .ok (.ifCond .ne 5, 3) := by decide +kernel
theorem dX5_countingSums_11 : decode cX5_countingSums 11 = .ok (.iconst (-1), 1) := by decide +kernel
theorem dX5_countingSums_12 : decode cX5_countingSums 12 = .ok (.ireturn, 1) := by decide +kernel
theorem dX5_countingSums_13 : decode cX5_countingSums 13 = .ok (.aload_n 0, 1) := by decide +kernel
theorem dX5_countingSums_14 : decode cX5_countingSums 14 = .ok (.getfield 20, 3) := by decide +kernel
theorem dX5_countingSums_17 : decode cX5_countingSums 17 = .ok (.getfield 62, 3) := by decide +kernel
theorem dX5_countingSums_20 : decode cX5_countingSums 20 = .ok (.iload_n 1, 1) := by decide +kernel
theorem dX5_countingSums_21 : decode cX5_countingSums 21 = .ok (.invokevirtual 66, 3) := by decide +kernel
theorem dX5_countingSums_24 : decode cX5_countingSums 24 = .ok (.invokestatic 232, 3) := by decide +kernel
theorem dX5_countingSums_27 : decode cX5_countingSums 27 = .ok (.ifCond .eq 5, 3) := by decide +kernel
theorem dX5_countingSums_30 : decode cX5_countingSums 30 = .ok (.iconst 0, 1) := by decide +kernel
theorem dX5_countingSums_31 : decode cX5_countingSums 31 = .ok (.ireturn, 1) := by decide +kernel
theorem dX5_countingSums_32 : decode cX5_countingSums 32 = .ok (.iconst 0, 1) := by decide +kernel
theorem dX5_countingSums_33 : decode cX5_countingSums 33 = .ok (.istore_n 2, 1) := by decide +kernel
theorem dX5_countingSums_34 : decode cX5_countingSums 34 = .ok (.iload_n 1, 1) := by decide +kernel
theorem dX5_countingSums_35 : decode cX5_countingSums 35 = .ok (.istore_n 3, 1) := by decide +kernel
theorem dX5_countingSums_36 : decode cX5_countingSums 36 = .ok (.iconst 0, 1) := by decide +kernel
theorem dX5_countingSums_37 : decode cX5_countingSums 37 = .ok (.istore 4, 2) := by decide +kernel
theorem dX5_countingSums_39 : decode cX5_countingSums 39 = .ok (.iload 4, 2) := by decide +kernel
theorem dX5_countingSums_41 : decode cX5_countingSums 41 = .ok (.iconst 5, 1) := by decide +kernel
theorem dX5_countingSums_42 : decode cX5_countingSums 42 = .ok (.if_icmp .ge 40, 3) := by decide +kernel
theorem dX5_countingSums_45 : decode cX5_countingSums 45 = .ok (.iload_n 3, 1) := by decide +kernel
theorem dX5_countingSums_46 : decode cX5_countingSums 46 = .ok (.iconst (-1), 1) := by decide +kernel
theorem dX5_countingSums_47 : decode cX5_countingSums 47 = .ok (.if_icmp .eq 35, 3) := by decide +kernel
theorem dX5_countingSums_50 : decode cX5_countingSums 50 = .ok (.iload_n 2, 1) := by decide +kernel
theorem dX5_countingSums_51 : decode cX5_countingSums 51 = .ok (.aload_n 0, 1) := by decide +kernel
theorem dX5_countingSums_52 : decode cX5_countingSums 52 = .ok (.getfield 12, 3) := by decide +kernel
theorem dX5_countingSums_55 : decode cX5_countingSums 55 = .ok (.iload_n 3, 1) := by decide +kernel
theorem dX5_countingSums_56 : decode cX5_countingSums 56 = .ok (.invokevirtual 290, 3) := by decide +kernel
theorem dX5_countingSums_59 : decode cX5_countingSums 59 = .ok (.iadd, 1) := by decide +kernel
theorem dX5_countingSums_60 : decode cX5_countingSums 60 = .ok (.istore_n 2, 1) := by decide +kernel
theorem dX5_countingSums_61 : decode cX5_countingSums 61 = .ok (.aload_n 0, 1) := by decide +kernel
theorem dX5_countingSums_62 : decode cX5_countingSums 62 = .ok (.getfield 20, 3) := by decide +kernel
theorem dX5_countingSums_65 : decode cX5_countingSums 65 = .ok (.getfield 275, 3) := by decide +kernel
theorem dX5_countingSums_68 : decode cX5_countingSums 68 = .ok (.iload_n 3, 1) := by decide +kernel
theorem dX5_countingSums_69 : decode cX5_countingSums 69 = .ok (.invokestatic 278, 3) := by decide +kernel
theorem dX5_countingSums_72 : decode cX5_countingSums 72 = .ok (.invokevirtual 66, 3) := by decide +kernel
theorem dX5_countingSums_75 : decode cX5_countingSums 75 = .ok (.istore_n 3, 1) := by decide +kernel
theorem dX5_countingSums_76 : decode cX5_countingSums 76 = .ok (.iinc 4 1, 3) := by decide +kernel
theorem dX5_countingSums_79 : decode cX5_countingSums 79 = .ok (.goto (-40), 3) := by decide +kernel
theorem dX5_countingSums_82 : decode cX5_countingSums 82 = .ok (.iload_n 2, 1) := by decide +kernel
theorem dX5_countingSums_83 : decode cX5_countingSums 83 = .ok (.ireturn, 1) := by decide +kernel
theorem dX5_tableOf_0 : decode cX5_tableOf 0 = .ok (.iload_n 0, 1) := by decide +kernel
theorem dX5_tableOf_1 : decode cX5_tableOf 1 = .ok (.bipush 25, 2) := by decide +kernel
theorem dX5_tableOf_3 : decode cX5_tableOf 3 = .ok (.idiv, 1) := by decide +kernel
theorem dX5_tableOf_4 : decode cX5_tableOf 4 = .ok (.ireturn, 1) := by decide +kernel
theorem dX5_placeOf_0 : decode cX5_placeOf 0 = .ok (.iload_n 1, 1) := by decide +kernel
theorem dX5_placeOf_1 : decode cX5_placeOf 1 = .ok (.iconst 1, 1) := by decide +kernel
theorem dX5_placeOf_2 : decode cX5_placeOf 2 = .ok (.if_icmp .ne 12, 3) := by decide +kernel
theorem dX5_placeOf_5 : decode cX5_placeOf 5 = .ok (.iload_n 0, 1) := by decide +kernel
theorem dX5_placeOf_6 : decode cX5_placeOf 6 = .ok (.bipush 25, 2) := by decide +kernel
theorem dX5_placeOf_8 : decode cX5_placeOf 8 = .ok (.irem, 1) := by decide +kernel
theorem dX5_placeOf_9 : decode cX5_placeOf 9 = .ok (.iconst 5, 1) := by decide +kernel
theorem dX5_placeOf_10 : decode cX5_placeOf 10 = .ok (.idiv, 1) := by decide +kernel
theorem dX5_placeOf_11 : decode cX5_placeOf 11 = .ok (.goto 6, 3) := by decide +kernel
theorem dX5_placeOf_14 : decode cX5_placeOf 14 = .ok (.iload_n 0, 1) := by decide +kernel
theorem dX5_placeOf_15 : decode cX5_placeOf 15 = .ok (.iconst 5, 1) := by decide +kernel
theorem dX5_placeOf_16 : decode cX5_placeOf 16 = .ok (.irem, 1) := by decide +kernel
theorem dX5_placeOf_17 : decode cX5_placeOf 17 = .ok (.ireturn, 1) := by decide +kernel
theorem dX5_signsOf_0 : decode cX5_signsOf 0 = .ok (.iload_n 0, 1) := by decide +kernel
theorem dX5_signsOf_1 : decode cX5_signsOf 1 = .ok (.ifCond .ge 7, 3) := by decide +kernel
theorem dX5_signsOf_4 : decode cX5_signsOf 4 = .ok (.iconst 2, 1) := by decide +kernel
theorem dX5_signsOf_5 : decode cX5_signsOf 5 = .ok (.goto 4, 3) := by decide +kernel
theorem dX5_signsOf_8 : decode cX5_signsOf 8 = .ok (.iconst 1, 1) := by decide +kernel
theorem dX5_signsOf_9 : decode cX5_signsOf 9 = .ok (.istore_n 1, 1) := by decide +kernel
theorem dX5_signsOf_10 : decode cX5_signsOf 10 = .ok (.iload_n 0, 1) := by decide +kernel
theorem dX5_signsOf_11 : decode cX5_signsOf 11 = .ok (.bipush 10, 2) := by decide +kernel
theorem dX5_signsOf_13 : decode cX5_signsOf 13 = .ok (.idiv, 1) := by decide +kernel
theorem dX5_signsOf_14 : decode cX5_signsOf 14 = .ok (.istore_n 2, 1) := by decide +kernel
theorem dX5_signsOf_15 : decode cX5_signsOf 15 = .ok (.iconst 0, 1) := by decide +kernel
theorem dX5_signsOf_16 : decode cX5_signsOf 16 = .ok (.istore_n 3, 1) := by decide +kernel
theorem dX5_signsOf_17 : decode cX5_signsOf 17 = .ok (.iload_n 3, 1) := by decide +kernel
theorem dX5_signsOf_18 : decode cX5_signsOf 18 = .ok (.bipush 10, 2) := by decide +kernel
theorem dX5_signsOf_20 : decode cX5_signsOf 20 = .ok (.if_icmp .ge 21, 3) := by decide +kernel
theorem dX5_signsOf_23 : decode cX5_signsOf 23 = .ok (.iload_n 2, 1) := by decide +kernel
theorem dX5_signsOf_24 : decode cX5_signsOf 24 = .ok (.ifCond .eq 17, 3) := by decide +kernel
theorem dX5_signsOf_27 : decode cX5_signsOf 27 = .ok (.iload_n 2, 1) := by decide +kernel
theorem dX5_signsOf_28 : decode cX5_signsOf 28 = .ok (.bipush 10, 2) := by decide +kernel
theorem dX5_signsOf_30 : decode cX5_signsOf 30 = .ok (.idiv, 1) := by decide +kernel
theorem dX5_signsOf_31 : decode cX5_signsOf 31 = .ok (.istore_n 2, 1) := by decide +kernel
theorem dX5_signsOf_32 : decode cX5_signsOf 32 = .ok (.iinc 1 1, 3) := by decide +kernel
theorem dX5_signsOf_35 : decode cX5_signsOf 35 = .ok (.iinc 3 1, 3) := by decide +kernel
theorem dX5_signsOf_38 : decode cX5_signsOf 38 = .ok (.goto (-21), 3) := by decide +kernel
theorem dX5_signsOf_41 : decode cX5_signsOf 41 = .ok (.iload_n 1, 1) := by decide +kernel
theorem dX5_signsOf_42 : decode cX5_signsOf 42 = .ok (.ireturn, 1) := by decide +kernel
theorem dL_low_0 : decode cL_low 0 = .ok (.iload_n 0, 1) := by decide +kernel
theorem dL_low_1 : decode cL_low 1 = .ok (.ldc 7, 2) := by decide +kernel
theorem dL_low_3 : decode cL_low 3 = .ok (.iand, 1) := by decide +kernel
theorem dL_low_4 : decode cL_low 4 = .ok (.iload_n 1, 1) := by decide +kernel
theorem dL_low_5 : decode cL_low 5 = .ok (.irem, 1) := by decide +kernel
theorem dL_low_6 : decode cL_low 6 = .ok (.ireturn, 1) := by decide +kernel
theorem dL_cell_0 : decode cL_cell 0 = .ok (.iload_n 1, 1) := by decide +kernel
theorem dL_cell_1 : decode cL_cell 1 = .ok (.aload_n 0, 1) := by decide +kernel
theorem dL_cell_2 : decode cL_cell 2 = .ok (.arraylength, 1) := by decide +kernel
theorem dL_cell_3 : decode cL_cell 3 = .ok (.if_icmp .ge 9, 3) := by decide +kernel
theorem dL_cell_6 : decode cL_cell 6 = .ok (.aload_n 0, 1) := by decide +kernel
theorem dL_cell_7 : decode cL_cell 7 = .ok (.iload_n 1, 1) := by decide +kernel
theorem dL_cell_8 : decode cL_cell 8 = .ok (.iaload, 1) := by decide +kernel
theorem dL_cell_9 : decode cL_cell 9 = .ok (.goto 11, 3) := by decide +kernel
theorem dL_cell_12 : decode cL_cell 12 = .ok (.ldc 8, 2) := by decide +kernel
theorem dL_cell_14 : decode cL_cell 14 = .ok (.iload_n 1, 1) := by decide +kernel
theorem dL_cell_15 : decode cL_cell 15 = .ok (.imul, 1) := by decide +kernel
theorem dL_cell_16 : decode cL_cell 16 = .ok (.sipush 977, 3) := by decide +kernel
theorem dL_cell_19 : decode cL_cell 19 = .ok (.iadd, 1) := by decide +kernel
theorem dL_cell_20 : decode cL_cell 20 = .ok (.ireturn, 1) := by decide +kernel
theorem dL_put_0 : decode cL_put 0 = .ok (.aload_n 0, 1) := by decide +kernel
theorem dL_put_1 : decode cL_put 1 = .ok (.iload_n 1, 1) := by decide +kernel
theorem dL_put_2 : decode cL_put 2 = .ok (.iload_n 2, 1) := by decide +kernel
theorem dL_put_3 : decode cL_put 3 = .ok (.iload_n 3, 1) := by decide +kernel
theorem dL_put_4 : decode cL_put 4 = .ok (.iload 4, 2) := by decide +kernel
theorem dL_put_6 : decode cL_put 6 = .ok (.iload 5, 2) := by decide +kernel
theorem dL_put_8 : decode cL_put 8 = .ok (.invokevirtual 9, 3) := by decide +kernel
theorem dL_put_11 : decode cL_put 11 = .ok (.ireturn, 1) := by decide +kernel
theorem dL_put_12 : decode cL_put 12 = .ok (.astore 6, 2) := by decide +kernel
theorem dL_put_14 : decode cL_put 14 = .ok (.iconst (-1), 1) := by decide +kernel
theorem dL_put_15 : decode cL_put 15 = .ok (.ireturn, 1) := by decide +kernel
theorem dL_put_16 : decode cL_put 16 = .ok (.astore 6, 2) := by decide +kernel
theorem dL_put_18 : decode cL_put 18 = .ok (.bipush (-3), 2) := by decide +kernel
theorem dL_put_20 : decode cL_put 20 = .ok (.ireturn, 1) := by decide +kernel
theorem dL_nest_0 : decode cL_nest 0 = .ok (.aload_n 0, 1) := by decide +kernel
theorem dL_nest_1 : decode cL_nest 1 = .ok (.iload_n 1, 1) := by decide +kernel
theorem dL_nest_2 : decode cL_nest 2 = .ok (.iload_n 2, 1) := by decide +kernel
theorem dL_nest_3 : decode cL_nest 3 = .ok (.iload_n 3, 1) := by decide +kernel
theorem dL_nest_4 : decode cL_nest 4 = .ok (.iload 4, 2) := by decide +kernel
theorem dL_nest_6 : decode cL_nest 6 = .ok (.iload 5, 2) := by decide +kernel
theorem dL_nest_8 : decode cL_nest 8 = .ok (.invokevirtual 19, 3) := by decide +kernel
theorem dL_nest_11 : decode cL_nest 11 = .ok (.ireturn, 1) := by decide +kernel
theorem dL_nest_12 : decode cL_nest 12 = .ok (.astore 6, 2) := by decide +kernel
theorem dL_nest_14 : decode cL_nest 14 = .ok (.iconst (-1), 1) := by decide +kernel
theorem dL_nest_15 : decode cL_nest 15 = .ok (.ireturn, 1) := by decide +kernel
theorem dL_nest_16 : decode cL_nest 16 = .ok (.astore 6, 2) := by decide +kernel
theorem dL_nest_18 : decode cL_nest 18 = .ok (.bipush (-3), 2) := by decide +kernel
theorem dL_nest_20 : decode cL_nest 20 = .ok (.ireturn, 1) := by decide +kernel
theorem dL_span_0 : decode cL_span 0 = .ok (.aload_n 0, 1) := by decide +kernel
theorem dL_span_1 : decode cL_span 1 = .ok (.iload_n 1, 1) := by decide +kernel
theorem dL_span_2 : decode cL_span 2 = .ok (.iload_n 2, 1) := by decide +kernel
theorem dL_span_3 : decode cL_span 3 = .ok (.iload_n 3, 1) := by decide +kernel
theorem dL_span_4 : decode cL_span 4 = .ok (.iload 4, 2) := by decide +kernel
theorem dL_span_6 : decode cL_span 6 = .ok (.iload 5, 2) := by decide +kernel
theorem dL_span_8 : decode cL_span 8 = .ok (.invokevirtual 22, 3) := by decide +kernel
theorem dL_span_11 : decode cL_span 11 = .ok (.ireturn, 1) := by decide +kernel
theorem dL_span_12 : decode cL_span 12 = .ok (.astore 6, 2) := by decide +kernel
theorem dL_span_14 : decode cL_span 14 = .ok (.iconst (-1), 1) := by decide +kernel
theorem dL_span_15 : decode cL_span 15 = .ok (.ireturn, 1) := by decide +kernel
theorem dL_span_16 : decode cL_span 16 = .ok (.astore 6, 2) := by decide +kernel
theorem dL_span_18 : decode cL_span 18 = .ok (.bipush (-3), 2) := by decide +kernel
theorem dL_span_20 : decode cL_span 20 = .ok (.ireturn, 1) := by decide +kernel
theorem dL_rule_0 : decode cL_rule 0 = .ok (.aload_n 0, 1) := by decide +kernel
theorem dL_rule_1 : decode cL_rule 1 = .ok (.iload_n 1, 1) := by decide +kernel
theorem dL_rule_2 : decode cL_rule 2 = .ok (.iload_n 2, 1) := by decide +kernel
theorem dL_rule_3 : decode cL_rule 3 = .ok (.iload_n 3, 1) := by decide +kernel
theorem dL_rule_4 : decode cL_rule 4 = .ok (.iload 4, 2) := by decide +kernel
theorem dL_rule_6 : decode cL_rule 6 = .ok (.iload 5, 2) := by decide +kernel
theorem dL_rule_8 : decode cL_rule 8 = .ok (.invokevirtual 25, 3) := by decide +kernel
theorem dL_rule_11 : decode cL_rule 11 = .ok (.ireturn, 1) := by decide +kernel
theorem dL_rule_12 : decode cL_rule 12 = .ok (.astore 6, 2) := by decide +kernel
theorem dL_rule_14 : decode cL_rule 14 = .ok (.iconst (-1), 1) := by decide +kernel
theorem dL_rule_15 : decode cL_rule 15 = .ok (.ireturn, 1) := by decide +kernel
theorem dL_rule_16 : decode cL_rule 16 = .ok (.astore 6, 2) := by decide +kernel
theorem dL_rule_18 : decode cL_rule 18 = .ok (.bipush (-3), 2) := by decide +kernel
theorem dL_rule_20 : decode cL_rule 20 = .ok (.ireturn, 1) := by decide +kernel
theorem dL_act_0 : decode cL_act 0 = .ok (.iload_n 1, 1) := by decide +kernel
theorem dL_act_1 : decode cL_act 1 = .ok (.aload_n 0, 1) := by decide +kernel
theorem dL_act_2 : decode cL_act 2 = .ok (.iconst 0, 1) := by decide +kernel
theorem dL_act_3 : decode cL_act 3 = .ok (.invokevirtual 28, 3) := by decide +kernel
theorem dL_act_6 : decode cL_act 6 = .ok (.invokestatic 32, 3) := by decide +kernel
theorem dL_act_9 : decode cL_act 9 = .ok (.istore 5, 2) := by decide +kernel
theorem dL_act_11 : decode cL_act 11 = .ok (.iload_n 2, 1) := by decide +kernel
theorem dL_act_12 : decode cL_act 12 = .ok (.iconst 5, 1) := by decide +kernel
theorem dL_act_13 : decode cL_act 13 = .ok (.invokestatic 32, 3) := by decide +kernel
theorem dL_act_16 : decode cL_act 16 = .ok (.istore 6, 2) := by decide +kernel
theorem dL_act_18 : decode cL_act 18 = .ok (.iload_n 3, 1) := by decide +kernel
theorem dL_act_19 : decode cL_act 19 = .ok (.iconst 5, 1) := by decide +kernel
theorem dL_act_20 : decode cL_act 20 = .ok (.invokestatic 32, 3) := by decide +kernel
theorem dL_act_23 : decode cL_act 23 = .ok (.istore 7, 2) := by decide +kernel
theorem dL_act_25 : decode cL_act 25 = .ok (.iload 4, 2) := by decide +kernel
theorem dL_act_27 : decode cL_act 27 = .ok (.bipush 14, 2) := by decide +kernel
theorem dL_act_29 : decode cL_act 29 = .ok (.invokestatic 32, 3) := by decide +kernel
theorem dL_act_32 : decode cL_act 32 = .ok (.tableswitch 206 0 11 #[64, 64, 64, 64, 90, 113, 113, 113, 135, 148, 148, 177], 64) := by decide +kernel
theorem dL_act_96 : decode cL_act 96 = .ok (.aload_n 0, 1) := by decide +kernel
theorem dL_act_97 : decode cL_act 97 = .ok (.iload 5, 2) := by decide +kernel
theorem dL_act_99 : decode cL_act 99 = .ok (.iload 6, 2) := by decide +kernel
theorem dL_act_101 : decode cL_act 101 = .ok (.iload 7, 2) := by decide +kernel
theorem dL_act_103 : decode cL_act 103 = .ok (.iconst 1, 1) := by decide +kernel
theorem dL_act_104 : decode cL_act 104 = .ok (.iload_n 1, 1) := by decide +kernel
theorem dL_act_105 : decode cL_act 105 = .ok (.iload 4, 2) := by decide +kernel
theorem dL_act_107 : decode cL_act 107 = .ok (.iadd, 1) := by decide +kernel
theorem dL_act_108 : decode cL_act 108 = .ok (.sipush 1999, 3) := by decide +kernel
theorem dL_act_111 : decode cL_act 111 = .ok (.invokestatic 32, 3) := by decide +kernel
theorem dL_act_114 : decode cL_act 114 = .ok (.sipush 999, 3) := by decide +kernel
theorem dL_act_117 : decode cL_act 117 = .ok (.isub, 1) := by decide +kernel
theorem dL_act_118 : decode cL_act 118 = .ok (.invokestatic 38, 3) := by decide +kernel
theorem dL_act_121 : decode cL_act 121 = .ok (.ireturn, 1) := by decide +kernel
theorem dL_act_122 : decode cL_act 122 = .ok (.aload_n 0, 1) := by decide +kernel
theorem dL_act_123 : decode cL_act 123 = .ok (.iload 5, 2) := by decide +kernel
theorem dL_act_125 : decode cL_act 125 = .ok (.iload 6, 2) := by decide +kernel
theorem dL_act_127 : decode cL_act 127 = .ok (.iload 7, 2) := by decide +kernel
theorem dL_act_129 : decode cL_act 129 = .ok (.iconst 2, 1) := by decide +kernel
theorem dL_act_130 : decode cL_act 130 = .ok (.iconst 1, 1) := by decide +kernel
theorem dL_act_131 : decode cL_act 131 = .ok (.iload_n 1, 1) := by decide +kernel
theorem dL_act_132 : decode cL_act 132 = .ok (.iload 4, 2) := by decide +kernel
theorem dL_act_134 : decode cL_act 134 = .ok (.iadd, 1) := by decide +kernel
theorem dL_act_135 : decode cL_act 135 = .ok (.bipush 12, 2) := by decide +kernel
theorem dL_act_137 : decode cL_act 137 = .ok (.invokestatic 32, 3) := by decide +kernel
theorem dL_act_140 : decode cL_act 140 = .ok (.iadd, 1) := by decide +kernel
theorem dL_act_141 : decode cL_act 141 = .ok (.invokestatic 38, 3) := by decide +kernel
theorem dL_act_144 : decode cL_act 144 = .ok (.ireturn, 1) := by decide +kernel
theorem dL_act_145 : decode cL_act 145 = .ok (.aload_n 0, 1) := by decide +kernel
theorem dL_act_146 : decode cL_act 146 = .ok (.iload 5, 2) := by decide +kernel
theorem dL_act_148 : decode cL_act 148 = .ok (.iload 6, 2) := by decide +kernel
theorem dL_act_150 : decode cL_act 150 = .ok (.iload 7, 2) := by decide +kernel
theorem dL_act_152 : decode cL_act 152 = .ok (.iconst 4, 1) := by decide +kernel
theorem dL_act_153 : decode cL_act 153 = .ok (.iload_n 1, 1) := by decide +kernel
theorem dL_act_154 : decode cL_act 154 = .ok (.iload 4, 2) := by decide +kernel
theorem dL_act_156 : decode cL_act 156 = .ok (.iadd, 1) := by decide +kernel
theorem dL_act_157 : decode cL_act 157 = .ok (.iconst 3, 1) := by decide +kernel
theorem dL_act_158 : decode cL_act 158 = .ok (.invokestatic 32, 3) := by decide +kernel
theorem dL_act_161 : decode cL_act 161 = .ok (.iadd, 1) := by decide +kernel
theorem dL_act_162 : decode cL_act 162 = .ok (.iconst 0, 1) := by decide +kernel
theorem dL_act_163 : decode cL_act 163 = .ok (.invokestatic 38, 3) := by decide +kernel
theorem dL_act_166 : decode cL_act 166 = .ok (.ireturn, 1) := by decide +kernel
theorem dL_act_167 : decode cL_act 167 = .ok (.aload_n 0, 1) := by decide +kernel
theorem dL_act_168 : decode cL_act 168 = .ok (.iload 5, 2) := by decide +kernel
theorem dL_act_170 : decode cL_act 170 = .ok (.iload 6, 2) := by decide +kernel
theorem dL_act_172 : decode cL_act 172 = .ok (.iload 7, 2) := by decide +kernel
theorem dL_act_174 : decode cL_act 174 = .ok (.iconst 0, 1) := by decide +kernel
theorem dL_act_175 : decode cL_act 175 = .ok (.iconst 0, 1) := by decide +kernel
theorem dL_act_176 : decode cL_act 176 = .ok (.invokestatic 38, 3) := by decide +kernel
theorem dL_act_179 : decode cL_act 179 = .ok (.ireturn, 1) := by decide +kernel
theorem dL_act_180 : decode cL_act 180 = .ok (.aload_n 0, 1) := by decide +kernel
theorem dL_act_181 : decode cL_act 181 = .ok (.iload 5, 2) := by decide +kernel
theorem dL_act_183 : decode cL_act 183 = .ok (.iload 6, 2) := by decide +kernel
theorem dL_act_185 : decode cL_act 185 = .ok (.iload 7, 2) := by decide +kernel
theorem dL_act_187 : decode cL_act 187 = .ok (.iconst 1, 1) := by decide +kernel
theorem dL_act_188 : decode cL_act 188 = .ok (.iload_n 1, 1) := by decide +kernel
theorem dL_act_189 : decode cL_act 189 = .ok (.iload_n 2, 1) := by decide +kernel
theorem dL_act_190 : decode cL_act 190 = .ok (.iadd, 1) := by decide +kernel
theorem dL_act_191 : decode cL_act 191 = .ok (.iconst 3, 1) := by decide +kernel
theorem dL_act_192 : decode cL_act 192 = .ok (.invokestatic 32, 3) := by decide +kernel
theorem dL_act_195 : decode cL_act 195 = .ok (.iadd, 1) := by decide +kernel
theorem dL_act_196 : decode cL_act 196 = .ok (.iconst 1, 1) := by decide +kernel
theorem dL_act_197 : decode cL_act 197 = .ok (.iload_n 2, 1) := by decide +kernel
theorem dL_act_198 : decode cL_act 198 = .ok (.iload_n 3, 1) := by decide +kernel
theorem dL_act_199 : decode cL_act 199 = .ok (.iadd, 1) := by decide +kernel
theorem dL_act_200 : decode cL_act 200 = .ok (.iconst 3, 1) := by decide +kernel
theorem dL_act_201 : decode cL_act 201 = .ok (.invokestatic 32, 3) := by decide +kernel
theorem dL_act_204 : decode cL_act 204 = .ok (.iadd, 1) := by decide +kernel
theorem dL_act_205 : decode cL_act 205 = .ok (.invokestatic 41, 3) := by decide +kernel
theorem dL_act_208 : decode cL_act 208 = .ok (.ireturn, 1) := by decide +kernel
theorem dL_act_209 : decode cL_act 209 = .ok (.aload_n 0, 1) := by decide +kernel
theorem dL_act_210 : decode cL_act 210 = .ok (.iload 5, 2) := by decide +kernel
theorem dL_act_212 : decode cL_act 212 = .ok (.iload 6, 2) := by decide +kernel
theorem dL_act_214 : decode cL_act 214 = .ok (.iload 7, 2) := by decide +kernel
theorem dL_act_216 : decode cL_act 216 = .ok (.iconst 1, 1) := by decide +kernel
theorem dL_act_217 : decode cL_act 217 = .ok (.iload_n 1, 1) := by decide +kernel
theorem dL_act_218 : decode cL_act 218 = .ok (.iload_n 2, 1) := by decide +kernel
theorem dL_act_219 : decode cL_act 219 = .ok (.iadd, 1) := by decide +kernel
theorem dL_act_220 : decode cL_act 220 = .ok (.iconst 4, 1) := by decide +kernel
theorem dL_act_221 : decode cL_act 221 = .ok (.invokestatic 32, 3) := by decide +kernel
theorem dL_act_224 : decode cL_act 224 = .ok (.iadd, 1) := by decide +kernel
theorem dL_act_225 : decode cL_act 225 = .ok (.iconst 1, 1) := by decide +kernel
theorem dL_act_226 : decode cL_act 226 = .ok (.iload_n 2, 1) := by decide +kernel
theorem dL_act_227 : decode cL_act 227 = .ok (.iload_n 3, 1) := by decide +kernel
theorem dL_act_228 : decode cL_act 228 = .ok (.iadd, 1) := by decide +kernel
theorem dL_act_229 : decode cL_act 229 = .ok (.iconst 4, 1) := by decide +kernel
theorem dL_act_230 : decode cL_act 230 = .ok (.invokestatic 32, 3) := by decide +kernel
theorem dL_act_233 : decode cL_act 233 = .ok (.iadd, 1) := by decide +kernel
theorem dL_act_234 : decode cL_act 234 = .ok (.invokestatic 43, 3) := by decide +kernel
theorem dL_act_237 : decode cL_act 237 = .ok (.ireturn, 1) := by decide +kernel
theorem dL_act_238 : decode cL_act 238 = .ok (.aload_n 0, 1) := by decide +kernel
theorem dL_act_239 : decode cL_act 239 = .ok (.iload 5, 2) := by decide +kernel
theorem dL_act_241 : decode cL_act 241 = .ok (.iload 6, 2) := by decide +kernel
theorem dL_act_243 : decode cL_act 243 = .ok (.iload 7, 2) := by decide +kernel
theorem dL_act_245 : decode cL_act 245 = .ok (.iload_n 1, 1) := by decide +kernel
theorem dL_act_246 : decode cL_act 246 = .ok (.iload_n 3, 1) := by decide +kernel
theorem dL_act_247 : decode cL_act 247 = .ok (.iadd, 1) := by decide +kernel
theorem dL_act_248 : decode cL_act 248 = .ok (.iconst 4, 1) := by decide +kernel
theorem dL_act_249 : decode cL_act 249 = .ok (.invokestatic 32, 3) := by decide +kernel
theorem dL_act_252 : decode cL_act 252 = .ok (.iload_n 1, 1) := by decide +kernel
theorem dL_act_253 : decode cL_act 253 = .ok (.iload_n 2, 1) := by decide +kernel
theorem dL_act_254 : decode cL_act 254 = .ok (.iadd, 1) := by decide +kernel
theorem dL_act_255 : decode cL_act 255 = .ok (.iconst 4, 1) := by decide +kernel
theorem dL_act_256 : decode cL_act 256 = .ok (.invokestatic 32, 3) := by decide +kernel
theorem dL_act_259 : decode cL_act 259 = .ok (.invokestatic 45, 3) := by decide +kernel
theorem dL_act_262 : decode cL_act 262 = .ok (.ireturn, 1) := by decide +kernel
theorem dL_undo_0 : decode cL_undo 0 = .ok (.aload_n 0, 1) := by decide +kernel
theorem dL_undo_1 : decode cL_undo 1 = .ok (.invokevirtual 47, 3) := by decide +kernel
theorem dL_undo_4 : decode cL_undo 4 = .ok (.ireturn, 1) := by decide +kernel
theorem dL_undo_5 : decode cL_undo 5 = .ok (.astore_n 1, 1) := by decide +kernel
theorem dL_undo_6 : decode cL_undo 6 = .ok (.bipush (-3), 2) := by decide +kernel
theorem dL_undo_8 : decode cL_undo 8 = .ok (.ireturn, 1) := by decide +kernel
theorem dL_tables_0 : decode cL_tables 0 = .ok (.iconst 0, 1) := by decide +kernel
theorem dL_tables_1 : decode cL_tables 1 = .ok (.istore_n 1, 1) := by decide +kernel
theorem dL_tables_2 : decode cL_tables 2 = .ok (.iconst 0, 1) := by decide +kernel
theorem dL_tables_3 : decode cL_tables 3 = .ok (.istore_n 2, 1) := by decide +kernel
theorem dL_tables_4 : decode cL_tables 4 = .ok (.iconst 0, 1) := by decide +kernel
theorem dL_tables_5 : decode cL_tables 5 = .ok (.istore_n 3, 1) := by decide +kernel
theorem dL_tables_6 : decode cL_tables 6 = .ok (.iconst 0, 1) := by decide +kernel
theorem dL_tables_7 : decode cL_tables 7 = .ok (.istore 4, 2) := by decide +kernel
theorem dL_tables_9 : decode cL_tables 9 = .ok (.iconst 1, 1) := by decide +kernel
theorem dL_tables_10 : decode cL_tables 10 = .ok (.istore 5, 2) := by decide +kernel
theorem dL_tables_12 : decode cL_tables 12 = .ok (.iconst 0, 1) := by decide +kernel
theorem dL_tables_13 : decode cL_tables 13 = .ok (.istore 6, 2) := by decide +kernel
theorem dL_tables_15 : decode cL_tables 15 = .ok (.iload 6, 2) := by decide +kernel
theorem dL_tables_17 : decode cL_tables 17 = .ok (.bipush 25, 2) := by decide +kernel
theorem dL_tables_19 : decode cL_tables 19 = .ok (.aload_n 0, 1) := by decide +kernel
theorem dL_tables_20 : decode cL_tables 20 = .ok (.iconst 0, 1) := by decide +kernel
theorem dL_tables_21 : decode cL_tables 21 = .ok (.invokevirtual 28, 3) := by decide +kernel
theorem dL_tables_24 : decode cL_tables 24 = .ok (.imul, 1) := by decide +kernel
theorem dL_tables_25 : decode cL_tables 25 = .ok (.if_icmp .ge 395, 3) := by decide +kernel
theorem dL_tables_28 : decode cL_tables 28 = .ok (.iload 5, 2) := by decide +kernel
theorem dL_tables_30 : decode cL_tables 30 = .ok (.ifCond .eq 390, 3) := by decide +kernel
theorem dL_tables_33 : decode cL_tables 33 = .ok (.iload 6, 2) := by decide +kernel
theorem dL_tables_35 : decode cL_tables 35 = .ok (.bipush 25, 2) := by decide +kernel
theorem dL_tables_37 : decode cL_tables 37 = .ok (.idiv, 1) := by decide +kernel
theorem dL_tables_38 : decode cL_tables 38 = .ok (.istore 7, 2) := by decide +kernel
theorem dL_tables_40 : decode cL_tables 40 = .ok (.iload 6, 2) := by decide +kernel
theorem dL_tables_42 : decode cL_tables 42 = .ok (.iconst 5, 1) := by decide +kernel
theorem dL_tables_43 : decode cL_tables 43 = .ok (.idiv, 1) := by decide +kernel
theorem dL_tables_44 : decode cL_tables 44 = .ok (.iconst 5, 1) := by decide +kernel
theorem dL_tables_45 : decode cL_tables 45 = .ok (.irem, 1) := by decide +kernel
theorem dL_tables_46 : decode cL_tables 46 = .ok (.istore 8, 2) := by decide +kernel
theorem dL_tables_48 : decode cL_tables 48 = .ok (.iload 6, 2) := by decide +kernel
theorem dL_tables_50 : decode cL_tables 50 = .ok (.iconst 5, 1) := by decide +kernel
theorem dL_tables_51 : decode cL_tables 51 = .ok (.irem, 1) := by decide +kernel
theorem dL_tables_52 : decode cL_tables 52 = .ok (.istore 9, 2) := by decide +kernel
theorem dL_tables_54 : decode cL_tables 54 = .ok (.iload 8, 2) := by decide +kernel
theorem dL_tables_56 : decode cL_tables 56 = .ok (.aload_n 0, 1) := by decide +kernel
theorem dL_tables_57 : decode cL_tables 57 = .ok (.iload 7, 2) := by decide +kernel
theorem dL_tables_59 : decode cL_tables 59 = .ok (.iconst 0, 1) := by decide +kernel
theorem dL_tables_60 : decode cL_tables 60 = .ok (.invokevirtual 51, 3) := by decide +kernel
theorem dL_tables_63 : decode cL_tables 63 = .ok (.if_icmp .ge 351, 3) := by decide +kernel
theorem dL_tables_66 : decode cL_tables 66 = .ok (.iload 9, 2) := by decide +kernel
theorem dL_tables_68 : decode cL_tables 68 = .ok (.aload_n 0, 1) := by decide +kernel
theorem dL_tables_69 : decode cL_tables 69 = .ok (.iload 7, 2) := by decide +kernel
theorem dL_tables_71 : decode cL_tables 71 = .ok (.iconst 1, 1) := by decide +kernel
theorem dL_tables_72 : decode cL_tables 72 = .ok (.invokevirtual 51, 3) := by decide +kernel
theorem dL_tables_75 : decode cL_tables 75 = .ok (.if_icmp .ge 339, 3) := by decide +kernel
theorem dL_tables_78 : decode cL_tables 78 = .ok (.aload_n 0, 1) := by decide +kernel
theorem dL_tables_79 : decode cL_tables 79 = .ok (.iload 7, 2) := by decide +kernel
theorem dL_tables_81 : decode cL_tables 81 = .ok (.iload 8, 2) := by decide +kernel
theorem dL_tables_83 : decode cL_tables 83 = .ok (.iload 9, 2) := by decide +kernel
theorem dL_tables_85 : decode cL_tables 85 = .ok (.iconst 0, 1) := by decide +kernel
theorem dL_tables_86 : decode cL_tables 86 = .ok (.invokevirtual 54, 3) := by decide +kernel
theorem dL_tables_89 : decode cL_tables 89 = .ok (.istore 10, 2) := by decide +kernel
theorem dL_tables_91 : decode cL_tables 91 = .ok (.iinc 2 1, 3) := by decide +kernel
theorem dL_tables_94 : decode cL_tables 94 = .ok (.iload_n 3, 1) := by decide +kernel
theorem dL_tables_95 : decode cL_tables 95 = .ok (.iload 10, 2) := by decide +kernel
theorem dL_tables_97 : decode cL_tables 97 = .ok (.iconst (-1), 1) := by decide +kernel
theorem dL_tables_98 : decode cL_tables 98 = .ok (.if_icmp .ne 7, 3) := by decide +kernel
theorem dL_tables_101 : decode cL_tables 101 = .ok (.iconst 0, 1) := by decide +kernel
theorem dL_tables_102 : decode cL_tables 102 = .ok (.goto 4, 3) := by decide +kernel
theorem dL_tables_105 : decode cL_tables 105 = .ok (.iconst 1, 1) := by decide +kernel
theorem dL_tables_106 : decode cL_tables 106 = .ok (.iadd, 1) := by decide +kernel
theorem dL_tables_107 : decode cL_tables 107 = .ok (.istore_n 3, 1) := by decide +kernel
theorem dL_tables_108 : decode cL_tables 108 = .ok (.iload 4, 2) := by decide +kernel
theorem dL_tables_110 : decode cL_tables 110 = .ok (.iload 10, 2) := by decide +kernel
theorem dL_tables_112 : decode cL_tables 112 = .ok (.iconst 3, 1) := by decide +kernel
theorem dL_tables_113 : decode cL_tables 113 = .ok (.if_icmp .ne 7, 3) := by decide +kernel
theorem dL_tables_116 : decode cL_tables 116 = .ok (.iconst 1, 1) := by decide +kernel
theorem dL_tables_117 : decode cL_tables 117 = .ok (.goto 4, 3) := by decide +kernel
theorem dL_tables_120 : decode cL_tables 120 = .ok (.iconst 0, 1) := by decide +kernel
theorem dL_tables_121 : decode cL_tables 121 = .ok (.iadd, 1) := by decide +kernel
theorem dL_tables_122 : decode cL_tables 122 = .ok (.istore 4, 2) := by decide +kernel
theorem dL_tables_124 : decode cL_tables 124 = .ok (.iload_n 1, 1) := by decide +kernel
theorem dL_tables_125 : decode cL_tables 125 = .ok (.iload 10, 2) := by decide +kernel
theorem dL_tables_127 : decode cL_tables 127 = .ok (.iconst 1, 1) := by decide +kernel
theorem dL_tables_128 : decode cL_tables 128 = .ok (.if_icmp .ne 17, 3) := by decide +kernel
theorem dL_tables_131 : decode cL_tables 131 = .ok (.aload_n 0, 1) := by decide +kernel
theorem dL_tables_132 : decode cL_tables 132 = .ok (.iload 7, 2) := by decide +kernel
theorem dL_tables_134 : decode cL_tables 134 = .ok (.iload 8, 2) := by decide +kernel
theorem dL_tables_136 : decode cL_tables 136 = .ok (.iload 9, 2) := by decide +kernel
theorem dL_tables_138 : decode cL_tables 138 = .ok (.iconst 1, 1) := by decide +kernel
theorem dL_tables_139 : decode cL_tables 139 = .ok (.invokevirtual 54, 3) := by decide +kernel
theorem dL_tables_142 : decode cL_tables 142 = .ok (.goto 4, 3) := by decide +kernel
theorem dL_tables_145 : decode cL_tables 145 = .ok (.iconst 0, 1) := by decide +kernel
theorem dL_tables_146 : decode cL_tables 146 = .ok (.iadd, 1) := by decide +kernel
theorem dL_tables_147 : decode cL_tables 147 = .ok (.istore_n 1, 1) := by decide +kernel
theorem dL_tables_148 : decode cL_tables 148 = .ok (.iload 10, 2) := by decide +kernel
theorem dL_tables_150 : decode cL_tables 150 = .ok (.iconst (-1), 1) := by decide +kernel
theorem dL_tables_151 : decode cL_tables 151 = .ok (.if_icmp .ne 40, 3) := by decide +kernel
theorem dL_tables_154 : decode cL_tables 154 = .ok (.aload_n 0, 1) := by decide +kernel
theorem dL_tables_155 : decode cL_tables 155 = .ok (.iload 7, 2) := by decide +kernel
theorem dL_tables_157 : decode cL_tables 157 = .ok (.iload 8, 2) := by decide +kernel
theorem dL_tables_159 : decode cL_tables 159 = .ok (.iload 9, 2) := by decide +kernel
theorem dL_tables_161 : decode cL_tables 161 = .ok (.invokevirtual 58, 3) := by decide +kernel
theorem dL_tables_164 : decode cL_tables 164 = .ok (.iconst (-1), 1) := by decide +kernel
theorem dL_tables_165 : decode cL_tables 165 = .ok (.if_icmp .ne 22, 3) := by decide +kernel
theorem dL_tables_168 : decode cL_tables 168 = .ok (.aload_n 0, 1) := by decide +kernel
theorem dL_tables_169 : decode cL_tables 169 = .ok (.iload 7, 2) := by decide +kernel
theorem dL_tables_171 : decode cL_tables 171 = .ok (.iload 8, 2) := by decide +kernel
theorem dL_tables_173 : decode cL_tables 173 = .ok (.iload 9, 2) := by decide +kernel
theorem dL_tables_175 : decode cL_tables 175 = .ok (.iconst 5, 1) := by decide +kernel
theorem dL_tables_176 : decode cL_tables 176 = .ok (.invokevirtual 54, 3) := by decide +kernel
theorem dL_tables_179 : decode cL_tables 179 = .ok (.iconst (-1), 1) := by decide +kernel
theorem dL_tables_180 : decode cL_tables 180 = .ok (.if_icmp .ne 7, 3) := by decide +kernel
theorem dL_tables_183 : decode cL_tables 183 = .ok (.iconst 1, 1) := by decide +kernel
theorem dL_tables_184 : decode cL_tables 184 = .ok (.goto 44, 3) := by decide +kernel
theorem dL_tables_187 : decode cL_tables 187 = .ok (.iconst 0, 1) := by decide +kernel
theorem dL_tables_188 : decode cL_tables 188 = .ok (.goto 40, 3) := by decide +kernel
theorem dL_tables_191 : decode cL_tables 191 = .ok (.iload 10, 2) := by decide +kernel
theorem dL_tables_193 : decode cL_tables 193 = .ok (.iconst 3, 1) := by decide +kernel
theorem dL_tables_194 : decode cL_tables 194 = .ok (.if_icmp .le 16, 3) := by decide +kernel
theorem dL_tables_197 : decode cL_tables 197 = .ok (.aload_n 0, 1) := by decide +kernel
theorem dL_tables_198 : decode cL_tables 198 = .ok (.iload 7, 2) := by decide +kernel
theorem dL_tables_200 : decode cL_tables 200 = .ok (.iload 8, 2) := by decide +kernel
theorem dL_tables_202 : decode cL_tables 202 = .ok (.iload 9, 2) := by decide +kernel
theorem dL_tables_204 : decode cL_tables 204 = .ok (.invokevirtual 58, 3) := by decide +kernel
theorem dL_tables_207 : decode cL_tables 207 = .ok (.ifCond .ne 20, 3) := by decide +kernel
theorem dL_tables_210 : decode cL_tables 210 = .ok (.aload_n 0, 1) := by decide +kernel
theorem dL_tables_211 : decode cL_tables 211 = .ok (.iload 7, 2) := by decide +kernel
theorem dL_tables_213 : decode cL_tables 213 = .ok (.iload 8, 2) := by decide +kernel
theorem dL_tables_215 : decode cL_tables 215 = .ok (.iload 9, 2) := by decide +kernel
theorem dL_tables_217 : decode cL_tables 217 = .ok (.invokestatic 62, 3) := by decide +kernel
theorem dL_tables_220 : decode cL_tables 220 = .ok (.ifCond .eq 7, 3) := by decide +kernel
theorem dL_tables_223 : decode cL_tables 223 = .ok (.iconst 1, 1) := by decide +kernel
theorem dL_tables_224 : decode cL_tables 224 = .ok (.goto 4, 3) := by decide +kernel
theorem dL_tables_227 : decode cL_tables 227 = .ok (.iconst 0, 1) := by decide +kernel
theorem dL_tables_228 : decode cL_tables 228 = .ok (.istore 5, 2) := by decide +kernel
theorem dL_tables_230 : decode cL_tables 230 = .ok (.iload 5, 2) := by decide +kernel
theorem dL_tables_232 : decode cL_tables 232 = .ok (.ifCond .eq 89, 3) := by decide +kernel
theorem dL_tables_235 : decode cL_tables 235 = .ok (.iload 9, 2) := by decide +kernel
theorem dL_tables_237 : decode cL_tables 237 = .ok (.iconst 1, 1) := by decide +kernel
theorem dL_tables_238 : decode cL_tables 238 = .ok (.iadd, 1) := by decide +kernel
theorem dL_tables_239 : decode cL_tables 239 = .ok (.aload_n 0, 1) := by decide +kernel
theorem dL_tables_240 : decode cL_tables 240 = .ok (.iload 7, 2) := by decide +kernel
theorem dL_tables_242 : decode cL_tables 242 = .ok (.iconst 1, 1) := by decide +kernel
theorem dL_tables_243 : decode cL_tables 243 = .ok (.invokevirtual 51, 3) := by decide +kernel
theorem dL_tables_246 : decode cL_tables 246 = .ok (.if_icmp .ge 30, 3) := by decide +kernel
theorem dL_tables_249 : decode cL_tables 249 = .ok (.aload_n 0, 1) := by decide +kernel
theorem dL_tables_250 : decode cL_tables 250 = .ok (.iload 7, 2) := by decide +kernel
theorem dL_tables_252 : decode cL_tables 252 = .ok (.iload 8, 2) := by decide +kernel
theorem dL_tables_254 : decode cL_tables 254 = .ok (.iload 9, 2) := by decide +kernel
theorem dL_tables_256 : decode cL_tables 256 = .ok (.iconst 1, 1) := by decide +kernel
theorem dL_tables_257 : decode cL_tables 257 = .ok (.invokevirtual 66, 3) := by decide +kernel
theorem dL_tables_260 : decode cL_tables 260 = .ok (.aload_n 0, 1) := by decide +kernel
theorem dL_tables_261 : decode cL_tables 261 = .ok (.iload 7, 2) := by decide +kernel
theorem dL_tables_263 : decode cL_tables 263 = .ok (.iload 8, 2) := by decide +kernel
theorem dL_tables_265 : decode cL_tables 265 = .ok (.iload 9, 2) := by decide +kernel
theorem dL_tables_267 : decode cL_tables 267 = .ok (.iconst 1, 1) := by decide +kernel
theorem dL_tables_268 : decode cL_tables 268 = .ok (.iadd, 1) := by decide +kernel
theorem dL_tables_269 : decode cL_tables 269 = .ok (.iconst 3, 1) := by decide +kernel
theorem dL_tables_270 : decode cL_tables 270 = .ok (.invokevirtual 66, 3) := by decide +kernel
theorem dL_tables_273 : decode cL_tables 273 = .ok (.if_icmp .ne 48, 3) := by decide +kernel
theorem dL_tables_276 : decode cL_tables 276 = .ok (.iload 8, 2) := by decide +kernel
theorem dL_tables_278 : decode cL_tables 278 = .ok (.iconst 1, 1) := by decide +kernel
theorem dL_tables_279 : decode cL_tables 279 = .ok (.iadd, 1) := by decide +kernel
theorem dL_tables_280 : decode cL_tables 280 = .ok (.aload_n 0, 1) := by decide +kernel
theorem dL_tables_281 : decode cL_tables 281 = .ok (.iload 7, 2) := by decide +kernel
theorem dL_tables_283 : decode cL_tables 283 = .ok (.iconst 0, 1) := by decide +kernel
theorem dL_tables_284 : decode cL_tables 284 = .ok (.invokevirtual 51, 3) := by decide +kernel
theorem dL_tables_287 : decode cL_tables 287 = .ok (.if_icmp .ge 30, 3) := by decide +kernel
theorem dL_tables_290 : decode cL_tables 290 = .ok (.aload_n 0, 1) := by decide +kernel
theorem dL_tables_291 : decode cL_tables 291 = .ok (.iload 7, 2) := by decide +kernel
theorem dL_tables_293 : decode cL_tables 293 = .ok (.iload 8, 2) := by decide +kernel
theorem dL_tables_295 : decode cL_tables 295 = .ok (.iload 9, 2) := by decide +kernel
theorem dL_tables_297 : decode cL_tables 297 = .ok (.iconst 2, 1) := by decide +kernel
theorem dL_tables_298 : decode cL_tables 298 = .ok (.invokevirtual 66, 3) := by decide +kernel
theorem dL_tables_301 : decode cL_tables 301 = .ok (.aload_n 0, 1) := by decide +kernel
theorem dL_tables_302 : decode cL_tables 302 = .ok (.iload 7, 2) := by decide +kernel
theorem dL_tables_304 : decode cL_tables 304 = .ok (.iload 8, 2) := by decide +kernel
theorem dL_tables_306 : decode cL_tables 306 = .ok (.iconst 1, 1) := by decide +kernel
theorem dL_tables_307 : decode cL_tables 307 = .ok (.iadd, 1) := by decide +kernel
theorem dL_tables_308 : decode cL_tables 308 = .ok (.iload 9, 2) := by decide +kernel
theorem dL_tables_310 : decode cL_tables 310 = .ok (.iconst 0, 1) := by decide +kernel
theorem dL_tables_311 : decode cL_tables 311 = .ok (.invokevirtual 66, 3) := by decide +kernel
theorem dL_tables_314 : decode cL_tables 314 = .ok (.if_icmp .ne 7, 3) := by decide +kernel
theorem dL_tables_317 : decode cL_tables 317 = .ok (.iconst 1, 1) := by decide +kernel
theorem dL_tables_318 : decode cL_tables 318 = .ok (.goto 4, 3) := by decide +kernel
theorem dL_tables_321 : decode cL_tables 321 = .ok (.iconst 0, 1) := by decide +kernel
theorem dL_tables_322 : decode cL_tables 322 = .ok (.istore 5, 2) := by decide +kernel
theorem dL_tables_324 : decode cL_tables 324 = .ok (.iload 5, 2) := by decide +kernel
theorem dL_tables_326 : decode cL_tables 326 = .ok (.ifCond .eq 85, 3) := by decide +kernel
theorem dL_tables_329 : decode cL_tables 329 = .ok (.iload 10, 2) := by decide +kernel
theorem dL_tables_331 : decode cL_tables 331 = .ok (.iconst 4, 1) := by decide +kernel
theorem dL_tables_332 : decode cL_tables 332 = .ok (.if_icmp .ne 22, 3) := by decide +kernel
theorem dL_tables_335 : decode cL_tables 335 = .ok (.iload 8, 2) := by decide +kernel
theorem dL_tables_337 : decode cL_tables 337 = .ok (.ifCond .gt 17, 3) := by decide +kernel
theorem dL_tables_340 : decode cL_tables 340 = .ok (.aload_n 0, 1) := by decide +kernel
theorem dL_tables_341 : decode cL_tables 341 = .ok (.iload 7, 2) := by decide +kernel
theorem dL_tables_343 : decode cL_tables 343 = .ok (.iload 8, 2) := by decide +kernel
theorem dL_tables_345 : decode cL_tables 345 = .ok (.iload 9, 2) := by decide +kernel
theorem dL_tables_347 : decode cL_tables 347 = .ok (.iconst 2, 1) := by decide +kernel
theorem dL_tables_348 : decode cL_tables 348 = .ok (.invokevirtual 54, 3) := by decide +kernel
theorem dL_tables_351 : decode cL_tables 351 = .ok (.ifCond .ne 60, 3) := by decide +kernel
theorem dL_tables_354 : decode cL_tables 354 = .ok (.iload 10, 2) := by decide +kernel
theorem dL_tables_356 : decode cL_tables 356 = .ok (.iconst 5, 1) := by decide +kernel
theorem dL_tables_357 : decode cL_tables 357 = .ok (.if_icmp .ne 22, 3) := by decide +kernel
theorem dL_tables_360 : decode cL_tables 360 = .ok (.iload 9, 2) := by decide +kernel
theorem dL_tables_362 : decode cL_tables 362 = .ok (.ifCond .gt 17, 3) := by decide +kernel
theorem dL_tables_365 : decode cL_tables 365 = .ok (.aload_n 0, 1) := by decide +kernel
theorem dL_tables_366 : decode cL_tables 366 = .ok (.iload 7, 2) := by decide +kernel
theorem dL_tables_368 : decode cL_tables 368 = .ok (.iload 8, 2) := by decide +kernel
theorem dL_tables_370 : decode cL_tables 370 = .ok (.iload 9, 2) := by decide +kernel
theorem dL_tables_372 : decode cL_tables 372 = .ok (.iconst 2, 1) := by decide +kernel
theorem dL_tables_373 : decode cL_tables 373 = .ok (.invokevirtual 54, 3) := by decide +kernel
theorem dL_tables_376 : decode cL_tables 376 = .ok (.ifCond .ne 35, 3) := by decide +kernel
theorem dL_tables_379 : decode cL_tables 379 = .ok (.iload 10, 2) := by decide +kernel
theorem dL_tables_381 : decode cL_tables 381 = .ok (.bipush 6, 2) := by decide +kernel
theorem dL_tables_383 : decode cL_tables 383 = .ok (.if_icmp .ne 24, 3) := by decide +kernel
theorem dL_tables_386 : decode cL_tables 386 = .ok (.aload_n 0, 1) := by decide +kernel
theorem dL_tables_387 : decode cL_tables 387 = .ok (.iload 7, 2) := by decide +kernel
theorem dL_tables_389 : decode cL_tables 389 = .ok (.iload 8, 2) := by decide +kernel
theorem dL_tables_391 : decode cL_tables 391 = .ok (.iload 9, 2) := by decide +kernel
theorem dL_tables_393 : decode cL_tables 393 = .ok (.iconst 2, 1) := by decide +kernel
theorem dL_tables_394 : decode cL_tables 394 = .ok (.invokevirtual 54, 3) := by decide +kernel
theorem dL_tables_397 : decode cL_tables 397 = .ok (.aload_n 0, 1) := by decide +kernel
theorem dL_tables_398 : decode cL_tables 398 = .ok (.iload 7, 2) := by decide +kernel
theorem dL_tables_400 : decode cL_tables 400 = .ok (.iconst 2, 1) := by decide +kernel
theorem dL_tables_401 : decode cL_tables 401 = .ok (.invokevirtual 51, 3) := by decide +kernel
theorem dL_tables_404 : decode cL_tables 404 = .ok (.if_icmp .ne 7, 3) := by decide +kernel
theorem dL_tables_407 : decode cL_tables 407 = .ok (.iconst 1, 1) := by decide +kernel
theorem dL_tables_408 : decode cL_tables 408 = .ok (.goto 4, 3) := by decide +kernel
theorem dL_tables_411 : decode cL_tables 411 = .ok (.iconst 0, 1) := by decide +kernel
theorem dL_tables_412 : decode cL_tables 412 = .ok (.istore 5, 2) := by decide +kernel
theorem dL_tables_414 : decode cL_tables 414 = .ok (.iinc 6 1, 3) := by decide +kernel
theorem dL_tables_417 : decode cL_tables 417 = .ok (.goto (-402), 3) := by decide +kernel
theorem dL_tables_420 : decode cL_tables 420 = .ok (.iconst 0, 1) := by decide +kernel
theorem dL_tables_421 : decode cL_tables 421 = .ok (.istore 6, 2) := by decide +kernel
theorem dL_tables_423 : decode cL_tables 423 = .ok (.iconst 0, 1) := by decide +kernel
theorem dL_tables_424 : decode cL_tables 424 = .ok (.istore 7, 2) := by decide +kernel
theorem dL_tables_426 : decode cL_tables 426 = .ok (.iload 7, 2) := by decide +kernel
theorem dL_tables_428 : decode cL_tables 428 = .ok (.bipush 7, 2) := by decide +kernel
theorem dL_tables_430 : decode cL_tables 430 = .ok (.if_icmp .ge 22, 3) := by decide +kernel
theorem dL_tables_433 : decode cL_tables 433 = .ok (.iload 6, 2) := by decide +kernel
theorem dL_tables_435 : decode cL_tables 435 = .ok (.aload_n 0, 1) := by decide +kernel
theorem dL_tables_436 : decode cL_tables 436 = .ok (.iconst 2, 1) := by decide +kernel
theorem dL_tables_437 : decode cL_tables 437 = .ok (.iload 7, 2) := by decide +kernel
theorem dL_tables_439 : decode cL_tables 439 = .ok (.iadd, 1) := by decide +kernel
theorem dL_tables_440 : decode cL_tables 440 = .ok (.invokevirtual 28, 3) := by decide +kernel
theorem dL_tables_443 : decode cL_tables 443 = .ok (.iadd, 1) := by decide +kernel
theorem dL_tables_444 : decode cL_tables 444 = .ok (.istore 6, 2) := by decide +kernel
theorem dL_tables_446 : decode cL_tables 446 = .ok (.iinc 7 1, 3) := by decide +kernel
theorem dL_tables_449 : decode cL_tables 449 = .ok (.goto (-23), 3) := by decide +kernel
theorem dL_tables_452 : decode cL_tables 452 = .ok (.iload 5, 2) := by decide +kernel
theorem dL_tables_454 : decode cL_tables 454 = .ok (.ifCond .eq 85, 3) := by decide +kernel
theorem dL_tables_457 : decode cL_tables 457 = .ok (.aload_n 0, 1) := by decide +kernel
theorem dL_tables_458 : decode cL_tables 458 = .ok (.iconst 0, 1) := by decide +kernel
theorem dL_tables_459 : decode cL_tables 459 = .ok (.iconst 2, 1) := by decide +kernel
theorem dL_tables_460 : decode cL_tables 460 = .ok (.invokevirtual 51, 3) := by decide +kernel
theorem dL_tables_463 : decode cL_tables 463 = .ok (.iload_n 1, 1) := by decide +kernel
theorem dL_tables_464 : decode cL_tables 464 = .ok (.if_icmp .ne 75, 3) := by decide +kernel
theorem dL_tables_467 : decode cL_tables 467 = .ok (.iload_n 3, 1) := by decide +kernel
theorem dL_tables_468 : decode cL_tables 468 = .ok (.aload_n 0, 1) := by decide +kernel
theorem dL_tables_469 : decode cL_tables 469 = .ok (.iconst 1, 1) := by decide +kernel
theorem dL_tables_470 : decode cL_tables 470 = .ok (.invokevirtual 28, 3) := by decide +kernel
theorem dL_tables_473 : decode cL_tables 473 = .ok (.if_icmp .ne 66, 3) := by decide +kernel
theorem dL_tables_476 : decode cL_tables 476 = .ok (.iload_n 2, 1) := by decide +kernel
theorem dL_tables_477 : decode cL_tables 477 = .ok (.iload_n 3, 1) := by decide +kernel
theorem dL_tables_478 : decode cL_tables 478 = .ok (.aload_n 0, 1) := by decide +kernel
theorem dL_tables_479 : decode cL_tables 479 = .ok (.bipush 11, 2) := by decide +kernel
theorem dL_tables_481 : decode cL_tables 481 = .ok (.invokevirtual 28, 3) := by decide +kernel
theorem dL_tables_484 : decode cL_tables 484 = .ok (.iadd, 1) := by decide +kernel
theorem dL_tables_485 : decode cL_tables 485 = .ok (.if_icmp .ne 54, 3) := by decide +kernel
theorem dL_tables_488 : decode cL_tables 488 = .ok (.iload 4, 2) := by decide +kernel
theorem dL_tables_490 : decode cL_tables 490 = .ok (.aload_n 0, 1) := by decide +kernel
theorem dL_tables_491 : decode cL_tables 491 = .ok (.iconst 5, 1) := by decide +kernel
theorem dL_tables_492 : decode cL_tables 492 = .ok (.invokevirtual 28, 3) := by decide +kernel
theorem dL_tables_495 : decode cL_tables 495 = .ok (.if_icmp .ne 44, 3) := by decide +kernel
theorem dL_tables_498 : decode cL_tables 498 = .ok (.aload_n 0, 1) := by decide +kernel
theorem dL_tables_499 : decode cL_tables 499 = .ok (.iconst 0, 1) := by decide +kernel
theorem dL_tables_500 : decode cL_tables 500 = .ok (.invokevirtual 28, 3) := by decide +kernel
theorem dL_tables_503 : decode cL_tables 503 = .ok (.iload 4, 2) := by decide +kernel
theorem dL_tables_505 : decode cL_tables 505 = .ok (.iconst 1, 1) := by decide +kernel
theorem dL_tables_506 : decode cL_tables 506 = .ok (.iadd, 1) := by decide +kernel
theorem dL_tables_507 : decode cL_tables 507 = .ok (.if_icmp .ne 32, 3) := by decide +kernel
theorem dL_tables_510 : decode cL_tables 510 = .ok (.iload 6, 2) := by decide +kernel
theorem dL_tables_512 : decode cL_tables 512 = .ok (.iload_n 3, 1) := by decide +kernel
theorem dL_tables_513 : decode cL_tables 513 = .ok (.if_icmp .ne 26, 3) := by decide +kernel
theorem dL_tables_516 : decode cL_tables 516 = .ok (.aload_n 0, 1) := by decide +kernel
theorem dL_tables_517 : decode cL_tables 517 = .ok (.invokevirtual 69, 3) := by decide +kernel
theorem dL_tables_520 : decode cL_tables 520 = .ok (.iload_n 3, 1) := by decide +kernel
theorem dL_tables_521 : decode cL_tables 521 = .ok (.aload_n 0, 1) := by decide +kernel
theorem dL_tables_522 : decode cL_tables 522 = .ok (.iconst 2, 1) := by decide +kernel
theorem dL_tables_523 : decode cL_tables 523 = .ok (.invokevirtual 28, 3) := by decide +kernel
theorem dL_tables_526 : decode cL_tables 526 = .ok (.isub, 1) := by decide +kernel
theorem dL_tables_527 : decode cL_tables 527 = .ok (.i2d, 1) := by decide +kernel
theorem dL_tables_528 : decode cL_tables 528 = .ok (.iload_n 3, 1) := by decide +kernel
theorem dL_tables_529 : decode cL_tables 529 = .ok (.i2d, 1) := by decide +kernel
theorem dL_tables_530 : decode cL_tables 530 = .ok (.ddiv, 1) := by decide +kernel
theorem dL_tables_531 : decode cL_tables 531 = .ok (.dcmp .l, 1) := by decide +kernel
theorem dL_tables_532 : decode cL_tables 532 = .ok (.ifCond .ne 7, 3) := by decide +kernel
theorem dL_tables_535 : decode cL_tables 535 = .ok (.iconst 1, 1) := by decide +kernel
theorem dL_tables_536 : decode cL_tables 536 = .ok (.goto 4, 3) := by decide +kernel
theorem dL_tables_539 : decode cL_tables 539 = .ok (.iconst 0, 1) := by decide +kernel
theorem dL_tables_540 : decode cL_tables 540 = .ok (.ireturn, 1) := by decide +kernel
theorem dL_wide_0 : decode cL_wide 0 = .ok (.aload_n 0, 1) := by decide +kernel
theorem dL_wide_1 : decode cL_wide 1 = .ok (.iload_n 1, 1) := by decide +kernel
theorem dL_wide_2 : decode cL_wide 2 = .ok (.iload_n 2, 1) := by decide +kernel
theorem dL_wide_3 : decode cL_wide 3 = .ok (.iload_n 3, 1) := by decide +kernel
theorem dL_wide_4 : decode cL_wide 4 = .ok (.bipush 7, 2) := by decide +kernel
theorem dL_wide_6 : decode cL_wide 6 = .ok (.invokevirtual 54, 3) := by decide +kernel
theorem dL_wide_9 : decode cL_wide 9 = .ok (.istore 4, 2) := by decide +kernel
theorem dL_wide_11 : decode cL_wide 11 = .ok (.iconst 0, 1) := by decide +kernel
theorem dL_wide_12 : decode cL_wide 12 = .ok (.istore 5, 2) := by decide +kernel
theorem dL_wide_14 : decode cL_wide 14 = .ok (.iload_n 3, 1) := by decide +kernel
theorem dL_wide_15 : decode cL_wide 15 = .ok (.istore 6, 2) := by decide +kernel
theorem dL_wide_17 : decode cL_wide 17 = .ok (.iload 6, 2) := by decide +kernel
theorem dL_wide_19 : decode cL_wide 19 = .ok (.iload_n 3, 1) := by decide +kernel
theorem dL_wide_20 : decode cL_wide 20 = .ok (.aload_n 0, 1) := by decide +kernel
theorem dL_wide_21 : decode cL_wide 21 = .ok (.iload_n 1, 1) := by decide +kernel
theorem dL_wide_22 : decode cL_wide 22 = .ok (.iload_n 2, 1) := by decide +kernel
theorem dL_wide_23 : decode cL_wide 23 = .ok (.iload_n 3, 1) := by decide +kernel
theorem dL_wide_24 : decode cL_wide 24 = .ok (.iconst 4, 1) := by decide +kernel
theorem dL_wide_25 : decode cL_wide 25 = .ok (.invokevirtual 54, 3) := by decide +kernel
theorem dL_wide_28 : decode cL_wide 28 = .ok (.iadd, 1) := by decide +kernel
theorem dL_wide_29 : decode cL_wide 29 = .ok (.if_icmp .ge 22, 3) := by decide +kernel
theorem dL_wide_32 : decode cL_wide 32 = .ok (.iload 5, 2) := by decide +kernel
theorem dL_wide_34 : decode cL_wide 34 = .ok (.aload_n 0, 1) := by decide +kernel
theorem dL_wide_35 : decode cL_wide 35 = .ok (.iload_n 1, 1) := by decide +kernel
theorem dL_wide_36 : decode cL_wide 36 = .ok (.iconst 0, 1) := by decide +kernel
theorem dL_wide_37 : decode cL_wide 37 = .ok (.iload 6, 2) := by decide +kernel
theorem dL_wide_39 : decode cL_wide 39 = .ok (.invokevirtual 73, 3) := by decide +kernel
theorem dL_wide_42 : decode cL_wide 42 = .ok (.iadd, 1) := by decide +kernel
theorem dL_wide_43 : decode cL_wide 43 = .ok (.istore 5, 2) := by decide +kernel
theorem dL_wide_45 : decode cL_wide 45 = .ok (.iinc 6 1, 3) := by decide +kernel
theorem dL_wide_48 : decode cL_wide 48 = .ok (.goto (-31), 3) := by decide +kernel
theorem dL_wide_51 : decode cL_wide 51 = .ok (.aload_n 0, 1) := by decide +kernel
theorem dL_wide_52 : decode cL_wide 52 = .ok (.iload_n 1, 1) := by decide +kernel
theorem dL_wide_53 : decode cL_wide 53 = .ok (.iload_n 2, 1) := by decide +kernel
theorem dL_wide_54 : decode cL_wide 54 = .ok (.iload_n 3, 1) := by decide +kernel
theorem dL_wide_55 : decode cL_wide 55 = .ok (.iconst 5, 1) := by decide +kernel
theorem dL_wide_56 : decode cL_wide 56 = .ok (.invokevirtual 54, 3) := by decide +kernel
theorem dL_wide_59 : decode cL_wide 59 = .ok (.iload 5, 2) := by decide +kernel
theorem dL_wide_61 : decode cL_wide 61 = .ok (.if_icmp .gt 7, 3) := by decide +kernel
theorem dL_wide_64 : decode cL_wide 64 = .ok (.iconst 1, 1) := by decide +kernel
theorem dL_wide_65 : decode cL_wide 65 = .ok (.goto 4, 3) := by decide +kernel
theorem dL_wide_68 : decode cL_wide 68 = .ok (.iconst 0, 1) := by decide +kernel
theorem dL_wide_69 : decode cL_wide 69 = .ok (.istore 6, 2) := by decide +kernel
theorem dL_wide_71 : decode cL_wide 71 = .ok (.iconst 0, 1) := by decide +kernel
theorem dL_wide_72 : decode cL_wide 72 = .ok (.istore 7, 2) := by decide +kernel
theorem dL_wide_74 : decode cL_wide 74 = .ok (.iload 7, 2) := by decide +kernel
theorem dL_wide_76 : decode cL_wide 76 = .ok (.bipush 25, 2) := by decide +kernel
theorem dL_wide_78 : decode cL_wide 78 = .ok (.if_icmp .ge 116, 3) := by decide +kernel
theorem dL_wide_81 : decode cL_wide 81 = .ok (.iload 6, 2) := by decide +kernel
theorem dL_wide_83 : decode cL_wide 83 = .ok (.ifCond .eq 111, 3) := by decide +kernel
theorem dL_wide_86 : decode cL_wide 86 = .ok (.iload 4, 2) := by decide +kernel
theorem dL_wide_88 : decode cL_wide 88 = .ok (.ifCond .lt 106, 3) := by decide +kernel
theorem dL_wide_91 : decode cL_wide 91 = .ok (.iload 7, 2) := by decide +kernel
theorem dL_wide_93 : decode cL_wide 93 = .ok (.iconst 5, 1) := by decide +kernel
theorem dL_wide_94 : decode cL_wide 94 = .ok (.idiv, 1) := by decide +kernel
theorem dL_wide_95 : decode cL_wide 95 = .ok (.aload_n 0, 1) := by decide +kernel
theorem dL_wide_96 : decode cL_wide 96 = .ok (.iload 4, 2) := by decide +kernel
theorem dL_wide_98 : decode cL_wide 98 = .ok (.iconst 0, 1) := by decide +kernel
theorem dL_wide_99 : decode cL_wide 99 = .ok (.invokevirtual 51, 3) := by decide +kernel
theorem dL_wide_102 : decode cL_wide 102 = .ok (.if_icmp .ge 86, 3) := by decide +kernel
theorem dL_wide_105 : decode cL_wide 105 = .ok (.iload 7, 2) := by decide +kernel
theorem dL_wide_107 : decode cL_wide 107 = .ok (.iconst 5, 1) := by decide +kernel
theorem dL_wide_108 : decode cL_wide 108 = .ok (.irem, 1) := by decide +kernel
theorem dL_wide_109 : decode cL_wide 109 = .ok (.aload_n 0, 1) := by decide +kernel
theorem dL_wide_110 : decode cL_wide 110 = .ok (.iload 4, 2) := by decide +kernel
theorem dL_wide_112 : decode cL_wide 112 = .ok (.iconst 1, 1) := by decide +kernel
theorem dL_wide_113 : decode cL_wide 113 = .ok (.invokevirtual 51, 3) := by decide +kernel
theorem dL_wide_116 : decode cL_wide 116 = .ok (.if_icmp .ge 72, 3) := by decide +kernel
theorem dL_wide_119 : decode cL_wide 119 = .ok (.iload 7, 2) := by decide +kernel
theorem dL_wide_121 : decode cL_wide 121 = .ok (.iconst 5, 1) := by decide +kernel
theorem dL_wide_122 : decode cL_wide 122 = .ok (.idiv, 1) := by decide +kernel
theorem dL_wide_123 : decode cL_wide 123 = .ok (.ifCond .gt 27, 3) := by decide +kernel
theorem dL_wide_126 : decode cL_wide 126 = .ok (.aload_n 0, 1) := by decide +kernel
theorem dL_wide_127 : decode cL_wide 127 = .ok (.iload 4, 2) := by decide +kernel
theorem dL_wide_129 : decode cL_wide 129 = .ok (.iconst 0, 1) := by decide +kernel
theorem dL_wide_130 : decode cL_wide 130 = .ok (.iload 7, 2) := by decide +kernel
theorem dL_wide_132 : decode cL_wide 132 = .ok (.iconst 5, 1) := by decide +kernel
theorem dL_wide_133 : decode cL_wide 133 = .ok (.irem, 1) := by decide +kernel
theorem dL_wide_134 : decode cL_wide 134 = .ok (.iconst 0, 1) := by decide +kernel
theorem dL_wide_135 : decode cL_wide 135 = .ok (.invokevirtual 66, 3) := by decide +kernel
theorem dL_wide_138 : decode cL_wide 138 = .ok (.aload_n 0, 1) := by decide +kernel
theorem dL_wide_139 : decode cL_wide 139 = .ok (.iload_n 1, 1) := by decide +kernel
theorem dL_wide_140 : decode cL_wide 140 = .ok (.iload_n 2, 1) := by decide +kernel
theorem dL_wide_141 : decode cL_wide 141 = .ok (.iload_n 3, 1) := by decide +kernel
theorem dL_wide_142 : decode cL_wide 142 = .ok (.bipush 8, 2) := by decide +kernel
theorem dL_wide_144 : decode cL_wide 144 = .ok (.invokevirtual 54, 3) := by decide +kernel
theorem dL_wide_147 : decode cL_wide 147 = .ok (.if_icmp .gt 38, 3) := by decide +kernel
theorem dL_wide_150 : decode cL_wide 150 = .ok (.iload 7, 2) := by decide +kernel
theorem dL_wide_152 : decode cL_wide 152 = .ok (.iconst 5, 1) := by decide +kernel
theorem dL_wide_153 : decode cL_wide 153 = .ok (.irem, 1) := by decide +kernel
theorem dL_wide_154 : decode cL_wide 154 = .ok (.ifCond .gt 27, 3) := by decide +kernel
theorem dL_wide_157 : decode cL_wide 157 = .ok (.aload_n 0, 1) := by decide +kernel
theorem dL_wide_158 : decode cL_wide 158 = .ok (.iload 4, 2) := by decide +kernel
theorem dL_wide_160 : decode cL_wide 160 = .ok (.iload 7, 2) := by decide +kernel
theorem dL_wide_162 : decode cL_wide 162 = .ok (.iconst 5, 1) := by decide +kernel
theorem dL_wide_163 : decode cL_wide 163 = .ok (.idiv, 1) := by decide +kernel
theorem dL_wide_164 : decode cL_wide 164 = .ok (.iconst 0, 1) := by decide +kernel
theorem dL_wide_165 : decode cL_wide 165 = .ok (.iconst 3, 1) := by decide +kernel
theorem dL_wide_166 : decode cL_wide 166 = .ok (.invokevirtual 66, 3) := by decide +kernel
theorem dL_wide_169 : decode cL_wide 169 = .ok (.aload_n 0, 1) := by decide +kernel
theorem dL_wide_170 : decode cL_wide 170 = .ok (.iload_n 1, 1) := by decide +kernel
theorem dL_wide_171 : decode cL_wide 171 = .ok (.iload_n 2, 1) := by decide +kernel
theorem dL_wide_172 : decode cL_wide 172 = .ok (.iload_n 3, 1) := by decide +kernel
theorem dL_wide_173 : decode cL_wide 173 = .ok (.bipush 11, 2) := by decide +kernel
theorem dL_wide_175 : decode cL_wide 175 = .ok (.invokevirtual 54, 3) := by decide +kernel
theorem dL_wide_178 : decode cL_wide 178 = .ok (.if_icmp .gt 7, 3) := by decide +kernel
theorem dL_wide_181 : decode cL_wide 181 = .ok (.iconst 1, 1) := by decide +kernel
theorem dL_wide_182 : decode cL_wide 182 = .ok (.goto 4, 3) := by decide +kernel
theorem dL_wide_185 : decode cL_wide 185 = .ok (.iconst 0, 1) := by decide +kernel
theorem dL_wide_186 : decode cL_wide 186 = .ok (.istore 6, 2) := by decide +kernel
theorem dL_wide_188 : decode cL_wide 188 = .ok (.iinc 7 1, 3) := by decide +kernel
theorem dL_wide_191 : decode cL_wide 191 = .ok (.goto (-117), 3) := by decide +kernel
theorem dL_wide_194 : decode cL_wide 194 = .ok (.iload 6, 2) := by decide +kernel
theorem dL_wide_196 : decode cL_wide 196 = .ok (.ireturn, 1) := by decide +kernel
theorem dL_pages_0 : decode cL_pages 0 = .ok (.aload_n 0, 1) := by decide +kernel
theorem dL_pages_1 : decode cL_pages 1 = .ok (.iconst 0, 1) := by decide +kernel
theorem dL_pages_2 : decode cL_pages 2 = .ok (.iconst 0, 1) := by decide +kernel
theorem dL_pages_3 : decode cL_pages 3 = .ok (.invokevirtual 51, 3) := by decide +kernel
theorem dL_pages_6 : decode cL_pages 6 = .ok (.istore_n 1, 1) := by decide +kernel
theorem dL_pages_7 : decode cL_pages 7 = .ok (.aload_n 0, 1) := by decide +kernel
theorem dL_pages_8 : decode cL_pages 8 = .ok (.iconst 0, 1) := by decide +kernel
theorem dL_pages_9 : decode cL_pages 9 = .ok (.invokevirtual 77, 3) := by decide +kernel
theorem dL_pages_12 : decode cL_pages 12 = .ok (.ifCond .ne 25, 3) := by decide +kernel
theorem dL_pages_15 : decode cL_pages 15 = .ok (.aload_n 0, 1) := by decide +kernel
theorem dL_pages_16 : decode cL_pages 16 = .ok (.bipush 9, 2) := by decide +kernel
theorem dL_pages_18 : decode cL_pages 18 = .ok (.invokevirtual 28, 3) := by decide +kernel
theorem dL_pages_21 : decode cL_pages 21 = .ok (.aload_n 0, 1) := by decide +kernel
theorem dL_pages_22 : decode cL_pages 22 = .ok (.iload_n 1, 1) := by decide +kernel
theorem dL_pages_23 : decode cL_pages 23 = .ok (.iconst 1, 1) := by decide +kernel
theorem dL_pages_24 : decode cL_pages 24 = .ok (.isub, 1) := by decide +kernel
theorem dL_pages_25 : decode cL_pages 25 = .ok (.invokevirtual 77, 3) := by decide +kernel
theorem dL_pages_28 : decode cL_pages 28 = .ok (.iconst 1, 1) := by decide +kernel
theorem dL_pages_29 : decode cL_pages 29 = .ok (.iadd, 1) := by decide +kernel
theorem dL_pages_30 : decode cL_pages 30 = .ok (.if_icmp .ne 7, 3) := by decide +kernel
theorem dL_pages_33 : decode cL_pages 33 = .ok (.iconst 1, 1) := by decide +kernel
theorem dL_pages_34 : decode cL_pages 34 = .ok (.goto 4, 3) := by decide +kernel
theorem dL_pages_37 : decode cL_pages 37 = .ok (.iconst 0, 1) := by decide +kernel
theorem dL_pages_38 : decode cL_pages 38 = .ok (.istore_n 2, 1) := by decide +kernel
theorem dL_pages_39 : decode cL_pages 39 = .ok (.iconst 1, 1) := by decide +kernel
theorem dL_pages_40 : decode cL_pages 40 = .ok (.istore_n 3, 1) := by decide +kernel
theorem dL_pages_41 : decode cL_pages 41 = .ok (.iload_n 3, 1) := by decide +kernel
theorem dL_pages_42 : decode cL_pages 42 = .ok (.iload_n 1, 1) := by decide +kernel
theorem dL_pages_43 : decode cL_pages 43 = .ok (.if_icmp .ge 51, 3) := by decide +kernel
theorem dL_pages_46 : decode cL_pages 46 = .ok (.iload_n 2, 1) := by decide +kernel
theorem dL_pages_47 : decode cL_pages 47 = .ok (.ifCond .eq 47, 3) := by decide +kernel
theorem dL_pages_50 : decode cL_pages 50 = .ok (.aload_n 0, 1) := by decide +kernel
theorem dL_pages_51 : decode cL_pages 51 = .ok (.iload_n 3, 1) := by decide +kernel
theorem dL_pages_52 : decode cL_pages 52 = .ok (.invokevirtual 77, 3) := by decide +kernel
theorem dL_pages_55 : decode cL_pages 55 = .ok (.aload_n 0, 1) := by decide +kernel
theorem dL_pages_56 : decode cL_pages 56 = .ok (.iload_n 3, 1) := by decide +kernel
theorem dL_pages_57 : decode cL_pages 57 = .ok (.iconst 1, 1) := by decide +kernel
theorem dL_pages_58 : decode cL_pages 58 = .ok (.isub, 1) := by decide +kernel
theorem dL_pages_59 : decode cL_pages 59 = .ok (.invokevirtual 77, 3) := by decide +kernel
theorem dL_pages_62 : decode cL_pages 62 = .ok (.if_icmp .eq 20, 3) := by decide +kernel
theorem dL_pages_65 : decode cL_pages 65 = .ok (.aload_n 0, 1) := by decide +kernel
theorem dL_pages_66 : decode cL_pages 66 = .ok (.iload_n 3, 1) := by decide +kernel
theorem dL_pages_67 : decode cL_pages 67 = .ok (.invokevirtual 77, 3) := by decide +kernel
theorem dL_pages_70 : decode cL_pages 70 = .ok (.aload_n 0, 1) := by decide +kernel
theorem dL_pages_71 : decode cL_pages 71 = .ok (.iload_n 3, 1) := by decide +kernel
theorem dL_pages_72 : decode cL_pages 72 = .ok (.iconst 1, 1) := by decide +kernel
theorem dL_pages_73 : decode cL_pages 73 = .ok (.isub, 1) := by decide +kernel
theorem dL_pages_74 : decode cL_pages 74 = .ok (.invokevirtual 77, 3) := by decide +kernel
theorem dL_pages_77 : decode cL_pages 77 = .ok (.iconst 1, 1) := by decide +kernel
theorem dL_pages_78 : decode cL_pages 78 = .ok (.iadd, 1) := by decide +kernel
theorem dL_pages_79 : decode cL_pages 79 = .ok (.if_icmp .ne 7, 3) := by decide +kernel
theorem dL_pages_82 : decode cL_pages 82 = .ok (.iconst 1, 1) := by decide +kernel
theorem dL_pages_83 : decode cL_pages 83 = .ok (.goto 4, 3) := by decide +kernel
theorem dL_pages_86 : decode cL_pages 86 = .ok (.iconst 0, 1) := by decide +kernel
theorem dL_pages_87 : decode cL_pages 87 = .ok (.istore_n 2, 1) := by decide +kernel
theorem dL_pages_88 : decode cL_pages 88 = .ok (.iinc 3 1, 3) := by decide +kernel
theorem dL_pages_91 : decode cL_pages 91 = .ok (.goto (-50), 3) := by decide +kernel
theorem dL_pages_94 : decode cL_pages 94 = .ok (.aload_n 0, 1) := by decide +kernel
theorem dL_pages_95 : decode cL_pages 95 = .ok (.aload_n 0, 1) := by decide +kernel
theorem dL_pages_96 : decode cL_pages 96 = .ok (.bipush 9, 2) := by decide +kernel
theorem dL_pages_98 : decode cL_pages 98 = .ok (.invokevirtual 28, 3) := by decide +kernel
theorem dL_pages_101 : decode cL_pages 101 = .ok (.invokevirtual 80, 3) := by decide +kernel
theorem dL_pages_104 : decode cL_pages 104 = .ok (.istore_n 3, 1) := by decide +kernel
theorem dL_pages_105 : decode cL_pages 105 = .ok (.iload_n 2, 1) := by decide +kernel
theorem dL_pages_106 : decode cL_pages 106 = .ok (.ifCond .eq 12, 3) := by decide +kernel
theorem dL_pages_109 : decode cL_pages 109 = .ok (.iload_n 3, 1) := by decide +kernel
theorem dL_pages_110 : decode cL_pages 110 = .ok (.iconst 1, 1) := by decide +kernel
theorem dL_pages_111 : decode cL_pages 111 = .ok (.if_icmp .lt 7, 3) := by decide +kernel
theorem dL_pages_114 : decode cL_pages 114 = .ok (.iconst 1, 1) := by decide +kernel
theorem dL_pages_115 : decode cL_pages 115 = .ok (.goto 4, 3) := by decide +kernel
theorem dL_pages_118 : decode cL_pages 118 = .ok (.iconst 0, 1) := by decide +kernel
theorem dL_pages_119 : decode cL_pages 119 = .ok (.ireturn, 1) := by decide +kernel
theorem dL_law_0 : decode cL_law 0 = .ok (.new 10, 3) := by decide +kernel
theorem dL_law_3 : decode cL_law 3 = .ok (.dup, 1) := by decide +kernel
theorem dL_law_4 : decode cL_law 4 = .ok (.invokespecial 83, 3) := by decide +kernel
theorem dL_law_7 : decode cL_law 7 = .ok (.astore_n 1, 1) := by decide +kernel
theorem dL_law_8 : decode cL_law 8 = .ok (.iconst 1, 1) := by decide +kernel
theorem dL_law_9 : decode cL_law 9 = .ok (.istore_n 2, 1) := by decide +kernel
theorem dL_law_10 : decode cL_law 10 = .ok (.aload_n 0, 1) := by decide +kernel
theorem dL_law_11 : decode cL_law 11 = .ok (.arraylength, 1) := by decide +kernel
theorem dL_law_12 : decode cL_law 12 = .ok (.iconst 5, 1) := by decide +kernel
theorem dL_law_13 : decode cL_law 13 = .ok (.idiv, 1) := by decide +kernel
theorem dL_law_14 : decode cL_law 14 = .ok (.bipush 24, 2) := by decide +kernel
theorem dL_law_16 : decode cL_law 16 = .ok (.if_icmp .le 8, 3) := by decide +kernel
theorem dL_law_19 : decode cL_law 19 = .ok (.bipush 24, 2) := by decide +kernel
theorem dL_law_21 : decode cL_law 21 = .ok (.goto 7, 3) := by decide +kernel
theorem dL_law_24 : decode cL_law 24 = .ok (.aload_n 0, 1) := by decide +kernel
theorem dL_law_25 : decode cL_law 25 = .ok (.arraylength, 1) := by decide +kernel
theorem dL_law_26 : decode cL_law 26 = .ok (.iconst 5, 1) := by decide +kernel
theorem dL_law_27 : decode cL_law 27 = .ok (.idiv, 1) := by decide +kernel
theorem dL_law_28 : decode cL_law 28 = .ok (.istore_n 3, 1) := by decide +kernel
theorem dL_law_29 : decode cL_law 29 = .ok (.iconst 0, 1) := by decide +kernel
theorem dL_law_30 : decode cL_law 30 = .ok (.istore 4, 2) := by decide +kernel
theorem dL_law_32 : decode cL_law 32 = .ok (.iload 4, 2) := by decide +kernel
theorem dL_law_34 : decode cL_law 34 = .ok (.iload_n 3, 1) := by decide +kernel
theorem dL_law_35 : decode cL_law 35 = .ok (.if_icmp .ge 255, 3) := by decide +kernel
theorem dL_law_38 : decode cL_law 38 = .ok (.iload_n 2, 1) := by decide +kernel
theorem dL_law_39 : decode cL_law 39 = .ok (.ifCond .eq 251, 3) := by decide +kernel
theorem dL_law_42 : decode cL_law 42 = .ok (.aload_n 1, 1) := by decide +kernel
theorem dL_law_43 : decode cL_law 43 = .ok (.bipush 12, 2) := by decide +kernel
theorem dL_law_45 : decode cL_law 45 = .ok (.invokevirtual 28, 3) := by decide +kernel
theorem dL_law_48 : decode cL_law 48 = .ok (.istore 5, 2) := by decide +kernel
theorem dL_law_50 : decode cL_law 50 = .ok (.aload_n 1, 1) := by decide +kernel
theorem dL_law_51 : decode cL_law 51 = .ok (.iconst 1, 1) := by decide +kernel
theorem dL_law_52 : decode cL_law 52 = .ok (.invokevirtual 28, 3) := by decide +kernel
theorem dL_law_55 : decode cL_law 55 = .ok (.istore 6, 2) := by decide +kernel
theorem dL_law_57 : decode cL_law 57 = .ok (.aload_n 1, 1) := by decide +kernel
theorem dL_law_58 : decode cL_law 58 = .ok (.iconst 0, 1) := by decide +kernel
theorem dL_law_59 : decode cL_law 59 = .ok (.iconst 2, 1) := by decide +kernel
theorem dL_law_60 : decode cL_law 60 = .ok (.invokevirtual 51, 3) := by decide +kernel
theorem dL_law_63 : decode cL_law 63 = .ok (.istore 7, 2) := by decide +kernel
theorem dL_law_65 : decode cL_law 65 = .ok (.aload_n 0, 1) := by decide +kernel
theorem dL_law_66 : decode cL_law 66 = .ok (.iconst 5, 1) := by decide +kernel
theorem dL_law_67 : decode cL_law 67 = .ok (.iload 4, 2) := by decide +kernel
theorem dL_law_69 : decode cL_law 69 = .ok (.imul, 1) := by decide +kernel
theorem dL_law_70 : decode cL_law 70 = .ok (.iconst 4, 1) := by decide +kernel
theorem dL_law_71 : decode cL_law 71 = .ok (.iadd, 1) := by decide +kernel
theorem dL_law_72 : decode cL_law 72 = .ok (.invokestatic 84, 3) := by decide +kernel
theorem dL_law_75 : decode cL_law 75 = .ok (.bipush 16, 2) := by decide +kernel
theorem dL_law_77 : decode cL_law 77 = .ok (.invokestatic 32, 3) := by decide +kernel
theorem dL_law_80 : decode cL_law 80 = .ok (.istore 8, 2) := by decide +kernel
theorem dL_law_82 : decode cL_law 82 = .ok (.aload_n 0, 1) := by decide +kernel
theorem dL_law_83 : decode cL_law 83 = .ok (.iconst 5, 1) := by decide +kernel
theorem dL_law_84 : decode cL_law 84 = .ok (.iload 4, 2) := by decide +kernel
theorem dL_law_86 : decode cL_law 86 = .ok (.imul, 1) := by decide +kernel
theorem dL_law_87 : decode cL_law 87 = .ok (.invokestatic 84, 3) := by decide +kernel
theorem dL_law_90 : decode cL_law 90 = .ok (.istore 9, 2) := by decide +kernel
theorem dL_law_92 : decode cL_law 92 = .ok (.iload 8, 2) := by decide +kernel
theorem dL_law_94 : decode cL_law 94 = .ok (.ifCond .ne 10, 3) := by decide +kernel
theorem dL_law_97 : decode cL_law 97 = .ok (.aload_n 1, 1) := by decide +kernel
theorem dL_law_98 : decode cL_law 98 = .ok (.invokestatic 87, 3) := by decide +kernel
theorem dL_law_101 : decode cL_law 101 = .ok (.goto 107, 3) := by decide +kernel
theorem dL_law_104 : decode cL_law 104 = .ok (.iload 8, 2) := by decide +kernel
theorem dL_law_106 : decode cL_law 106 = .ok (.iconst 1, 1) := by decide +kernel
theorem dL_law_107 : decode cL_law 107 = .ok (.if_icmp .ne 43, 3) := by decide +kernel
theorem dL_law_110 : decode cL_law 110 = .ok (.iload 9, 2) := by decide +kernel
theorem dL_law_112 : decode cL_law 112 = .ok (.iconst 3, 1) := by decide +kernel
theorem dL_law_113 : decode cL_law 113 = .ok (.invokestatic 32, 3) := by decide +kernel
theorem dL_law_116 : decode cL_law 116 = .ok (.ifCond .ne 34, 3) := by decide +kernel
theorem dL_law_119 : decode cL_law 119 = .ok (.aload_n 1, 1) := by decide +kernel
theorem dL_law_120 : decode cL_law 120 = .ok (.iconst 1, 1) := by decide +kernel
theorem dL_law_121 : decode cL_law 121 = .ok (.iload 9, 2) := by decide +kernel
theorem dL_law_123 : decode cL_law 123 = .ok (.iconst 5, 1) := by decide +kernel
theorem dL_law_124 : decode cL_law 124 = .ok (.invokestatic 32, 3) := by decide +kernel
theorem dL_law_127 : decode cL_law 127 = .ok (.iadd, 1) := by decide +kernel
theorem dL_law_128 : decode cL_law 128 = .ok (.iconst 1, 1) := by decide +kernel
theorem dL_law_129 : decode cL_law 129 = .ok (.aload_n 0, 1) := by decide +kernel
theorem dL_law_130 : decode cL_law 130 = .ok (.iconst 5, 1) := by decide +kernel
theorem dL_law_131 : decode cL_law 131 = .ok (.iload 4, 2) := by decide +kernel
theorem dL_law_133 : decode cL_law 133 = .ok (.imul, 1) := by decide +kernel
theorem dL_law_134 : decode cL_law 134 = .ok (.iconst 1, 1) := by decide +kernel
theorem dL_law_135 : decode cL_law 135 = .ok (.iadd, 1) := by decide +kernel
theorem dL_law_136 : decode cL_law 136 = .ok (.invokestatic 84, 3) := by decide +kernel
theorem dL_law_139 : decode cL_law 139 = .ok (.iconst 5, 1) := by decide +kernel
theorem dL_law_140 : decode cL_law 140 = .ok (.invokestatic 32, 3) := by decide +kernel
theorem dL_law_143 : decode cL_law 143 = .ok (.iadd, 1) := by decide +kernel
theorem dL_law_144 : decode cL_law 144 = .ok (.invokevirtual 90, 3) := by decide +kernel
theorem dL_law_147 : decode cL_law 147 = .ok (.goto 61, 3) := by decide +kernel
theorem dL_law_150 : decode cL_law 150 = .ok (.iload 8, 2) := by decide +kernel
theorem dL_law_152 : decode cL_law 152 = .ok (.iconst 2, 1) := by decide +kernel
theorem dL_law_153 : decode cL_law 153 = .ok (.if_icmp .ne 19, 3) := by decide +kernel
theorem dL_law_156 : decode cL_law 156 = .ok (.aload_n 1, 1) := by decide +kernel
theorem dL_law_157 : decode cL_law 157 = .ok (.iconst 1, 1) := by decide +kernel
theorem dL_law_158 : decode cL_law 158 = .ok (.iload 9, 2) := by decide +kernel
theorem dL_law_160 : decode cL_law 160 = .ok (.bipush 60, 2) := by decide +kernel
theorem dL_law_162 : decode cL_law 162 = .ok (.invokestatic 32, 3) := by decide +kernel
theorem dL_law_165 : decode cL_law 165 = .ok (.iadd, 1) := by decide +kernel
theorem dL_law_166 : decode cL_law 166 = .ok (.invokevirtual 93, 3) := by decide +kernel
theorem dL_law_169 : decode cL_law 169 = .ok (.goto 39, 3) := by decide +kernel
theorem dL_law_172 : decode cL_law 172 = .ok (.aload_n 1, 1) := by decide +kernel
theorem dL_law_173 : decode cL_law 173 = .ok (.iload 9, 2) := by decide +kernel
theorem dL_law_175 : decode cL_law 175 = .ok (.aload_n 0, 1) := by decide +kernel
theorem dL_law_176 : decode cL_law 176 = .ok (.iconst 5, 1) := by decide +kernel
theorem dL_law_177 : decode cL_law 177 = .ok (.iload 4, 2) := by decide +kernel
theorem dL_law_179 : decode cL_law 179 = .ok (.imul, 1) := by decide +kernel
theorem dL_law_180 : decode cL_law 180 = .ok (.iconst 1, 1) := by decide +kernel
theorem dL_law_181 : decode cL_law 181 = .ok (.iadd, 1) := by decide +kernel
theorem dL_law_182 : decode cL_law 182 = .ok (.invokestatic 84, 3) := by decide +kernel
theorem dL_law_185 : decode cL_law 185 = .ok (.aload_n 0, 1) := by decide +kernel
theorem dL_law_186 : decode cL_law 186 = .ok (.iconst 5, 1) := by decide +kernel
theorem dL_law_187 : decode cL_law 187 = .ok (.iload 4, 2) := by decide +kernel
theorem dL_law_189 : decode cL_law 189 = .ok (.imul, 1) := by decide +kernel
theorem dL_law_190 : decode cL_law 190 = .ok (.iconst 2, 1) := by decide +kernel
theorem dL_law_191 : decode cL_law 191 = .ok (.iadd, 1) := by decide +kernel
theorem dL_law_192 : decode cL_law 192 = .ok (.invokestatic 84, 3) := by decide +kernel
theorem dL_law_195 : decode cL_law 195 = .ok (.aload_n 0, 1) := by decide +kernel
theorem dL_law_196 : decode cL_law 196 = .ok (.iconst 5, 1) := by decide +kernel
theorem dL_law_197 : decode cL_law 197 = .ok (.iload 4, 2) := by decide +kernel
theorem dL_law_199 : decode cL_law 199 = .ok (.imul, 1) := by decide +kernel
theorem dL_law_200 : decode cL_law 200 = .ok (.iconst 3, 1) := by decide +kernel
theorem dL_law_201 : decode cL_law 201 = .ok (.iadd, 1) := by decide +kernel
theorem dL_law_202 : decode cL_law 202 = .ok (.invokestatic 84, 3) := by decide +kernel
theorem dL_law_205 : decode cL_law 205 = .ok (.invokestatic 96, 3) := by decide +kernel
theorem dL_law_208 : decode cL_law 208 = .ok (.istore 10, 2) := by decide +kernel
theorem dL_law_210 : decode cL_law 210 = .ok (.iload 10, 2) := by decide +kernel
theorem dL_law_212 : decode cL_law 212 = .ok (.ifCond .ge 35, 3) := by decide +kernel
theorem dL_law_215 : decode cL_law 215 = .ok (.aload_n 1, 1) := by decide +kernel
theorem dL_law_216 : decode cL_law 216 = .ok (.bipush 12, 2) := by decide +kernel
theorem dL_law_218 : decode cL_law 218 = .ok (.invokevirtual 28, 3) := by decide +kernel
theorem dL_law_221 : decode cL_law 221 = .ok (.iload 5, 2) := by decide +kernel
theorem dL_law_223 : decode cL_law 223 = .ok (.if_icmp .ne 59, 3) := by decide +kernel
theorem dL_law_226 : decode cL_law 226 = .ok (.aload_n 1, 1) := by decide +kernel
theorem dL_law_227 : decode cL_law 227 = .ok (.iconst 1, 1) := by decide +kernel
theorem dL_law_228 : decode cL_law 228 = .ok (.invokevirtual 28, 3) := by decide +kernel
theorem dL_law_231 : decode cL_law 231 = .ok (.iload 6, 2) := by decide +kernel
theorem dL_law_233 : decode cL_law 233 = .ok (.if_icmp .ne 49, 3) := by decide +kernel
theorem dL_law_236 : decode cL_law 236 = .ok (.aload_n 1, 1) := by decide +kernel
theorem dL_law_237 : decode cL_law 237 = .ok (.iconst 0, 1) := by decide +kernel
theorem dL_law_238 : decode cL_law 238 = .ok (.iconst 2, 1) := by decide +kernel
theorem dL_law_239 : decode cL_law 239 = .ok (.invokevirtual 51, 3) := by decide +kernel
theorem dL_law_242 : decode cL_law 242 = .ok (.iload 7, 2) := by decide +kernel
theorem dL_law_244 : decode cL_law 244 = .ok (.if_icmp .ne 38, 3) := by decide +kernel
theorem dL_law_247 : decode cL_law 247 = .ok (.aload_n 1, 1) := by decide +kernel
theorem dL_law_248 : decode cL_law 248 = .ok (.invokestatic 100, 3) := by decide +kernel
theorem dL_law_251 : decode cL_law 251 = .ok (.ifCond .eq 31, 3) := by decide +kernel
theorem dL_law_254 : decode cL_law 254 = .ok (.iload 4, 2) := by decide +kernel
theorem dL_law_256 : decode cL_law 256 = .ok (.bipush 6, 2) := by decide +kernel
theorem dL_law_258 : decode cL_law 258 = .ok (.irem, 1) := by decide +kernel
theorem dL_law_259 : decode cL_law 259 = .ok (.iconst 5, 1) := by decide +kernel
theorem dL_law_260 : decode cL_law 260 = .ok (.if_icmp .ge 11, 3) := by decide +kernel
theorem dL_law_263 : decode cL_law 263 = .ok (.iload 4, 2) := by decide +kernel
theorem dL_law_265 : decode cL_law 265 = .ok (.iconst 1, 1) := by decide +kernel
theorem dL_law_266 : decode cL_law 266 = .ok (.iadd, 1) := by decide +kernel
theorem dL_law_267 : decode cL_law 267 = .ok (.iload_n 3, 1) := by decide +kernel
theorem dL_law_268 : decode cL_law 268 = .ok (.if_icmp .lt 10, 3) := by decide +kernel
theorem dL_law_271 : decode cL_law 271 = .ok (.aload_n 1, 1) := by decide +kernel
theorem dL_law_272 : decode cL_law 272 = .ok (.invokestatic 104, 3) := by decide +kernel
theorem dL_law_275 : decode cL_law 275 = .ok (.ifCond .eq 7, 3) := by decide +kernel
theorem dL_law_278 : decode cL_law 278 = .ok (.iconst 1, 1) := by decide +kernel
theorem dL_law_279 : decode cL_law 279 = .ok (.goto 4, 3) := by decide +kernel
theorem dL_law_282 : decode cL_law 282 = .ok (.iconst 0, 1) := by decide +kernel
theorem dL_law_283 : decode cL_law 283 = .ok (.istore_n 2, 1) := by decide +kernel
theorem dL_law_284 : decode cL_law 284 = .ok (.iinc 4 1, 3) := by decide +kernel
theorem dL_law_287 : decode cL_law 287 = .ok (.goto (-255), 3) := by decide +kernel
theorem dL_law_290 : decode cL_law 290 = .ok (.iload_n 2, 1) := by decide +kernel
theorem dL_law_291 : decode cL_law 291 = .ok (.ireturn, 1) := by decide +kernel

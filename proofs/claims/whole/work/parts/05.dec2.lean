theorem dX5_init_0 : decode cX5_init 0 = .ok (.aload_n 0, 1) := by decide +kernel
theorem dX5_init_1 : decode cX5_init 1 = .ok (.invokespecial 3, 3) := by decide +kernel
theorem dX5_init_4 : decode cX5_init 4 = .ok (.aload_n 0, 1) := by decide +kernel
theorem dX5_init_5 : decode cX5_init 5 = .ok (.new 9, 3) := by decide +kernel
theorem dX5_init_8 : decode cX5_init 8 = .ok (.dup, 1) := by decide +kernel
theorem dX5_init_9 : decode cX5_init 9 = .ok (.invokespecial 11, 3) := by decide +kernel
theorem dX5_init_12 : decode cX5_init 12 = .ok (.putfield 12, 3) := by decide +kernel
theorem dX5_init_15 : decode cX5_init 15 = .ok (.aload_n 0, 1) := by decide +kernel
theorem dX5_init_16 : decode cX5_init 16 = .ok (.aload_n 0, 1) := by decide +kernel
theorem dX5_init_17 : decode cX5_init 17 = .ok (.getfield 12, 3) := by decide +kernel
theorem dX5_init_20 : decode cX5_init 20 = .ok (.getfield 16, 3) := by decide +kernel
theorem dX5_init_23 : decode cX5_init 23 = .ok (.putfield 20, 3) := by decide +kernel
theorem dX5_init_26 : decode cX5_init 26 = .ok (.aload_n 0, 1) := by decide +kernel
theorem dX5_init_27 : decode cX5_init 27 = .ok (.new 9, 3) := by decide +kernel
theorem dX5_init_30 : decode cX5_init 30 = .ok (.dup, 1) := by decide +kernel
theorem dX5_init_31 : decode cX5_init 31 = .ok (.invokespecial 11, 3) := by decide +kernel
theorem dX5_init_34 : decode cX5_init 34 = .ok (.putfield 21, 3) := by decide +kernel
theorem dX5_init_37 : decode cX5_init 37 = .ok (.aload_n 0, 1) := by decide +kernel
theorem dX5_init_38 : decode cX5_init 38 = .ok (.new 24, 3) := by decide +kernel
theorem dX5_init_41 : decode cX5_init 41 = .ok (.dup, 1) := by decide +kernel
theorem dX5_init_42 : decode cX5_init 42 = .ok (.invokespecial 26, 3) := by decide +kernel
theorem dX5_init_45 : decode cX5_init 45 = .ok (.putfield 27, 3) := by decide +kernel
theorem dX5_init_48 : decode cX5_init 48 = .ok (.aload_n 0, 1) := by decide +kernel
theorem dX5_init_49 : decode cX5_init 49 = .ok (.new 31, 3) := by decide +kernel
theorem dX5_init_52 : decode cX5_init 52 = .ok (.dup, 1) := by decide +kernel
theorem dX5_init_53 : decode cX5_init 53 = .ok (.invokespecial 33, 3) := by decide +kernel
theorem dX5_init_56 : decode cX5_init 56 = .ok (.putfield 34, 3) := by decide +kernel
theorem dX5_init_59 : decode cX5_init 59 = .ok (.aload_n 0, 1) := by decide +kernel
theorem dX5_init_60 : decode cX5_init 60 = .ok (.getfield 20, 3) := by decide +kernel
theorem dX5_init_63 : decode cX5_init 63 = .ok (.iconst 3, 1) := by decide +kernel
theorem dX5_init_64 : decode cX5_init 64 = .ok (.iconst 3, 1) := by decide +kernel
theorem dX5_init_65 : decode cX5_init 65 = .ok (.invokevirtual 38, 3) := by decide +kernel
theorem dX5_init_68 : decode cX5_init 68 = .ok (.aload_n 0, 1) := by decide +kernel
theorem dX5_init_69 : decode cX5_init 69 = .ok (.getfield 12, 3) := by decide +kernel
theorem dX5_init_72 : decode cX5_init 72 = .ok (.invokevirtual 44, 3) := by decide +kernel
theorem dX5_init_75 : decode cX5_init 75 = .ok (.return_, 1) := by decide +kernel
theorem dX5_begin_0 : decode cX5_begin 0 = .ok (.iload_n 1, 1) := by decide +kernel
theorem dX5_begin_1 : decode cX5_begin 1 = .ok (.iload_n 2, 1) := by decide +kernel
theorem dX5_begin_2 : decode cX5_begin 2 = .ok (.invokestatic 47, 3) := by decide +kernel
theorem dX5_begin_5 : decode cX5_begin 5 = .ok (.aload_n 0, 1) := by decide +kernel
theorem dX5_begin_6 : decode cX5_begin 6 = .ok (.getfield 27, 3) := by decide +kernel
theorem dX5_begin_9 : decode cX5_begin 9 = .ok (.aload_n 0, 1) := by decide +kernel
theorem dX5_begin_10 : decode cX5_begin 10 = .ok (.getfield 20, 3) := by decide +kernel
theorem dX5_begin_13 : decode cX5_begin 13 = .ok (.invokevirtual 50, 3) := by decide +kernel
theorem dX5_begin_16 : decode cX5_begin 16 = .ok (.aload_n 0, 1) := by decide +kernel
theorem dX5_begin_17 : decode cX5_begin 17 = .ok (.getfield 20, 3) := by decide +kernel
theorem dX5_begin_20 : decode cX5_begin 20 = .ok (.iload_n 1, 1) := by decide +kernel
theorem dX5_begin_21 : decode cX5_begin 21 = .ok (.iload_n 2, 1) := by decide +kernel
theorem dX5_begin_22 : decode cX5_begin 22 = .ok (.invokevirtual 38, 3) := by decide +kernel
theorem dX5_begin_25 : decode cX5_begin 25 = .ok (.aload_n 0, 1) := by decide +kernel
theorem dX5_begin_26 : decode cX5_begin 26 = .ok (.getfield 12, 3) := by decide +kernel
theorem dX5_begin_29 : decode cX5_begin 29 = .ok (.invokevirtual 44, 3) := by decide +kernel
theorem dX5_begin_32 : decode cX5_begin 32 = .ok (.iload_n 1, 1) := by decide +kernel
theorem dX5_begin_33 : decode cX5_begin 33 = .ok (.iload_n 2, 1) := by decide +kernel
theorem dX5_begin_34 : decode cX5_begin 34 = .ok (.imul, 1) := by decide +kernel
theorem dX5_begin_35 : decode cX5_begin 35 = .ok (.ireturn, 1) := by decide +kernel
theorem dX5_nest_0 : decode cX5_nest 0 = .ok (.aload_n 0, 1) := by decide +kernel
theorem dX5_nest_1 : decode cX5_nest 1 = .ok (.iload_n 1, 1) := by decide +kernel
theorem dX5_nest_2 : decode cX5_nest 2 = .ok (.iload_n 2, 1) := by decide +kernel
theorem dX5_nest_3 : decode cX5_nest 3 = .ok (.iload_n 3, 1) := by decide +kernel
theorem dX5_nest_4 : decode cX5_nest 4 = .ok (.invokevirtual 54, 3) := by decide +kernel
theorem dX5_nest_7 : decode cX5_nest 7 = .ok (.istore 6, 2) := by decide +kernel
theorem dX5_nest_9 : decode cX5_nest 9 = .ok (.iload 4, 2) := by decide +kernel
theorem dX5_nest_11 : decode cX5_nest 11 = .ok (.iload 5, 2) := by decide +kernel
theorem dX5_nest_13 : decode cX5_nest 13 = .ok (.invokestatic 47, 3) := by decide +kernel
theorem dX5_nest_16 : decode cX5_nest 16 = .ok (.aload_n 0, 1) := by decide +kernel
theorem dX5_nest_17 : decode cX5_nest 17 = .ok (.getfield 20, 3) := by decide +kernel
theorem dX5_nest_20 : decode cX5_nest 20 = .ok (.iload 6, 2) := by decide +kernel
theorem dX5_nest_22 : decode cX5_nest 22 = .ok (.invokevirtual 58, 3) := by decide +kernel
theorem dX5_nest_25 : decode cX5_nest 25 = .ok (.ifCond .eq 29, 3) := by decide +kernel
theorem dX5_nest_28 : decode cX5_nest 28 = .ok (.aload_n 0, 1) := by decide +kernel
theorem dX5_nest_29 : decode cX5_nest 29 = .ok (.getfield 20, 3) := by decide +kernel
theorem dX5_nest_32 : decode cX5_nest 32 = .ok (.getfield 62, 3) := by decide +kernel
theorem dX5_nest_35 : decode cX5_nest 35 = .ok (.iload 6, 2) := by decide +kernel
theorem dX5_nest_37 : decode cX5_nest 37 = .ok (.invokevirtual 66, 3) := by decide +kernel
theorem dX5_nest_40 : decode cX5_nest 40 = .ok (.ifCond .ne 14, 3) := by decide +kernel
theorem dX5_nest_43 : decode cX5_nest 43 = .ok (.aload_n 0, 1) := by decide +kernel
theorem dX5_nest_44 : decode cX5_nest 44 = .ok (.getfield 20, 3) := by decide +kernel
theorem dX5_nest_47 : decode cX5_nest 47 = .ok (.getfield 72, 3) := by decide +kernel
theorem dX5_nest_50 : decode cX5_nest 50 = .ok (.iconst 5, 1) := by decide +kernel
theorem dX5_nest_51 : decode cX5_nest 51 = .ok (.if_icmp .lt 11, 3) := by decide +kernel
theorem dX5_nest_54 : decode cX5_nest 54 = .ok (.new 76, 3) := by decide +kernel
theorem dX5_nest_57 : decode cX5_nest 57 = .ok (.dup, 1) := by decide +kernel
theorem dX5_nest_58 : decode cX5_nest 58 = .ok (.invokespecial 78, 3) := by decide +kernel
theorem dX5_nest_61 : decode cX5_nest 61 = .ok (.athrow, 1) := by decide +kernel
theorem dX5_nest_62 : decode cX5_nest 62 = .ok (.aload_n 0, 1) := by decide +kernel
theorem dX5_nest_63 : decode cX5_nest 63 = .ok (.getfield 27, 3) := by decide +kernel
theorem dX5_nest_66 : decode cX5_nest 66 = .ok (.aload_n 0, 1) := by decide +kernel
theorem dX5_nest_67 : decode cX5_nest 67 = .ok (.getfield 20, 3) := by decide +kernel
theorem dX5_nest_70 : decode cX5_nest 70 = .ok (.invokevirtual 50, 3) := by decide +kernel
theorem dX5_nest_73 : decode cX5_nest 73 = .ok (.aload_n 0, 1) := by decide +kernel
theorem dX5_nest_74 : decode cX5_nest 74 = .ok (.getfield 20, 3) := by decide +kernel
theorem dX5_nest_77 : decode cX5_nest 77 = .ok (.iload 6, 2) := by decide +kernel
theorem dX5_nest_79 : decode cX5_nest 79 = .ok (.iload 4, 2) := by decide +kernel
theorem dX5_nest_81 : decode cX5_nest 81 = .ok (.iload 5, 2) := by decide +kernel
theorem dX5_nest_83 : decode cX5_nest 83 = .ok (.invokevirtual 79, 3) := by decide +kernel
theorem dX5_nest_86 : decode cX5_nest 86 = .ok (.istore 7, 2) := by decide +kernel
theorem dX5_nest_88 : decode cX5_nest 88 = .ok (.aload_n 0, 1) := by decide +kernel
theorem dX5_nest_89 : decode cX5_nest 89 = .ok (.getfield 12, 3) := by decide +kernel
theorem dX5_nest_92 : decode cX5_nest 92 = .ok (.invokevirtual 44, 3) := by decide +kernel
theorem dX5_nest_95 : decode cX5_nest 95 = .ok (.iload 7, 2) := by decide +kernel
theorem dX5_nest_97 : decode cX5_nest 97 = .ok (.ireturn, 1) := by decide +kernel
theorem dX5_put_0 : decode cX5_put 0 = .ok (.aload_n 0, 1) := by decide +kernel
theorem dX5_put_1 : decode cX5_put 1 = .ok (.iload_n 1, 1) := by decide +kernel
theorem dX5_put_2 : decode cX5_put 2 = .ok (.iload_n 2, 1) := by decide +kernel
theorem dX5_put_3 : decode cX5_put 3 = .ok (.iload_n 3, 1) := by decide +kernel
theorem dX5_put_4 : decode cX5_put 4 = .ok (.invokevirtual 54, 3) := by decide +kernel
theorem dX5_put_7 : decode cX5_put 7 = .ok (.istore 6, 2) := by decide +kernel
theorem dX5_put_9 : decode cX5_put 9 = .ok (.iload 4, 2) := by decide +kernel
theorem dX5_put_11 : decode cX5_put 11 = .ok (.iload 5, 2) := by decide +kernel
theorem dX5_put_13 : decode cX5_put 13 = .ok (.invokestatic 82, 3) := by decide +kernel
theorem dX5_put_16 : decode cX5_put 16 = .ok (.ifCond .ne 11, 3) := by decide +kernel
theorem dX5_put_19 : decode cX5_put 19 = .ok (.new 86, 3) := by decide +kernel
theorem dX5_put_22 : decode cX5_put 22 = .ok (.dup, 1) := by decide +kernel
theorem dX5_put_23 : decode cX5_put 23 = .ok (.invokespecial 88, 3) := by decide +kernel
theorem dX5_put_26 : decode cX5_put 26 = .ok (.athrow, 1) := by decide +kernel
theorem dX5_put_27 : decode cX5_put 27 = .ok (.aload_n 0, 1) := by decide +kernel
theorem dX5_put_28 : decode cX5_put 28 = .ok (.getfield 20, 3) := by decide +kernel
theorem dX5_put_31 : decode cX5_put 31 = .ok (.iload 6, 2) := by decide +kernel
theorem dX5_put_33 : decode cX5_put 33 = .ok (.invokevirtual 89, 3) := by decide +kernel
theorem dX5_put_36 : decode cX5_put 36 = .ok (.ifCond .ne 11, 3) := by decide +kernel
theorem dX5_put_39 : decode cX5_put 39 = .ok (.new 76, 3) := by decide +kernel
theorem dX5_put_42 : decode cX5_put 42 = .ok (.dup, 1) := by decide +kernel
theorem dX5_put_43 : decode cX5_put 43 = .ok (.invokespecial 78, 3) := by decide +kernel
theorem dX5_put_46 : decode cX5_put 46 = .ok (.athrow, 1) := by decide +kernel
theorem dX5_put_47 : decode cX5_put 47 = .ok (.aload_n 0, 1) := by decide +kernel
theorem dX5_put_48 : decode cX5_put 48 = .ok (.getfield 27, 3) := by decide +kernel
theorem dX5_put_51 : decode cX5_put 51 = .ok (.aload_n 0, 1) := by decide +kernel
theorem dX5_put_52 : decode cX5_put 52 = .ok (.getfield 20, 3) := by decide +kernel
theorem dX5_put_55 : decode cX5_put 55 = .ok (.invokevirtual 50, 3) := by decide +kernel
theorem dX5_put_58 : decode cX5_put 58 = .ok (.aload_n 0, 1) := by decide +kernel
theorem dX5_put_59 : decode cX5_put 59 = .ok (.getfield 20, 3) := by decide +kernel
theorem dX5_put_62 : decode cX5_put 62 = .ok (.iload 6, 2) := by decide +kernel
theorem dX5_put_64 : decode cX5_put 64 = .ok (.iload 4, 2) := by decide +kernel
theorem dX5_put_66 : decode cX5_put 66 = .ok (.iload 5, 2) := by decide +kernel
theorem dX5_put_68 : decode cX5_put 68 = .ok (.invokevirtual 92, 3) := by decide +kernel
theorem dX5_put_71 : decode cX5_put 71 = .ok (.istore 7, 2) := by decide +kernel
theorem dX5_put_73 : decode cX5_put 73 = .ok (.aload_n 0, 1) := by decide +kernel
theorem dX5_put_74 : decode cX5_put 74 = .ok (.getfield 12, 3) := by decide +kernel
theorem dX5_put_77 : decode cX5_put 77 = .ok (.invokevirtual 44, 3) := by decide +kernel
theorem dX5_put_80 : decode cX5_put 80 = .ok (.iload 7, 2) := by decide +kernel
theorem dX5_put_82 : decode cX5_put 82 = .ok (.ireturn, 1) := by decide +kernel
theorem dX5_span_0 : decode cX5_span 0 = .ok (.aload_n 0, 1) := by decide +kernel
theorem dX5_span_1 : decode cX5_span 1 = .ok (.iload_n 1, 1) := by decide +kernel
theorem dX5_span_2 : decode cX5_span 2 = .ok (.iload_n 2, 1) := by decide +kernel
theorem dX5_span_3 : decode cX5_span 3 = .ok (.iload_n 3, 1) := by decide +kernel
theorem dX5_span_4 : decode cX5_span 4 = .ok (.invokevirtual 54, 3) := by decide +kernel
theorem dX5_span_7 : decode cX5_span 7 = .ok (.istore 6, 2) := by decide +kernel
theorem dX5_span_9 : decode cX5_span 9 = .ok (.iload 4, 2) := by decide +kernel
theorem dX5_span_11 : decode cX5_span 11 = .ok (.iconst 1, 1) := by decide +kernel
theorem dX5_span_12 : decode cX5_span 12 = .ok (.iconst 5, 1) := by decide +kernel
theorem dX5_span_13 : decode cX5_span 13 = .ok (.invokestatic 95, 3) := by decide +kernel
theorem dX5_span_16 : decode cX5_span 16 = .ok (.ifCond .eq 17, 3) := by decide +kernel
theorem dX5_span_19 : decode cX5_span 19 = .ok (.iload 5, 2) := by decide +kernel
theorem dX5_span_21 : decode cX5_span 21 = .ok (.iconst 1, 1) := by decide +kernel
theorem dX5_span_22 : decode cX5_span 22 = .ok (.iconst 5, 1) := by decide +kernel
theorem dX5_span_23 : decode cX5_span 23 = .ok (.invokestatic 95, 3) := by decide +kernel
theorem dX5_span_26 : decode cX5_span 26 = .ok (.ifCond .eq 7, 3) := by decide +kernel
theorem dX5_span_29 : decode cX5_span 29 = .ok (.iconst 1, 1) := by decide +kernel
theorem dX5_span_30 : decode cX5_span 30 = .ok (.goto 4, 3) := by decide +kernel
theorem dX5_span_33 : decode cX5_span 33 = .ok (.iconst 0, 1) := by decide +kernel
theorem dX5_span_34 : decode cX5_span 34 = .ok (.istore 7, 2) := by decide +kernel
theorem dX5_span_36 : decode cX5_span 36 = .ok (.iload 7, 2) := by decide +kernel
theorem dX5_span_38 : decode cX5_span 38 = .ok (.ifCond .eq 35, 3) := by decide +kernel
theorem dX5_span_41 : decode cX5_span 41 = .ok (.aload_n 0, 1) := by decide +kernel
theorem dX5_span_42 : decode cX5_span 42 = .ok (.getfield 20, 3) := by decide +kernel
theorem dX5_span_45 : decode cX5_span 45 = .ok (.iload_n 1, 1) := by decide +kernel
theorem dX5_span_46 : decode cX5_span 46 = .ok (.iload_n 2, 1) := by decide +kernel
theorem dX5_span_47 : decode cX5_span 47 = .ok (.iload 4, 2) := by decide +kernel
theorem dX5_span_49 : decode cX5_span 49 = .ok (.iadd, 1) := by decide +kernel
theorem dX5_span_50 : decode cX5_span 50 = .ok (.iconst 1, 1) := by decide +kernel
theorem dX5_span_51 : decode cX5_span 51 = .ok (.isub, 1) := by decide +kernel
theorem dX5_span_52 : decode cX5_span 52 = .ok (.iload_n 3, 1) := by decide +kernel
theorem dX5_span_53 : decode cX5_span 53 = .ok (.iload 5, 2) := by decide +kernel
theorem dX5_span_55 : decode cX5_span 55 = .ok (.iadd, 1) := by decide +kernel
theorem dX5_span_56 : decode cX5_span 56 = .ok (.iconst 1, 1) := by decide +kernel
theorem dX5_span_57 : decode cX5_span 57 = .ok (.isub, 1) := by decide +kernel
theorem dX5_span_58 : decode cX5_span 58 = .ok (.invokevirtual 99, 3) := by decide +kernel
theorem dX5_span_61 : decode cX5_span 61 = .ok (.iconst (-1), 1) := by decide +kernel
theorem dX5_span_62 : decode cX5_span 62 = .ok (.if_icmp .ne 11, 3) := by decide +kernel
theorem dX5_span_65 : decode cX5_span 65 = .ok (.new 102, 3) := by decide +kernel
theorem dX5_span_68 : decode cX5_span 68 = .ok (.dup, 1) := by decide +kernel
theorem dX5_span_69 : decode cX5_span 69 = .ok (.invokespecial 104, 3) := by decide +kernel
theorem dX5_span_72 : decode cX5_span 72 = .ok (.athrow, 1) := by decide +kernel
theorem dX5_span_73 : decode cX5_span 73 = .ok (.iload 4, 2) := by decide +kernel
theorem dX5_span_75 : decode cX5_span 75 = .ok (.iload 5, 2) := by decide +kernel
theorem dX5_span_77 : decode cX5_span 77 = .ok (.invokestatic 47, 3) := by decide +kernel
theorem dX5_span_80 : decode cX5_span 80 = .ok (.aload_n 0, 1) := by decide +kernel
theorem dX5_span_81 : decode cX5_span 81 = .ok (.getfield 20, 3) := by decide +kernel
theorem dX5_span_84 : decode cX5_span 84 = .ok (.iload 6, 2) := by decide +kernel
theorem dX5_span_86 : decode cX5_span 86 = .ok (.invokevirtual 58, 3) := by decide +kernel
theorem dX5_span_89 : decode cX5_span 89 = .ok (.ifCond .eq 19, 3) := by decide +kernel
theorem dX5_span_92 : decode cX5_span 92 = .ok (.aload_n 0, 1) := by decide +kernel
theorem dX5_span_93 : decode cX5_span 93 = .ok (.getfield 20, 3) := by decide +kernel
theorem dX5_span_96 : decode cX5_span 96 = .ok (.iload 6, 2) := by decide +kernel
theorem dX5_span_98 : decode cX5_span 98 = .ok (.iload 4, 2) := by decide +kernel
theorem dX5_span_100 : decode cX5_span 100 = .ok (.iload 5, 2) := by decide +kernel
theorem dX5_span_102 : decode cX5_span 102 = .ok (.invokevirtual 105, 3) := by decide +kernel
theorem dX5_span_105 : decode cX5_span 105 = .ok (.ifCond .ne 11, 3) := by decide +kernel
theorem dX5_span_108 : decode cX5_span 108 = .ok (.new 76, 3) := by decide +kernel
theorem dX5_span_111 : decode cX5_span 111 = .ok (.dup, 1) := by decide +kernel
theorem dX5_span_112 : decode cX5_span 112 = .ok (.invokespecial 78, 3) := by decide +kernel
theorem dX5_span_115 : decode cX5_span 115 = .ok (.athrow, 1) := by decide +kernel
theorem dX5_span_116 : decode cX5_span 116 = .ok (.aload_n 0, 1) := by decide +kernel
theorem dX5_span_117 : decode cX5_span 117 = .ok (.getfield 27, 3) := by decide +kernel
theorem dX5_span_120 : decode cX5_span 120 = .ok (.aload_n 0, 1) := by decide +kernel
theorem dX5_span_121 : decode cX5_span 121 = .ok (.getfield 20, 3) := by decide +kernel
theorem dX5_span_124 : decode cX5_span 124 = .ok (.invokevirtual 50, 3) := by decide +kernel
theorem dX5_span_127 : decode cX5_span 127 = .ok (.aload_n 0, 1) := by decide +kernel
theorem dX5_span_128 : decode cX5_span 128 = .ok (.getfield 20, 3) := by decide +kernel
theorem dX5_span_131 : decode cX5_span 131 = .ok (.iload 6, 2) := by decide +kernel
theorem dX5_span_133 : decode cX5_span 133 = .ok (.iload 4, 2) := by decide +kernel
theorem dX5_span_135 : decode cX5_span 135 = .ok (.iload 5, 2) := by decide +kernel
theorem dX5_span_137 : decode cX5_span 137 = .ok (.invokevirtual 108, 3) := by decide +kernel
theorem dX5_span_140 : decode cX5_span 140 = .ok (.aload_n 0, 1) := by decide +kernel
theorem dX5_span_141 : decode cX5_span 141 = .ok (.getfield 12, 3) := by decide +kernel
theorem dX5_span_144 : decode cX5_span 144 = .ok (.invokevirtual 44, 3) := by decide +kernel
theorem dX5_span_147 : decode cX5_span 147 = .ok (.iload 4, 2) := by decide +kernel
theorem dX5_span_149 : decode cX5_span 149 = .ok (.iload 5, 2) := by decide +kernel
theorem dX5_span_151 : decode cX5_span 151 = .ok (.imul, 1) := by decide +kernel
theorem dX5_span_152 : decode cX5_span 152 = .ok (.ireturn, 1) := by decide +kernel
theorem dX5_rule_0 : decode cX5_rule 0 = .ok (.aload_n 0, 1) := by decide +kernel
theorem dX5_rule_1 : decode cX5_rule 1 = .ok (.iload_n 1, 1) := by decide +kernel
theorem dX5_rule_2 : decode cX5_rule 2 = .ok (.iload_n 2, 1) := by decide +kernel
theorem dX5_rule_3 : decode cX5_rule 3 = .ok (.iload_n 3, 1) := by decide +kernel
theorem dX5_rule_4 : decode cX5_rule 4 = .ok (.invokevirtual 54, 3) := by decide +kernel
theorem dX5_rule_7 : decode cX5_rule 7 = .ok (.istore 6, 2) := by decide +kernel
theorem dX5_rule_9 : decode cX5_rule 9 = .ok (.iload 4, 2) := by decide +kernel
theorem dX5_rule_11 : decode cX5_rule 11 = .ok (.iconst 0, 1) := by decide +kernel
theorem dX5_rule_12 : decode cX5_rule 12 = .ok (.iconst 3, 1) := by decide +kernel
theorem dX5_rule_13 : decode cX5_rule 13 = .ok (.invokestatic 112, 3) := by decide +kernel
theorem dX5_rule_16 : decode cX5_rule 16 = .ok (.iload 5, 2) := by decide +kernel
theorem dX5_rule_18 : decode cX5_rule 18 = .ok (.iconst 0, 1) := by decide +kernel
theorem dX5_rule_19 : decode cX5_rule 19 = .ok (.iconst 3, 1) := by decide +kernel
theorem dX5_rule_20 : decode cX5_rule 20 = .ok (.invokestatic 112, 3) := by decide +kernel
theorem dX5_rule_23 : decode cX5_rule 23 = .ok (.aload_n 0, 1) := by decide +kernel
theorem dX5_rule_24 : decode cX5_rule 24 = .ok (.getfield 20, 3) := by decide +kernel
theorem dX5_rule_27 : decode cX5_rule 27 = .ok (.iload 6, 2) := by decide +kernel
theorem dX5_rule_29 : decode cX5_rule 29 = .ok (.invokevirtual 58, 3) := by decide +kernel
theorem dX5_rule_32 : decode cX5_rule 32 = .ok (.ifCond .ne 11, 3) := by decide +kernel
theorem dX5_rule_35 : decode cX5_rule 35 = .ok (.new 76, 3) := by decide +kernel
theorem dX5_rule_38 : decode cX5_rule 38 = .ok (.dup, 1) := by decide +kernel
theorem dX5_rule_39 : decode cX5_rule 39 = .ok (.invokespecial 78, 3) := by decide +kernel
theorem dX5_rule_42 : decode cX5_rule 42 = .ok (.athrow, 1) := by decide +kernel
theorem dX5_rule_43 : decode cX5_rule 43 = .ok (.aload_n 0, 1) := by decide +kernel
theorem dX5_rule_44 : decode cX5_rule 44 = .ok (.getfield 27, 3) := by decide +kernel
theorem dX5_rule_47 : decode cX5_rule 47 = .ok (.aload_n 0, 1) := by decide +kernel
theorem dX5_rule_48 : decode cX5_rule 48 = .ok (.getfield 20, 3) := by decide +kernel
theorem dX5_rule_51 : decode cX5_rule 51 = .ok (.invokevirtual 50, 3) := by decide +kernel
theorem dX5_rule_54 : decode cX5_rule 54 = .ok (.iload 6, 2) := by decide +kernel
theorem dX5_rule_56 : decode cX5_rule 56 = .ok (.iconst 4, 1) := by decide +kernel
theorem dX5_rule_57 : decode cX5_rule 57 = .ok (.imul, 1) := by decide +kernel
theorem dX5_rule_58 : decode cX5_rule 58 = .ok (.iload 4, 2) := by decide +kernel
theorem dX5_rule_60 : decode cX5_rule 60 = .ok (.iadd, 1) := by decide +kernel
theorem dX5_rule_61 : decode cX5_rule 61 = .ok (.istore 7, 2) := by decide +kernel
theorem dX5_rule_63 : decode cX5_rule 63 = .ok (.aload_n 0, 1) := by decide +kernel
theorem dX5_rule_64 : decode cX5_rule 64 = .ok (.getfield 20, 3) := by decide +kernel
theorem dX5_rule_67 : decode cX5_rule 67 = .ok (.getfield 115, 3) := by decide +kernel
theorem dX5_rule_70 : decode cX5_rule 70 = .ok (.iload 7, 2) := by decide +kernel
theorem dX5_rule_72 : decode cX5_rule 72 = .ok (.invokevirtual 66, 3) := by decide +kernel
theorem dX5_rule_75 : decode cX5_rule 75 = .ok (.istore 8, 2) := by decide +kernel
theorem dX5_rule_77 : decode cX5_rule 77 = .ok (.aload_n 0, 1) := by decide +kernel
theorem dX5_rule_78 : decode cX5_rule 78 = .ok (.getfield 20, 3) := by decide +kernel
theorem dX5_rule_81 : decode cX5_rule 81 = .ok (.getfield 115, 3) := by decide +kernel
theorem dX5_rule_84 : decode cX5_rule 84 = .ok (.iload 7, 2) := by decide +kernel
theorem dX5_rule_86 : decode cX5_rule 86 = .ok (.iload 5, 2) := by decide +kernel
theorem dX5_rule_88 : decode cX5_rule 88 = .ok (.invokevirtual 118, 3) := by decide +kernel
theorem dX5_rule_91 : decode cX5_rule 91 = .ok (.aload_n 0, 1) := by decide +kernel
theorem dX5_rule_92 : decode cX5_rule 92 = .ok (.getfield 12, 3) := by decide +kernel
theorem dX5_rule_95 : decode cX5_rule 95 = .ok (.invokevirtual 44, 3) := by decide +kernel
theorem dX5_rule_98 : decode cX5_rule 98 = .ok (.iload 8, 2) := by decide +kernel
theorem dX5_rule_100 : decode cX5_rule 100 = .ok (.ireturn, 1) := by decide +kernel
theorem dX5_set_0 : decode cX5_set 0 = .ok (.iload_n 1, 1) := by decide +kernel
theorem dX5_set_1 : decode cX5_set 1 = .ok (.iconst 1, 1) := by decide +kernel
theorem dX5_set_2 : decode cX5_set 2 = .ok (.bipush 60, 2) := by decide +kernel
theorem dX5_set_4 : decode cX5_set 4 = .ok (.invokestatic 112, 3) := by decide +kernel
theorem dX5_set_7 : decode cX5_set 7 = .ok (.aload_n 0, 1) := by decide +kernel
theorem dX5_set_8 : decode cX5_set 8 = .ok (.getfield 27, 3) := by decide +kernel
theorem dX5_set_11 : decode cX5_set 11 = .ok (.aload_n 0, 1) := by decide +kernel
theorem dX5_set_12 : decode cX5_set 12 = .ok (.getfield 20, 3) := by decide +kernel
theorem dX5_set_15 : decode cX5_set 15 = .ok (.invokevirtual 50, 3) := by decide +kernel
theorem dX5_set_18 : decode cX5_set 18 = .ok (.aload_n 0, 1) := by decide +kernel
theorem dX5_set_19 : decode cX5_set 19 = .ok (.getfield 20, 3) := by decide +kernel
theorem dX5_set_22 : decode cX5_set 22 = .ok (.getfield 121, 3) := by decide +kernel
theorem dX5_set_25 : decode cX5_set 25 = .ok (.istore_n 2, 1) := by decide +kernel
theorem dX5_set_26 : decode cX5_set 26 = .ok (.aload_n 0, 1) := by decide +kernel
theorem dX5_set_27 : decode cX5_set 27 = .ok (.getfield 20, 3) := by decide +kernel
theorem dX5_set_30 : decode cX5_set 30 = .ok (.iload_n 1, 1) := by decide +kernel
theorem dX5_set_31 : decode cX5_set 31 = .ok (.putfield 121, 3) := by decide +kernel
theorem dX5_set_34 : decode cX5_set 34 = .ok (.iload_n 2, 1) := by decide +kernel
theorem dX5_set_35 : decode cX5_set 35 = .ok (.ireturn, 1) := by decide +kernel
theorem dX5_append_0 : decode cX5_append 0 = .ok (.iload_n 1, 1) := by decide +kernel
theorem dX5_append_1 : decode cX5_append 1 = .ok (.bipush 33, 2) := by decide +kernel
theorem dX5_append_3 : decode cX5_append 3 = .ok (.bipush 126, 2) := by decide +kernel
theorem dX5_append_5 : decode cX5_append 5 = .ok (.invokestatic 112, 3) := by decide +kernel
theorem dX5_append_8 : decode cX5_append 8 = .ok (.aload_n 0, 1) := by decide +kernel
theorem dX5_append_9 : decode cX5_append 9 = .ok (.getfield 34, 3) := by decide +kernel
theorem dX5_append_12 : decode cX5_append 12 = .ok (.getfield 124, 3) := by decide +kernel
theorem dX5_append_15 : decode cX5_append 15 = .ok (.bipush 60, 2) := by decide +kernel
theorem dX5_append_17 : decode cX5_append 17 = .ok (.if_icmp .lt 11, 3) := by decide +kernel
theorem dX5_append_20 : decode cX5_append 20 = .ok (.new 76, 3) := by decide +kernel
theorem dX5_append_23 : decode cX5_append 23 = .ok (.dup, 1) := by decide +kernel
theorem dX5_append_24 : decode cX5_append 24 = .ok (.invokespecial 78, 3) := by decide +kernel
theorem dX5_append_27 : decode cX5_append 27 = .ok (.athrow, 1) := by decide +kernel
theorem dX5_append_28 : decode cX5_append 28 = .ok (.aload_n 0, 1) := by decide +kernel
theorem dX5_append_29 : decode cX5_append 29 = .ok (.getfield 34, 3) := by decide +kernel
theorem dX5_append_32 : decode cX5_append 32 = .ok (.iload_n 1, 1) := by decide +kernel
theorem dX5_append_33 : decode cX5_append 33 = .ok (.invokevirtual 127, 3) := by decide +kernel
theorem dX5_append_36 : decode cX5_append 36 = .ok (.aload_n 0, 1) := by decide +kernel
theorem dX5_append_37 : decode cX5_append 37 = .ok (.getfield 34, 3) := by decide +kernel
theorem dX5_append_40 : decode cX5_append 40 = .ok (.getfield 124, 3) := by decide +kernel
theorem dX5_append_43 : decode cX5_append 43 = .ok (.ireturn, 1) := by decide +kernel
theorem dX5_clearBuffer_0 : decode cX5_clearBuffer 0 = .ok (.aload_n 0, 1) := by decide +kernel
theorem dX5_clearBuffer_1 : decode cX5_clearBuffer 1 = .ok (.getfield 34, 3) := by decide +kernel
theorem dX5_clearBuffer_4 : decode cX5_clearBuffer 4 = .ok (.getfield 124, 3) := by decide +kernel
theorem dX5_clearBuffer_7 : decode cX5_clearBuffer 7 = .ok (.istore_n 1, 1) := by decide +kernel
theorem dX5_clearBuffer_8 : decode cX5_clearBuffer 8 = .ok (.aload_n 0, 1) := by decide +kernel
theorem dX5_clearBuffer_9 : decode cX5_clearBuffer 9 = .ok (.getfield 34, 3) := by decide +kernel
theorem dX5_clearBuffer_12 : decode cX5_clearBuffer 12 = .ok (.iconst 0, 1) := by decide +kernel
theorem dX5_clearBuffer_13 : decode cX5_clearBuffer 13 = .ok (.putfield 124, 3) := by decide +kernel
theorem dX5_clearBuffer_16 : decode cX5_clearBuffer 16 = .ok (.iload_n 1, 1) := by decide +kernel
theorem dX5_clearBuffer_17 : decode cX5_clearBuffer 17 = .ok (.ireturn, 1) := by decide +kernel
theorem dX5_firstError_0 : decode cX5_firstError 0 = .ok (.aload_n 0, 1) := by decide +kernel
theorem dX5_firstError_1 : decode cX5_firstError 1 = .ok (.getfield 34, 3) := by decide +kernel
theorem dX5_firstError_4 : decode cX5_firstError 4 = .ok (.invokevirtual 131, 3) := by decide +kernel
theorem dX5_firstError_7 : decode cX5_firstError 7 = .ok (.ireturn, 1) := by decide +kernel
theorem dX5_run_0 : decode cX5_run 0 = .ok (.aload_n 0, 1) := by decide +kernel
theorem dX5_run_1 : decode cX5_run 1 = .ok (.getfield 34, 3) := by decide +kernel
theorem dX5_run_4 : decode cX5_run 4 = .ok (.invokevirtual 135, 3) := by decide +kernel
theorem dX5_run_7 : decode cX5_run 7 = .ok (.ifCond .ne 11, 3) := by decide +kernel
theorem dX5_run_10 : decode cX5_run 10 = .ok (.new 86, 3) := by decide +kernel
theorem dX5_run_13 : decode cX5_run 13 = .ok (.dup, 1) := by decide +kernel
theorem dX5_run_14 : decode cX5_run 14 = .ok (.invokespecial 88, 3) := by decide +kernel
theorem dX5_run_17 : decode cX5_run 17 = .ok (.athrow, 1) := by decide +kernel
theorem dX5_run_18 : decode cX5_run 18 = .ok (.aload_n 0, 1) := by decide +kernel
theorem dX5_run_19 : decode cX5_run 19 = .ok (.getfield 27, 3) := by decide +kernel
theorem dX5_run_22 : decode cX5_run 22 = .ok (.aload_n 0, 1) := by decide +kernel
theorem dX5_run_23 : decode cX5_run 23 = .ok (.getfield 20, 3) := by decide +kernel
theorem dX5_run_26 : decode cX5_run 26 = .ok (.invokevirtual 50, 3) := by decide +kernel
theorem dX5_run_29 : decode cX5_run 29 = .ok (.iconst 0, 1) := by decide +kernel
theorem dX5_run_30 : decode cX5_run 30 = .ok (.istore_n 1, 1) := by decide +kernel
theorem dX5_run_31 : decode cX5_run 31 = .ok (.iconst 0, 1) := by decide +kernel
theorem dX5_run_32 : decode cX5_run 32 = .ok (.istore_n 2, 1) := by decide +kernel
theorem dX5_run_33 : decode cX5_run 33 = .ok (.iconst 0, 1) := by decide +kernel
theorem dX5_run_34 : decode cX5_run 34 = .ok (.istore_n 3, 1) := by decide +kernel
theorem dX5_run_35 : decode cX5_run 35 = .ok (.iload_n 3, 1) := by decide +kernel
theorem dX5_run_36 : decode cX5_run 36 = .ok (.aload_n 0, 1) := by decide +kernel
theorem dX5_run_37 : decode cX5_run 37 = .ok (.getfield 34, 3) := by decide +kernel
theorem dX5_run_40 : decode cX5_run 40 = .ok (.getfield 124, 3) := by decide +kernel
theorem dX5_run_43 : decode cX5_run 43 = .ok (.if_icmp .gt 39, 3) := by decide +kernel
theorem dX5_run_46 : decode cX5_run 46 = .ok (.aload_n 0, 1) := by decide +kernel
theorem dX5_run_47 : decode cX5_run 47 = .ok (.getfield 34, 3) := by decide +kernel
theorem dX5_run_50 : decode cX5_run 50 = .ok (.iload_n 3, 1) := by decide +kernel
theorem dX5_run_51 : decode cX5_run 51 = .ok (.invokevirtual 139, 3) := by decide +kernel
theorem dX5_run_54 : decode cX5_run 54 = .ok (.ifCond .eq 22, 3) := by decide +kernel
theorem dX5_run_57 : decode cX5_run 57 = .ok (.aload_n 0, 1) := by decide +kernel
theorem dX5_run_58 : decode cX5_run 58 = .ok (.iload_n 2, 1) := by decide +kernel
theorem dX5_run_59 : decode cX5_run 59 = .ok (.iload_n 3, 1) := by decide +kernel
theorem dX5_run_60 : decode cX5_run 60 = .ok (.invokevirtual 142, 3) := by decide +kernel
theorem dX5_run_63 : decode cX5_run 63 = .ok (.ifCond .ne 6, 3) := by decide +kernel
theorem dX5_run_66 : decode cX5_run 66 = .ok (.goto 16, 3) := by decide +kernel
theorem dX5_run_69 : decode cX5_run 69 = .ok (.iinc 1 1, 3) := by decide +kernel
theorem dX5_run_72 : decode cX5_run 72 = .ok (.iload_n 3, 1) := by decide +kernel
theorem dX5_run_73 : decode cX5_run 73 = .ok (.iconst 1, 1) := by decide +kernel
theorem dX5_run_74 : decode cX5_run 74 = .ok (.iadd, 1) := by decide +kernel
theorem dX5_run_75 : decode cX5_run 75 = .ok (.istore_n 2, 1) := by decide +kernel
theorem dX5_run_76 : decode cX5_run 76 = .ok (.iinc 3 1, 3) := by decide +kernel
theorem dX5_run_79 : decode cX5_run 79 = .ok (.goto (-44), 3) := by decide +kernel
theorem dX5_run_82 : decode cX5_run 82 = .ok (.aload_n 0, 1) := by decide +kernel
theorem dX5_run_83 : decode cX5_run 83 = .ok (.getfield 34, 3) := by decide +kernel
theorem dX5_run_86 : decode cX5_run 86 = .ok (.iconst 0, 1) := by decide +kernel
theorem dX5_run_87 : decode cX5_run 87 = .ok (.putfield 124, 3) := by decide +kernel
theorem dX5_run_90 : decode cX5_run 90 = .ok (.aload_n 0, 1) := by decide +kernel
theorem dX5_run_91 : decode cX5_run 91 = .ok (.getfield 12, 3) := by decide +kernel
theorem dX5_run_94 : decode cX5_run 94 = .ok (.invokevirtual 44, 3) := by decide +kernel
theorem dX5_run_97 : decode cX5_run 97 = .ok (.iload_n 1, 1) := by decide +kernel
theorem dX5_run_98 : decode cX5_run 98 = .ok (.ireturn, 1) := by decide +kernel
theorem dX5_undo_0 : decode cX5_undo 0 = .ok (.aload_n 0, 1) := by decide +kernel
theorem dX5_undo_1 : decode cX5_undo 1 = .ok (.getfield 27, 3) := by decide +kernel
theorem dX5_undo_4 : decode cX5_undo 4 = .ok (.getfield 145, 3) := by decide +kernel
theorem dX5_undo_7 : decode cX5_undo 7 = .ok (.ifCond .gt 11, 3) := by decide +kernel
theorem dX5_undo_10 : decode cX5_undo 10 = .ok (.new 76, 3) := by decide +kernel
theorem dX5_undo_13 : decode cX5_undo 13 = .ok (.dup, 1) := by decide +kernel
theorem dX5_undo_14 : decode cX5_undo 14 = .ok (.invokespecial 78, 3) := by decide +kernel
theorem dX5_undo_17 : decode cX5_undo 17 = .ok (.athrow, 1) := by decide +kernel
theorem dX5_undo_18 : decode cX5_undo 18 = .ok (.aload_n 0, 1) := by decide +kernel
theorem dX5_undo_19 : decode cX5_undo 19 = .ok (.getfield 27, 3) := by decide +kernel
theorem dX5_undo_22 : decode cX5_undo 22 = .ok (.aload_n 0, 1) := by decide +kernel
theorem dX5_undo_23 : decode cX5_undo 23 = .ok (.getfield 20, 3) := by decide +kernel
theorem dX5_undo_26 : decode cX5_undo 26 = .ok (.invokevirtual 148, 3) := by decide +kernel
theorem dX5_undo_29 : decode cX5_undo 29 = .ok (.aload_n 0, 1) := by decide +kernel
theorem dX5_undo_30 : decode cX5_undo 30 = .ok (.getfield 12, 3) := by decide +kernel
theorem dX5_undo_33 : decode cX5_undo 33 = .ok (.invokevirtual 44, 3) := by decide +kernel
theorem dX5_undo_36 : decode cX5_undo 36 = .ok (.aload_n 0, 1) := by decide +kernel
theorem dX5_undo_37 : decode cX5_undo 37 = .ok (.getfield 27, 3) := by decide +kernel
theorem dX5_undo_40 : decode cX5_undo 40 = .ok (.getfield 145, 3) := by decide +kernel
theorem dX5_undo_43 : decode cX5_undo 43 = .ok (.ireturn, 1) := by decide +kernel
theorem dX5_cell_0 : decode cX5_cell 0 = .ok (.aload_n 0, 1) := by decide +kernel
theorem dX5_cell_1 : decode cX5_cell 1 = .ok (.iload_n 1, 1) := by decide +kernel
theorem dX5_cell_2 : decode cX5_cell 2 = .ok (.iload_n 2, 1) := by decide +kernel
theorem dX5_cell_3 : decode cX5_cell 3 = .ok (.iload_n 3, 1) := by decide +kernel
theorem dX5_cell_4 : decode cX5_cell 4 = .ok (.invokevirtual 54, 3) := by decide +kernel
theorem dX5_cell_7 : decode cX5_cell 7 = .ok (.istore 5, 2) := by decide +kernel
theorem dX5_cell_9 : decode cX5_cell 9 = .ok (.iload 4, 2) := by decide +kernel
theorem dX5_cell_11 : decode cX5_cell 11 = .ok (.iconst 0, 1) := by decide +kernel
theorem dX5_cell_12 : decode cX5_cell 12 = .ok (.bipush 11, 2) := by decide +kernel
theorem dX5_cell_14 : decode cX5_cell 14 = .ok (.invokestatic 112, 3) := by decide +kernel
theorem dX5_cell_17 : decode cX5_cell 17 = .ok (.aload_n 0, 1) := by decide +kernel
theorem dX5_cell_18 : decode cX5_cell 18 = .ok (.iload 5, 2) := by decide +kernel
theorem dX5_cell_20 : decode cX5_cell 20 = .ok (.iload 4, 2) := by decide +kernel
theorem dX5_cell_22 : decode cX5_cell 22 = .ok (.invokevirtual 151, 3) := by decide +kernel
theorem dX5_cell_25 : decode cX5_cell 25 = .ok (.ireturn, 1) := by decide +kernel
theorem dX5_edge_0 : decode cX5_edge 0 = .ok (.aload_n 0, 1) := by decide +kernel
theorem dX5_edge_1 : decode cX5_edge 1 = .ok (.iload_n 1, 1) := by decide +kernel
theorem dX5_edge_2 : decode cX5_edge 2 = .ok (.iload_n 2, 1) := by decide +kernel
theorem dX5_edge_3 : decode cX5_edge 3 = .ok (.iload_n 3, 1) := by decide +kernel
theorem dX5_edge_4 : decode cX5_edge 4 = .ok (.invokevirtual 54, 3) := by decide +kernel
theorem dX5_edge_7 : decode cX5_edge 7 = .ok (.istore 5, 2) := by decide +kernel
theorem dX5_edge_9 : decode cX5_edge 9 = .ok (.iload 4, 2) := by decide +kernel
theorem dX5_edge_11 : decode cX5_edge 11 = .ok (.iconst 0, 1) := by decide +kernel
theorem dX5_edge_12 : decode cX5_edge 12 = .ok (.iconst 3, 1) := by decide +kernel
theorem dX5_edge_13 : decode cX5_edge 13 = .ok (.invokestatic 112, 3) := by decide +kernel
theorem dX5_edge_16 : decode cX5_edge 16 = .ok (.aload_n 0, 1) := by decide +kernel
theorem dX5_edge_17 : decode cX5_edge 17 = .ok (.getfield 12, 3) := by decide +kernel
theorem dX5_edge_20 : decode cX5_edge 20 = .ok (.getfield 155, 3) := by decide +kernel
theorem dX5_edge_23 : decode cX5_edge 23 = .ok (.iload 5, 2) := by decide +kernel
theorem dX5_edge_25 : decode cX5_edge 25 = .ok (.iconst 4, 1) := by decide +kernel
theorem dX5_edge_26 : decode cX5_edge 26 = .ok (.imul, 1) := by decide +kernel
theorem dX5_edge_27 : decode cX5_edge 27 = .ok (.iload 4, 2) := by decide +kernel
theorem dX5_edge_29 : decode cX5_edge 29 = .ok (.iadd, 1) := by decide +kernel
theorem dX5_edge_30 : decode cX5_edge 30 = .ok (.invokevirtual 66, 3) := by decide +kernel
theorem dX5_edge_33 : decode cX5_edge 33 = .ok (.ireturn, 1) := by decide +kernel
theorem dX5_table_0 : decode cX5_table 0 = .ok (.aload_n 0, 1) := by decide +kernel
theorem dX5_table_1 : decode cX5_table 1 = .ok (.iload_n 1, 1) := by decide +kernel
theorem dX5_table_2 : decode cX5_table 2 = .ok (.invokevirtual 158, 3) := by decide +kernel
theorem dX5_table_5 : decode cX5_table 5 = .ok (.iload_n 2, 1) := by decide +kernel
theorem dX5_table_6 : decode cX5_table 6 = .ok (.iconst 0, 1) := by decide +kernel
theorem dX5_table_7 : decode cX5_table 7 = .ok (.bipush 7, 2) := by decide +kernel
theorem dX5_table_9 : decode cX5_table 9 = .ok (.invokestatic 112, 3) := by decide +kernel
theorem dX5_table_12 : decode cX5_table 12 = .ok (.aload_n 0, 1) := by decide +kernel
theorem dX5_table_13 : decode cX5_table 13 = .ok (.iload_n 1, 1) := by decide +kernel
theorem dX5_table_14 : decode cX5_table 14 = .ok (.iload_n 2, 1) := by decide +kernel
theorem dX5_table_15 : decode cX5_table 15 = .ok (.invokevirtual 161, 3) := by decide +kernel
theorem dX5_table_18 : decode cX5_table 18 = .ok (.ireturn, 1) := by decide +kernel
theorem dX5_size_0 : decode cX5_size 0 = .ok (.aload_n 0, 1) := by decide +kernel
theorem dX5_size_1 : decode cX5_size 1 = .ok (.iload_n 1, 1) := by decide +kernel
theorem dX5_size_2 : decode cX5_size 2 = .ok (.invokevirtual 158, 3) := by decide +kernel
theorem dX5_size_5 : decode cX5_size 5 = .ok (.iload_n 2, 1) := by decide +kernel
theorem dX5_size_6 : decode cX5_size 6 = .ok (.ifCond .eq 7, 3) := by decide +kernel
theorem dX5_size_9 : decode cX5_size 9 = .ok (.iconst 1, 1) := by decide +kernel
theorem dX5_size_10 : decode cX5_size 10 = .ok (.goto 4, 3) := by decide +kernel
theorem dX5_size_13 : decode cX5_size 13 = .ok (.iconst 0, 1) := by decide +kernel
theorem dX5_size_14 : decode cX5_size 14 = .ok (.istore 4, 2) := by decide +kernel
theorem dX5_size_16 : decode cX5_size 16 = .ok (.iload_n 3, 1) := by decide +kernel
theorem dX5_size_17 : decode cX5_size 17 = .ok (.ifCond .lt 17, 3) := by decide +kernel
theorem dX5_size_20 : decode cX5_size 20 = .ok (.iload_n 3, 1) := by decide +kernel
theorem dX5_size_21 : decode cX5_size 21 = .ok (.aload_n 0, 1) := by decide +kernel
theorem dX5_size_22 : decode cX5_size 22 = .ok (.getfield 20, 3) := by decide +kernel
theorem dX5_size_25 : decode cX5_size 25 = .ok (.iload_n 1, 1) := by decide +kernel
theorem dX5_size_26 : decode cX5_size 26 = .ok (.iload 4, 2) := by decide +kernel
theorem dX5_size_28 : decode cX5_size 28 = .ok (.invokevirtual 164, 3) := by decide +kernel
theorem dX5_size_31 : decode cX5_size 31 = .ok (.if_icmp .lt 11, 3) := by decide +kernel
theorem dX5_size_34 : decode cX5_size 34 = .ok (.new 102, 3) := by decide +kernel
theorem dX5_size_37 : decode cX5_size 37 = .ok (.dup, 1) := by decide +kernel
theorem dX5_size_38 : decode cX5_size 38 = .ok (.invokespecial 104, 3) := by decide +kernel
theorem dX5_size_41 : decode cX5_size 41 = .ok (.athrow, 1) := by decide +kernel
theorem dX5_size_42 : decode cX5_size 42 = .ok (.aload_n 0, 1) := by decide +kernel
theorem dX5_size_43 : decode cX5_size 43 = .ok (.getfield 12, 3) := by decide +kernel
theorem dX5_size_46 : decode cX5_size 46 = .ok (.iload_n 1, 1) := by decide +kernel
theorem dX5_size_47 : decode cX5_size 47 = .ok (.iload 4, 2) := by decide +kernel
theorem dX5_size_49 : decode cX5_size 49 = .ok (.iload_n 3, 1) := by decide +kernel
theorem dX5_size_50 : decode cX5_size 50 = .ok (.invokevirtual 167, 3) := by decide +kernel
theorem dX5_size_53 : decode cX5_size 53 = .ok (.ireturn, 1) := by decide +kernel
theorem dX5_page_0 : decode cX5_page 0 = .ok (.iload_n 1, 1) := by decide +kernel
theorem dX5_page_1 : decode cX5_page 1 = .ok (.ifCond .lt 16, 3) := by decide +kernel
theorem dX5_page_4 : decode cX5_page 4 = .ok (.iload_n 1, 1) := by decide +kernel
theorem dX5_page_5 : decode cX5_page 5 = .ok (.aload_n 0, 1) := by decide +kernel
theorem dX5_page_6 : decode cX5_page 6 = .ok (.getfield 20, 3) := by decide +kernel
theorem dX5_page_9 : decode cX5_page 9 = .ok (.iconst 0, 1) := by decide +kernel
theorem dX5_page_10 : decode cX5_page 10 = .ok (.iconst 1, 1) := by decide +kernel
theorem dX5_page_11 : decode cX5_page 11 = .ok (.invokevirtual 164, 3) := by decide +kernel
theorem dX5_page_14 : decode cX5_page 14 = .ok (.if_icmp .lt 11, 3) := by decide +kernel
theorem dX5_page_17 : decode cX5_page 17 = .ok (.new 102, 3) := by decide +kernel
theorem dX5_page_20 : decode cX5_page 20 = .ok (.dup, 1) := by decide +kernel
theorem dX5_page_21 : decode cX5_page 21 = .ok (.invokespecial 104, 3) := by decide +kernel
theorem dX5_page_24 : decode cX5_page 24 = .ok (.athrow, 1) := by decide +kernel
theorem dX5_page_25 : decode cX5_page 25 = .ok (.aload_n 0, 1) := by decide +kernel
theorem dX5_page_26 : decode cX5_page 26 = .ok (.getfield 12, 3) := by decide +kernel
theorem dX5_page_29 : decode cX5_page 29 = .ok (.iload_n 1, 1) := by decide +kernel
theorem dX5_page_30 : decode cX5_page 30 = .ok (.aload_n 0, 1) := by decide +kernel
theorem dX5_page_31 : decode cX5_page 31 = .ok (.getfield 20, 3) := by decide +kernel
theorem dX5_page_34 : decode cX5_page 34 = .ok (.getfield 121, 3) := by decide +kernel
theorem dX5_page_37 : decode cX5_page 37 = .ok (.invokevirtual 170, 3) := by decide +kernel
theorem dX5_page_40 : decode cX5_page 40 = .ok (.ireturn, 1) := by decide +kernel
theorem dX5_count_0 : decode cX5_count 0 = .ok (.iload_n 1, 1) := by decide +kernel
theorem dX5_count_1 : decode cX5_count 1 = .ok (.iconst 0, 1) := by decide +kernel
theorem dX5_count_2 : decode cX5_count 2 = .ok (.bipush 12, 2) := by decide +kernel
theorem dX5_count_4 : decode cX5_count 4 = .ok (.invokestatic 112, 3) := by decide +kernel
theorem dX5_count_7 : decode cX5_count 7 = .ok (.iload_n 1, 1) := by decide +kernel
theorem dX5_count_8 : decode cX5_count 8 = .ok (.tableswitch 131 0 12 #[68, 76, 131, 131, 131, 131, 131, 131, 131, 84, 99, 107, 123], 68) := by decide +kernel
theorem dX5_count_76 : decode cX5_count 76 = .ok (.aload_n 0, 1) := by decide +kernel
theorem dX5_count_77 : decode cX5_count 77 = .ok (.getfield 20, 3) := by decide +kernel
theorem dX5_count_80 : decode cX5_count 80 = .ok (.getfield 72, 3) := by decide +kernel
theorem dX5_count_83 : decode cX5_count 83 = .ok (.ireturn, 1) := by decide +kernel
theorem dX5_count_84 : decode cX5_count 84 = .ok (.aload_n 0, 1) := by decide +kernel
theorem dX5_count_85 : decode cX5_count 85 = .ok (.getfield 20, 3) := by decide +kernel
theorem dX5_count_88 : decode cX5_count 88 = .ok (.invokevirtual 173, 3) := by decide +kernel
theorem dX5_count_91 : decode cX5_count 91 = .ok (.ireturn, 1) := by decide +kernel
theorem dX5_count_92 : decode cX5_count 92 = .ok (.aload_n 0, 1) := by decide +kernel
theorem dX5_count_93 : decode cX5_count 93 = .ok (.getfield 12, 3) := by decide +kernel
theorem dX5_count_96 : decode cX5_count 96 = .ok (.aload_n 0, 1) := by decide +kernel
theorem dX5_count_97 : decode cX5_count 97 = .ok (.getfield 20, 3) := by decide +kernel
theorem dX5_count_100 : decode cX5_count 100 = .ok (.getfield 121, 3) := by decide +kernel
theorem dX5_count_103 : decode cX5_count 103 = .ok (.invokevirtual 176, 3) := by decide +kernel
theorem dX5_count_106 : decode cX5_count 106 = .ok (.ireturn, 1) := by decide +kernel
theorem dX5_count_107 : decode cX5_count 107 = .ok (.aload_n 0, 1) := by decide +kernel
theorem dX5_count_108 : decode cX5_count 108 = .ok (.getfield 12, 3) := by decide +kernel
theorem dX5_count_111 : decode cX5_count 111 = .ok (.invokevirtual 179, 3) := by decide +kernel
theorem dX5_count_114 : decode cX5_count 114 = .ok (.ireturn, 1) := by decide +kernel
theorem dX5_count_115 : decode cX5_count 115 = .ok (.aload_n 0, 1) := by decide +kernel
theorem dX5_count_116 : decode cX5_count 116 = .ok (.getfield 20, 3) := by decide +kernel
theorem dX5_count_119 : decode cX5_count 119 = .ok (.invokevirtual 182, 3) := by decide +kernel
theorem dX5_count_122 : decode cX5_count 122 = .ok (.aload_n 0, 1) := by decide +kernel
theorem dX5_count_123 : decode cX5_count 123 = .ok (.getfield 20, 3) := by decide +kernel
theorem dX5_count_126 : decode cX5_count 126 = .ok (.invokevirtual 173, 3) := by decide +kernel
theorem dX5_count_129 : decode cX5_count 129 = .ok (.isub, 1) := by decide +kernel
theorem dX5_count_130 : decode cX5_count 130 = .ok (.ireturn, 1) := by decide +kernel
theorem dX5_count_131 : decode cX5_count 131 = .ok (.aload_n 0, 1) := by decide +kernel
theorem dX5_count_132 : decode cX5_count 132 = .ok (.getfield 27, 3) := by decide +kernel
theorem dX5_count_135 : decode cX5_count 135 = .ok (.getfield 145, 3) := by decide +kernel
theorem dX5_count_138 : decode cX5_count 138 = .ok (.ireturn, 1) := by decide +kernel
theorem dX5_count_139 : decode cX5_count 139 = .ok (.aload_n 0, 1) := by decide +kernel
theorem dX5_count_140 : decode cX5_count 140 = .ok (.getfield 20, 3) := by decide +kernel
theorem dX5_count_143 : decode cX5_count 143 = .ok (.iload_n 1, 1) := by decide +kernel
theorem dX5_count_144 : decode cX5_count 144 = .ok (.iconst 2, 1) := by decide +kernel
theorem dX5_count_145 : decode cX5_count 145 = .ok (.isub, 1) := by decide +kernel
theorem dX5_count_146 : decode cX5_count 146 = .ok (.invokevirtual 185, 3) := by decide +kernel
theorem dX5_count_149 : decode cX5_count 149 = .ok (.ireturn, 1) := by decide +kernel
theorem dX5_ifPut_0 : decode cX5_ifPut 0 = .ok (.aload_n 0, 1) := by decide +kernel
theorem dX5_ifPut_1 : decode cX5_ifPut 1 = .ok (.iload_n 1, 1) := by decide +kernel
theorem dX5_ifPut_2 : decode cX5_ifPut 2 = .ok (.iload_n 2, 1) := by decide +kernel
theorem dX5_ifPut_3 : decode cX5_ifPut 3 = .ok (.iload_n 3, 1) := by decide +kernel
theorem dX5_ifPut_4 : decode cX5_ifPut 4 = .ok (.invokevirtual 54, 3) := by decide +kernel
theorem dX5_ifPut_7 : decode cX5_ifPut 7 = .ok (.istore 6, 2) := by decide +kernel
theorem dX5_ifPut_9 : decode cX5_ifPut 9 = .ok (.iload 4, 2) := by decide +kernel
theorem dX5_ifPut_11 : decode cX5_ifPut 11 = .ok (.sipush (-999), 3) := by decide +kernel
theorem dX5_ifPut_14 : decode cX5_ifPut 14 = .ok (.sipush 999, 3) := by decide +kernel
theorem dX5_ifPut_17 : decode cX5_ifPut 17 = .ok (.invokestatic 112, 3) := by decide +kernel
theorem dX5_ifPut_20 : decode cX5_ifPut 20 = .ok (.iload 5, 2) := by decide +kernel
theorem dX5_ifPut_22 : decode cX5_ifPut 22 = .ok (.iconst 0, 1) := by decide +kernel
theorem dX5_ifPut_23 : decode cX5_ifPut 23 = .ok (.iconst 2, 1) := by decide +kernel
theorem dX5_ifPut_24 : decode cX5_ifPut 24 = .ok (.invokestatic 112, 3) := by decide +kernel
theorem dX5_ifPut_27 : decode cX5_ifPut 27 = .ok (.aload_n 0, 1) := by decide +kernel
theorem dX5_ifPut_28 : decode cX5_ifPut 28 = .ok (.iload 6, 2) := by decide +kernel
theorem dX5_ifPut_30 : decode cX5_ifPut 30 = .ok (.iload 4, 2) := by decide +kernel
theorem dX5_ifPut_32 : decode cX5_ifPut 32 = .ok (.invokevirtual 188, 3) := by decide +kernel
theorem dX5_ifPut_35 : decode cX5_ifPut 35 = .ok (.ifCond .eq 14, 3) := by decide +kernel
theorem dX5_ifPut_38 : decode cX5_ifPut 38 = .ok (.aload_n 0, 1) := by decide +kernel
theorem dX5_ifPut_39 : decode cX5_ifPut 39 = .ok (.iload 6, 2) := by decide +kernel
theorem dX5_ifPut_41 : decode cX5_ifPut 41 = .ok (.iload 5, 2) := by decide +kernel
theorem dX5_ifPut_43 : decode cX5_ifPut 43 = .ok (.invokevirtual 191, 3) := by decide +kernel
theorem dX5_ifPut_46 : decode cX5_ifPut 46 = .ok (.goto 4, 3) := by decide +kernel
theorem dX5_ifPut_49 : decode cX5_ifPut 49 = .ok (.iconst (-1), 1) := by decide +kernel
theorem dX5_ifPut_50 : decode cX5_ifPut 50 = .ok (.ireturn, 1) := by decide +kernel
theorem dX5_countedBy_0 : decode cX5_countedBy 0 = .ok (.aload_n 0, 1) := by decide +kernel
theorem dX5_countedBy_1 : decode cX5_countedBy 1 = .ok (.iload_n 1, 1) := by decide +kernel
theorem dX5_countedBy_2 : decode cX5_countedBy 2 = .ok (.iload_n 2, 1) := by decide +kernel
theorem dX5_countedBy_3 : decode cX5_countedBy 3 = .ok (.iload_n 3, 1) := by decide +kernel
theorem dX5_countedBy_4 : decode cX5_countedBy 4 = .ok (.invokevirtual 54, 3) := by decide +kernel
theorem dX5_countedBy_7 : decode cX5_countedBy 7 = .ok (.istore 4, 2) := by decide +kernel
theorem dX5_countedBy_9 : decode cX5_countedBy 9 = .ok (.aload_n 0, 1) := by decide +kernel
theorem dX5_countedBy_10 : decode cX5_countedBy 10 = .ok (.iload 4, 2) := by decide +kernel
theorem dX5_countedBy_12 : decode cX5_countedBy 12 = .ok (.invokevirtual 194, 3) := by decide +kernel
theorem dX5_countedBy_15 : decode cX5_countedBy 15 = .ok (.ireturn, 1) := by decide +kernel
theorem dX5_heightFor_0 : decode cX5_heightFor 0 = .ok (.iload_n 1, 1) := by decide +kernel
theorem dX5_heightFor_1 : decode cX5_heightFor 1 = .ok (.iconst 1, 1) := by decide +kernel
theorem dX5_heightFor_2 : decode cX5_heightFor 2 = .ok (.iconst 5, 1) := by decide +kernel
theorem dX5_heightFor_3 : decode cX5_heightFor 3 = .ok (.invokestatic 112, 3) := by decide +kernel
theorem dX5_heightFor_6 : decode cX5_heightFor 6 = .ok (.iconst 1, 1) := by decide +kernel
theorem dX5_heightFor_7 : decode cX5_heightFor 7 = .ok (.istore_n 2, 1) := by decide +kernel
theorem dX5_heightFor_8 : decode cX5_heightFor 8 = .ok (.iload_n 2, 1) := by decide +kernel
theorem dX5_heightFor_9 : decode cX5_heightFor 9 = .ok (.bipush 60, 2) := by decide +kernel
theorem dX5_heightFor_11 : decode cX5_heightFor 11 = .ok (.if_icmp .gt 23, 3) := by decide +kernel
theorem dX5_heightFor_14 : decode cX5_heightFor 14 = .ok (.aload_n 0, 1) := by decide +kernel
theorem dX5_heightFor_15 : decode cX5_heightFor 15 = .ok (.getfield 12, 3) := by decide +kernel
theorem dX5_heightFor_18 : decode cX5_heightFor 18 = .ok (.iload_n 2, 1) := by decide +kernel
theorem dX5_heightFor_19 : decode cX5_heightFor 19 = .ok (.invokevirtual 176, 3) := by decide +kernel
theorem dX5_heightFor_22 : decode cX5_heightFor 22 = .ok (.iload_n 1, 1) := by decide +kernel
theorem dX5_heightFor_23 : decode cX5_heightFor 23 = .ok (.if_icmp .gt 5, 3) := by decide +kernel
theorem dX5_heightFor_26 : decode cX5_heightFor 26 = .ok (.iload_n 2, 1) := by decide +kernel
theorem dX5_heightFor_27 : decode cX5_heightFor 27 = .ok (.ireturn, 1) := by decide +kernel
theorem dX5_heightFor_28 : decode cX5_heightFor 28 = .ok (.iinc 2 1, 3) := by decide +kernel
theorem dX5_heightFor_31 : decode cX5_heightFor 31 = .ok (.goto (-23), 3) := by decide +kernel
theorem dX5_heightFor_34 : decode cX5_heightFor 34 = .ok (.iconst (-1), 1) := by decide +kernel
theorem dX5_heightFor_35 : decode cX5_heightFor 35 = .ok (.ireturn, 1) := by decide +kernel
theorem dX5_filledShare_0 : decode cX5_filledShare 0 = .ok (.aload_n 0, 1) := by decide +kernel
theorem dX5_filledShare_1 : decode cX5_filledShare 1 = .ok (.getfield 20, 3) := by decide +kernel
theorem dX5_filledShare_4 : decode cX5_filledShare 4 = .ok (.invokevirtual 173, 3) := by decide +kernel
theorem dX5_filledShare_7 : decode cX5_filledShare 7 = .ok (.istore_n 1, 1) := by decide +kernel
theorem dX5_filledShare_8 : decode cX5_filledShare 8 = .ok (.iload_n 1, 1) := by decide +kernel
theorem dX5_filledShare_9 : decode cX5_filledShare 9 = .ok (.aload_n 0, 1) := by decide +kernel
theorem dX5_filledShare_10 : decode cX5_filledShare 10 = .ok (.getfield 20, 3) := by decide +kernel
theorem dX5_filledShare_13 : decode cX5_filledShare 13 = .ok (.iconst 0, 1) := by decide +kernel
theorem dX5_filledShare_14 : decode cX5_filledShare 14 = .ok (.invokevirtual 185, 3) := by decide +kernel
theorem dX5_filledShare_17 : decode cX5_filledShare 17 = .ok (.isub, 1) := by decide +kernel
theorem dX5_filledShare_18 : decode cX5_filledShare 18 = .ok (.istore_n 2, 1) := by decide +kernel
theorem dX5_filledShare_19 : decode cX5_filledShare 19 = .ok (.iload_n 1, 1) := by decide +kernel
theorem dX5_filledShare_20 : decode cX5_filledShare 20 = .ok (.ifCond .le 11, 3) := by decide +kernel
theorem dX5_filledShare_23 : decode cX5_filledShare 23 = .ok (.iload_n 2, 1) := by decide +kernel
theorem dX5_filledShare_24 : decode cX5_filledShare 24 = .ok (.i2d, 1) := by decide +kernel
theorem dX5_filledShare_25 : decode cX5_filledShare 25 = .ok (.iload_n 1, 1) := by decide +kernel
theorem dX5_filledShare_26 : decode cX5_filledShare 26 = .ok (.i2d, 1) := by decide +kernel
theorem dX5_filledShare_27 : decode cX5_filledShare 27 = .ok (.ddiv, 1) := by decide +kernel
theorem dX5_filledShare_28 : decode cX5_filledShare 28 = .ok (.goto 4, 3) := by decide +kernel
theorem dX5_filledShare_31 : decode cX5_filledShare 31 = .ok (.dconst 0, 1) := by decide +kernel
theorem dX5_filledShare_32 : decode cX5_filledShare 32 = .ok (.dreturn, 1) := by decide +kernel
theorem dX5_digest_0 : decode cX5_digest 0 = .ok (.ldc2_w 197, 3) := by decide +kernel
theorem dX5_digest_3 : decode cX5_digest 3 = .ok (.lstore_n 1, 1) := by decide +kernel
theorem dX5_digest_4 : decode cX5_digest 4 = .ok (.iconst 0, 1) := by decide +kernel
theorem dX5_digest_5 : decode cX5_digest 5 = .ok (.istore_n 3, 1) := by decide +kernel
theorem dX5_digest_6 : decode cX5_digest 6 = .ok (.iload_n 3, 1) := by decide +kernel
theorem dX5_digest_7 : decode cX5_digest 7 = .ok (.bipush 13, 2) := by decide +kernel
theorem dX5_digest_9 : decode cX5_digest 9 = .ok (.if_icmp .ge 20, 3) := by decide +kernel
theorem dX5_digest_12 : decode cX5_digest 12 = .ok (.lload_n 1, 1) := by decide +kernel
theorem dX5_digest_13 : decode cX5_digest 13 = .ok (.aload_n 0, 1) := by decide +kernel
theorem dX5_digest_14 : decode cX5_digest 14 = .ok (.iload_n 3, 1) := by decide +kernel
theorem dX5_digest_15 : decode cX5_digest 15 = .ok (.invokevirtual 199, 3) := by decide +kernel
theorem dX5_digest_18 : decode cX5_digest 18 = .ok (.i2l, 1) := by decide +kernel
theorem dX5_digest_19 : decode cX5_digest 19 = .ok (.invokestatic 202, 3) := by decide +kernel
theorem dX5_digest_22 : decode cX5_digest 22 = .ok (.lstore_n 1, 1) := by decide +kernel
theorem dX5_digest_23 : decode cX5_digest 23 = .ok (.iinc 3 1, 3) := by decide +kernel
theorem dX5_digest_26 : decode cX5_digest 26 = .ok (.goto (-20), 3) := by decide +kernel
theorem dX5_digest_29 : decode cX5_digest 29 = .ok (.lload_n 1, 1) := by decide +kernel
theorem dX5_digest_30 : decode cX5_digest 30 = .ok (.aload_n 0, 1) := by decide +kernel
theorem dX5_digest_31 : decode cX5_digest 31 = .ok (.getfield 20, 3) := by decide +kernel
theorem dX5_digest_34 : decode cX5_digest 34 = .ok (.getfield 121, 3) := by decide +kernel
theorem dX5_digest_37 : decode cX5_digest 37 = .ok (.i2l, 1) := by decide +kernel
theorem dX5_digest_38 : decode cX5_digest 38 = .ok (.invokestatic 202, 3) := by decide +kernel
theorem dX5_digest_41 : decode cX5_digest 41 = .ok (.lstore_n 1, 1) := by decide +kernel
theorem dX5_digest_42 : decode cX5_digest 42 = .ok (.iconst 0, 1) := by decide +kernel
theorem dX5_digest_43 : decode cX5_digest 43 = .ok (.istore_n 3, 1) := by decide +kernel
theorem dX5_digest_44 : decode cX5_digest 44 = .ok (.iload_n 3, 1) := by decide +kernel
theorem dX5_digest_45 : decode cX5_digest 45 = .ok (.aload_n 0, 1) := by decide +kernel
theorem dX5_digest_46 : decode cX5_digest 46 = .ok (.getfield 20, 3) := by decide +kernel
theorem dX5_digest_49 : decode cX5_digest 49 = .ok (.getfield 72, 3) := by decide +kernel
theorem dX5_digest_52 : decode cX5_digest 52 = .ok (.if_icmp .ge 16, 3) := by decide +kernel
theorem dX5_digest_55 : decode cX5_digest 55 = .ok (.aload_n 0, 1) := by decide +kernel
theorem dX5_digest_56 : decode cX5_digest 56 = .ok (.lload_n 1, 1) := by decide +kernel
theorem dX5_digest_57 : decode cX5_digest 57 = .ok (.iload_n 3, 1) := by decide +kernel
theorem dX5_digest_58 : decode cX5_digest 58 = .ok (.invokevirtual 206, 3) := by decide +kernel
theorem dX5_digest_61 : decode cX5_digest 61 = .ok (.lstore_n 1, 1) := by decide +kernel
theorem dX5_digest_62 : decode cX5_digest 62 = .ok (.iinc 3 1, 3) := by decide +kernel
theorem dX5_digest_65 : decode cX5_digest 65 = .ok (.goto (-21), 3) := by decide +kernel
theorem dX5_digest_68 : decode cX5_digest 68 = .ok (.iconst 0, 1) := by decide +kernel
theorem dX5_digest_69 : decode cX5_digest 69 = .ok (.istore_n 3, 1) := by decide +kernel
theorem dX5_digest_70 : decode cX5_digest 70 = .ok (.iload_n 3, 1) := by decide +kernel
theorem dX5_digest_71 : decode cX5_digest 71 = .ok (.aload_n 0, 1) := by decide +kernel
theorem dX5_digest_72 : decode cX5_digest 72 = .ok (.getfield 20, 3) := by decide +kernel
theorem dX5_digest_75 : decode cX5_digest 75 = .ok (.iconst 0, 1) := by decide +kernel
theorem dX5_digest_76 : decode cX5_digest 76 = .ok (.iconst 1, 1) := by decide +kernel
theorem dX5_digest_77 : decode cX5_digest 77 = .ok (.invokevirtual 164, 3) := by decide +kernel
theorem dX5_digest_80 : decode cX5_digest 80 = .ok (.if_icmp .ge 20, 3) := by decide +kernel
theorem dX5_digest_83 : decode cX5_digest 83 = .ok (.lload_n 1, 1) := by decide +kernel
theorem dX5_digest_84 : decode cX5_digest 84 = .ok (.aload_n 0, 1) := by decide +kernel
theorem dX5_digest_85 : decode cX5_digest 85 = .ok (.iload_n 3, 1) := by decide +kernel
theorem dX5_digest_86 : decode cX5_digest 86 = .ok (.invokevirtual 210, 3) := by decide +kernel
theorem dX5_digest_89 : decode cX5_digest 89 = .ok (.i2l, 1) := by decide +kernel
theorem dX5_digest_90 : decode cX5_digest 90 = .ok (.invokestatic 202, 3) := by decide +kernel
theorem dX5_digest_93 : decode cX5_digest 93 = .ok (.lstore_n 1, 1) := by decide +kernel
theorem dX5_digest_94 : decode cX5_digest 94 = .ok (.iinc 3 1, 3) := by decide +kernel
theorem dX5_digest_97 : decode cX5_digest 97 = .ok (.goto (-27), 3) := by decide +kernel
theorem dX5_digest_100 : decode cX5_digest 100 = .ok (.aload_n 0, 1) := by decide +kernel
theorem dX5_digest_101 : decode cX5_digest 101 = .ok (.iconst 0, 1) := by decide +kernel
theorem dX5_digest_102 : decode cX5_digest 102 = .ok (.bipush 77, 2) := by decide +kernel
theorem dX5_digest_104 : decode cX5_digest 104 = .ok (.invokevirtual 188, 3) := by decide +kernel
theorem dX5_digest_107 : decode cX5_digest 107 = .ok (.istore_n 3, 1) := by decide +kernel
theorem dX5_digest_108 : decode cX5_digest 108 = .ok (.iconst 0, 1) := by decide +kernel
theorem dX5_digest_109 : decode cX5_digest 109 = .ok (.istore 4, 2) := by decide +kernel
theorem dX5_digest_111 : decode cX5_digest 111 = .ok (.iload 4, 2) := by decide +kernel
theorem dX5_digest_113 : decode cX5_digest 113 = .ok (.iconst 3, 1) := by decide +kernel
theorem dX5_digest_114 : decode cX5_digest 114 = .ok (.if_icmp .ge 32, 3) := by decide +kernel
theorem dX5_digest_117 : decode cX5_digest 117 = .ok (.lload_n 1, 1) := by decide +kernel
theorem dX5_digest_118 : decode cX5_digest 118 = .ok (.iload_n 3, 1) := by decide +kernel
theorem dX5_digest_119 : decode cX5_digest 119 = .ok (.ifCond .eq 14, 3) := by decide +kernel
theorem dX5_digest_122 : decode cX5_digest 122 = .ok (.aload_n 0, 1) := by decide +kernel
theorem dX5_digest_123 : decode cX5_digest 123 = .ok (.iconst 0, 1) := by decide +kernel
theorem dX5_digest_124 : decode cX5_digest 124 = .ok (.iload 4, 2) := by decide +kernel
theorem dX5_digest_126 : decode cX5_digest 126 = .ok (.invokevirtual 191, 3) := by decide +kernel
theorem dX5_digest_129 : decode cX5_digest 129 = .ok (.i2l, 1) := by decide +kernel
theorem dX5_digest_130 : decode cX5_digest 130 = .ok (.goto 6, 3) := by decide +kernel
theorem dX5_digest_133 : decode cX5_digest 133 = .ok (.ldc2_w 213, 3) := by decide +kernel
theorem dX5_digest_136 : decode cX5_digest 136 = .ok (.invokestatic 202, 3) := by decide +kernel
theorem dX5_digest_139 : decode cX5_digest 139 = .ok (.lstore_n 1, 1) := by decide +kernel
theorem dX5_digest_140 : decode cX5_digest 140 = .ok (.iinc 4 1, 3) := by decide +kernel
theorem dX5_digest_143 : decode cX5_digest 143 = .ok (.goto (-32), 3) := by decide +kernel
theorem dX5_digest_146 : decode cX5_digest 146 = .ok (.lload_n 1, 1) := by decide +kernel
theorem dX5_digest_147 : decode cX5_digest 147 = .ok (.aload_n 0, 1) := by decide +kernel
theorem dX5_digest_148 : decode cX5_digest 148 = .ok (.iconst 1, 1) := by decide +kernel
theorem dX5_digest_149 : decode cX5_digest 149 = .ok (.invokevirtual 215, 3) := by decide +kernel
theorem dX5_digest_152 : decode cX5_digest 152 = .ok (.i2l, 1) := by decide +kernel
theorem dX5_digest_153 : decode cX5_digest 153 = .ok (.invokestatic 202, 3) := by decide +kernel
theorem dX5_digest_156 : decode cX5_digest 156 = .ok (.lstore_n 1, 1) := by decide +kernel
theorem dX5_digest_157 : decode cX5_digest 157 = .ok (.lload_n 1, 1) := by decide +kernel
theorem dX5_digest_158 : decode cX5_digest 158 = .ok (.aload_n 0, 1) := by decide +kernel
theorem dX5_digest_159 : decode cX5_digest 159 = .ok (.iconst 2, 1) := by decide +kernel
theorem dX5_digest_160 : decode cX5_digest 160 = .ok (.invokevirtual 215, 3) := by decide +kernel
theorem dX5_digest_163 : decode cX5_digest 163 = .ok (.i2l, 1) := by decide +kernel
theorem dX5_digest_164 : decode cX5_digest 164 = .ok (.invokestatic 202, 3) := by decide +kernel
theorem dX5_digest_167 : decode cX5_digest 167 = .ok (.lstore_n 1, 1) := by decide +kernel
theorem dX5_digest_168 : decode cX5_digest 168 = .ok (.lload_n 1, 1) := by decide +kernel
theorem dX5_digest_169 : decode cX5_digest 169 = .ok (.aload_n 0, 1) := by decide +kernel
theorem dX5_digest_170 : decode cX5_digest 170 = .ok (.invokevirtual 218, 3) := by decide +kernel
theorem dX5_digest_173 : decode cX5_digest 173 = .ok (.invokestatic 222, 3) := by decide +kernel
theorem dX5_digest_176 : decode cX5_digest 176 = .ok (.invokestatic 202, 3) := by decide +kernel
theorem dX5_digest_179 : decode cX5_digest 179 = .ok (.lstore_n 1, 1) := by decide +kernel
theorem dX5_digest_180 : decode cX5_digest 180 = .ok (.lload_n 1, 1) := by decide +kernel
theorem dX5_digest_181 : decode cX5_digest 181 = .ok (.aload_n 0, 1) := by decide +kernel
theorem dX5_digest_182 : decode cX5_digest 182 = .ok (.getfield 34, 3) := by decide +kernel
theorem dX5_digest_185 : decode cX5_digest 185 = .ok (.getfield 124, 3) := by decide +kernel
theorem dX5_digest_188 : decode cX5_digest 188 = .ok (.i2l, 1) := by decide +kernel
theorem dX5_digest_189 : decode cX5_digest 189 = .ok (.invokestatic 202, 3) := by decide +kernel
theorem dX5_digest_192 : decode cX5_digest 192 = .ok (.lstore_n 1, 1) := by decide +kernel
theorem dX5_digest_193 : decode cX5_digest 193 = .ok (.iconst 0, 1) := by decide +kernel
theorem dX5_digest_194 : decode cX5_digest 194 = .ok (.istore 4, 2) := by decide +kernel
theorem dX5_digest_196 : decode cX5_digest 196 = .ok (.iload 4, 2) := by decide +kernel
theorem dX5_digest_198 : decode cX5_digest 198 = .ok (.aload_n 0, 1) := by decide +kernel
theorem dX5_digest_199 : decode cX5_digest 199 = .ok (.getfield 34, 3) := by decide +kernel
theorem dX5_digest_202 : decode cX5_digest 202 = .ok (.getfield 124, 3) := by decide +kernel
theorem dX5_digest_205 : decode cX5_digest 205 = .ok (.if_icmp .ge 27, 3) := by decide +kernel
theorem dX5_digest_208 : decode cX5_digest 208 = .ok (.lload_n 1, 1) := by decide +kernel
theorem dX5_digest_209 : decode cX5_digest 209 = .ok (.aload_n 0, 1) := by decide +kernel
theorem dX5_digest_210 : decode cX5_digest 210 = .ok (.getfield 34, 3) := by decide +kernel
theorem dX5_digest_213 : decode cX5_digest 213 = .ok (.getfield 226, 3) := by decide +kernel
theorem dX5_digest_216 : decode cX5_digest 216 = .ok (.iload 4, 2) := by decide +kernel
theorem dX5_digest_218 : decode cX5_digest 218 = .ok (.invokevirtual 66, 3) := by decide +kernel
theorem dX5_digest_221 : decode cX5_digest 221 = .ok (.i2l, 1) := by decide +kernel
theorem dX5_digest_222 : decode cX5_digest 222 = .ok (.invokestatic 202, 3) := by decide +kernel
theorem dX5_digest_225 : decode cX5_digest 225 = .ok (.lstore_n 1, 1) := by decide +kernel
theorem dX5_digest_226 : decode cX5_digest 226 = .ok (.iinc 4 1, 3) := by decide +kernel
theorem dX5_digest_229 : decode cX5_digest 229 = .ok (.goto (-33), 3) := by decide +kernel
theorem dX5_digest_232 : decode cX5_digest 232 = .ok (.lload_n 1, 1) := by decide +kernel
theorem dX5_digest_233 : decode cX5_digest 233 = .ok (.lreturn, 1) := by decide +kernel
theorem dX5_isBetween_0 : decode cX5_isBetween 0 = .ok (.iload_n 0, 1) := by decide +kernel
theorem dX5_isBetween_1 : decode cX5_isBetween 1 = .ok (.iload_n 1, 1) := by decide +kernel
theorem dX5_isBetween_2 : decode cX5_isBetween 2 = .ok (.if_icmp .lt 12, 3) := by decide +kernel
theorem dX5_isBetween_5 : decode cX5_isBetween 5 = .ok (.iload_n 0, 1) := by decide +kernel
theorem dX5_isBetween_6 : decode cX5_isBetween 6 = .ok (.iload_n 2, 1) := by decide +kernel
theorem dX5_isBetween_7 : decode cX5_isBetween 7 = .ok (.if_icmp .gt 7, 3) := by decide +kernel
theorem dX5_isBetween_10 : decode cX5_isBetween 10 = .ok (.iconst 1, 1) := by decide +kernel
theorem dX5_isBetween_11 : decode cX5_isBetween 11 = .ok (.goto 4, 3) := by decide +kernel
theorem dX5_isBetween_14 : decode cX5_isBetween 14 = .ok (.iconst 0, 1) := by decide +kernel
theorem dX5_isBetween_15 : decode cX5_isBetween 15 = .ok (.ireturn, 1) := by decide +kernel
theorem dX5_requireBetween_0 : decode cX5_requireBetween 0 = .ok (.iload_n 0, 1) := by decide +kernel
theorem dX5_requireBetween_1 : decode cX5_requireBetween 1 = .ok (.iload_n 1, 1) := by decide +kernel
theorem dX5_requireBetween_2 : decode cX5_requireBetween 2 = .ok (.iload_n 2, 1) := by decide +kernel
theorem dX5_requireBetween_3 : decode cX5_requireBetween 3 = .ok (.invokestatic 95, 3) := by decide +kernel
theorem dX5_requireBetween_6 : decode cX5_requireBetween 6 = .ok (.ifCond .ne 11, 3) := by decide +kernel
theorem dX5_requireBetween_9 : decode cX5_requireBetween 9 = .ok (.new 86, 3) := by decide +kernel
theorem dX5_requireBetween_12 : decode cX5_requireBetween 12 = .ok (.dup, 1) := by decide +kernel
theorem dX5_requireBetween_13 : decode cX5_requireBetween 13 = .ok (.invokespecial 88, 3) := by decide +kernel
theorem dX5_requireBetween_16 : decode cX5_requireBetween 16 = .ok (.athrow, 1) := by decide +kernel
theorem dX5_requireBetween_17 : decode cX5_requireBetween 17 = .ok (.return_, 1) := by decide +kernel
theorem dX5_requireLines_0 : decode cX5_requireLines 0 = .ok (.iload_n 0, 1) := by decide +kernel
theorem dX5_requireLines_1 : decode cX5_requireLines 1 = .ok (.iconst 1, 1) := by decide +kernel
theorem dX5_requireLines_2 : decode cX5_requireLines 2 = .ok (.iconst 5, 1) := by decide +kernel
theorem dX5_requireLines_3 : decode cX5_requireLines 3 = .ok (.invokestatic 112, 3) := by decide +kernel
theorem dX5_requireLines_6 : decode cX5_requireLines 6 = .ok (.iload_n 1, 1) := by decide +kernel
theorem dX5_requireLines_7 : decode cX5_requireLines 7 = .ok (.iconst 1, 1) := by decide +kernel
theorem dX5_requireLines_8 : decode cX5_requireLines 8 = .ok (.iconst 5, 1) := by decide +kernel
theorem dX5_requireLines_9 : decode cX5_requireLines 9 = .ok (.invokestatic 112, 3) := by decide +kernel
theorem dX5_requireLines_12 : decode cX5_requireLines 12 = .ok (.return_, 1) := by decide +kernel
theorem dX5_requireTable_0 : decode cX5_requireTable 0 = .ok (.aload_n 0, 1) := by decide +kernel
theorem dX5_requireTable_1 : decode cX5_requireTable 1 = .ok (.getfield 20, 3) := by decide +kernel
theorem dX5_requireTable_4 : decode cX5_requireTable 4 = .ok (.iload_n 1, 1) := by decide +kernel
theorem dX5_requireTable_5 : decode cX5_requireTable 5 = .ok (.invokevirtual 229, 3) := by decide +kernel
theorem dX5_requireTable_8 : decode cX5_requireTable 8 = .ok (.ifCond .ne 11, 3) := by decide +kernel
theorem dX5_requireTable_11 : decode cX5_requireTable 11 = .ok (.new 102, 3) := by decide +kernel
theorem dX5_requireTable_14 : decode cX5_requireTable 14 = .ok (.dup, 1) := by decide +kernel
theorem dX5_requireTable_15 : decode cX5_requireTable 15 = .ok (.invokespecial 104, 3) := by decide +kernel
theorem dX5_requireTable_18 : decode cX5_requireTable 18 = .ok (.athrow, 1) := by decide +kernel
theorem dX5_requireTable_19 : decode cX5_requireTable 19 = .ok (.return_, 1) := by decide +kernel
theorem dX5_requireSquare_0 : decode cX5_requireSquare 0 = .ok (.aload_n 0, 1) := by decide +kernel
theorem dX5_requireSquare_1 : decode cX5_requireSquare 1 = .ok (.getfield 20, 3) := by decide +kernel
theorem dX5_requireSquare_4 : decode cX5_requireSquare 4 = .ok (.iload_n 1, 1) := by decide +kernel
theorem dX5_requireSquare_5 : decode cX5_requireSquare 5 = .ok (.iload_n 2, 1) := by decide +kernel
theorem dX5_requireSquare_6 : decode cX5_requireSquare 6 = .ok (.iload_n 3, 1) := by decide +kernel
theorem dX5_requireSquare_7 : decode cX5_requireSquare 7 = .ok (.invokevirtual 99, 3) := by decide +kernel
theorem dX5_requireSquare_10 : decode cX5_requireSquare 10 = .ok (.istore 4, 2) := by decide +kernel
theorem dX5_requireSquare_12 : decode cX5_requireSquare 12 = .ok (.iload 4, 2) := by decide +kernel
theorem dX5_requireSquare_14 : decode cX5_requireSquare 14 = .ok (.iconst (-1), 1) := by decide +kernel
theorem dX5_requireSquare_15 : decode cX5_requireSquare 15 = .ok (.if_icmp .ne 11, 3) := by decide +kernel
theorem dX5_requireSquare_18 : decode cX5_requireSquare 18 = .ok (.new 102, 3) := by decide +kernel
theorem dX5_requireSquare_21 : decode cX5_requireSquare 21 = .ok (.dup, 1) := by decide +kernel
theorem dX5_requireSquare_22 : decode cX5_requireSquare 22 = .ok (.invokespecial 104, 3) := by decide +kernel
theorem dX5_requireSquare_25 : decode cX5_requireSquare 25 = .ok (.athrow, 1) := by decide +kernel
theorem dX5_requireSquare_26 : decode cX5_requireSquare 26 = .ok (.iload 4, 2) := by decide +kernel
theorem dX5_requireSquare_28 : decode cX5_requireSquare 28 = .ok (.ireturn, 1) := by decide +kernel
theorem dX5_isContent_0 : decode cX5_isContent 0 = .ok (.iload_n 0, 1) := by decide +kernel
theorem dX5_isContent_1 : decode cX5_isContent 1 = .ok (.lookupswitch 46 #[(1, 27), (2, 38)], 27) := by decide +kernel
theorem dX5_isContent_28 : decode cX5_isContent 28 = .ok (.iload_n 1, 1) := by decide +kernel
theorem dX5_isContent_29 : decode cX5_isContent 29 = .ok (.sipush (-999), 3) := by decide +kernel
theorem dX5_isContent_32 : decode cX5_isContent 32 = .ok (.sipush 999, 3) := by decide +kernel
theorem dX5_isContent_35 : decode cX5_isContent 35 = .ok (.invokestatic 95, 3) := by decide +kernel
theorem dX5_isContent_38 : decode cX5_isContent 38 = .ok (.ireturn, 1) := by decide +kernel
theorem dX5_isContent_39 : decode cX5_isContent 39 = .ok (.iload_n 1, 1) := by decide +kernel
theorem dX5_isContent_40 : decode cX5_isContent 40 = .ok (.iconst 1, 1) := by decide +kernel
theorem dX5_isContent_41 : decode cX5_isContent 41 = .ok (.bipush 12, 2) := by decide +kernel
theorem dX5_isContent_43 : decode cX5_isContent 43 = .ok (.invokestatic 95, 3) := by decide +kernel
theorem dX5_isContent_46 : decode cX5_isContent 46 = .ok (.ireturn, 1) := by decide +kernel
theorem dX5_isContent_47 : decode cX5_isContent 47 = .ok (.iload_n 0, 1) := by decide +kernel
theorem dX5_isContent_48 : decode cX5_isContent 48 = .ok (.ifCond .eq 10, 3) := by decide +kernel
theorem dX5_isContent_51 : decode cX5_isContent 51 = .ok (.iload_n 0, 1) := by decide +kernel
theorem dX5_isContent_52 : decode cX5_isContent 52 = .ok (.invokestatic 232, 3) := by decide +kernel
theorem dX5_isContent_55 : decode cX5_isContent 55 = .ok (.ifCond .eq 7, 3) := by decide +kernel
theorem dX5_isContent_58 : decode cX5_isContent 58 = .ok (.iconst 1, 1) := by decide +kernel
theorem dX5_isContent_59 : decode cX5_isContent 59 = .ok (.goto 4, 3) := by decide +kernel
theorem dX5_isContent_62 : decode cX5_isContent 62 = .ok (.iconst 0, 1) := by decide +kernel
theorem dX5_isContent_63 : decode cX5_isContent 63 = .ok (.ireturn, 1) := by decide +kernel
theorem dX5_isSum_0 : decode cX5_isSum 0 = .ok (.iload_n 0, 1) := by decide +kernel
theorem dX5_isSum_1 : decode cX5_isSum 1 = .ok (.iconst 4, 1) := by decide +kernel
theorem dX5_isSum_2 : decode cX5_isSum 2 = .ok (.if_icmp .eq 14, 3) := by decide +kernel
theorem dX5_isSum_5 : decode cX5_isSum 5 = .ok (.iload_n 0, 1) := by decide +kernel
theorem dX5_isSum_6 : decode cX5_isSum 6 = .ok (.iconst 5, 1) := by decide +kernel
theorem dX5_isSum_7 : decode cX5_isSum 7 = .ok (.if_icmp .eq 9, 3) := by decide +kernel
theorem dX5_isSum_10 : decode cX5_isSum 10 = .ok (.iload_n 0, 1) := by decide +kernel
theorem dX5_isSum_11 : decode cX5_isSum 11 = .ok (.bipush 6, 2) := by decide +kernel
theorem dX5_isSum_13 : decode cX5_isSum 13 = .ok (.if_icmp .ne 7, 3) := by decide +kernel
theorem dX5_isSum_16 : decode cX5_isSum 16 = .ok (.iconst 1, 1) := by decide +kernel
theorem dX5_isSum_17 : decode cX5_isSum 17 = .ok (.goto 4, 3) := by decide +kernel
theorem dX5_isSum_20 : decode cX5_isSum 20 = .ok (.iconst 0, 1) := by decide +kernel
theorem dX5_isSum_21 : decode cX5_isSum 21 = .ok (.ireturn, 1) := by decide +kernel
theorem dX5_fillByOrder_0 : decode cX5_fillByOrder 0 = .ok (.aload_n 0, 1) := by decide +kernel
theorem dX5_fillByOrder_1 : decode cX5_fillByOrder 1 = .ok (.getfield 20, 3) := by decide +kernel
theorem dX5_fillByOrder_4 : decode cX5_fillByOrder 4 = .ok (.aload_n 0, 1) := by decide +kernel
theorem dX5_fillByOrder_5 : decode cX5_fillByOrder 5 = .ok (.getfield 34, 3) := by decide +kernel
theorem dX5_fillByOrder_8 : decode cX5_fillByOrder 8 = .ok (.iload_n 1, 1) := by decide +kernel
theorem dX5_fillByOrder_9 : decode cX5_fillByOrder 9 = .ok (.invokevirtual 235, 3) := by decide +kernel
theorem dX5_fillByOrder_12 : decode cX5_fillByOrder 12 = .ok (.aload_n 0, 1) := by decide +kernel
theorem dX5_fillByOrder_13 : decode cX5_fillByOrder 13 = .ok (.getfield 34, 3) := by decide +kernel
theorem dX5_fillByOrder_16 : decode cX5_fillByOrder 16 = .ok (.iload_n 1, 1) := by decide +kernel
theorem dX5_fillByOrder_17 : decode cX5_fillByOrder 17 = .ok (.invokevirtual 238, 3) := by decide +kernel
theorem dX5_fillByOrder_20 : decode cX5_fillByOrder 20 = .ok (.aload_n 0, 1) := by decide +kernel
theorem dX5_fillByOrder_21 : decode cX5_fillByOrder 21 = .ok (.getfield 34, 3) := by decide +kernel
theorem dX5_fillByOrder_24 : decode cX5_fillByOrder 24 = .ok (.iload_n 1, 1) := by decide +kernel
theorem dX5_fillByOrder_25 : decode cX5_fillByOrder 25 = .ok (.invokevirtual 241, 3) := by decide +kernel
theorem dX5_fillByOrder_28 : decode cX5_fillByOrder 28 = .ok (.invokevirtual 99, 3) := by decide +kernel
theorem dX5_fillByOrder_31 : decode cX5_fillByOrder 31 = .ok (.istore_n 3, 1) := by decide +kernel
theorem dX5_fillByOrder_32 : decode cX5_fillByOrder 32 = .ok (.aload_n 0, 1) := by decide +kernel
theorem dX5_fillByOrder_33 : decode cX5_fillByOrder 33 = .ok (.getfield 34, 3) := by decide +kernel
theorem dX5_fillByOrder_36 : decode cX5_fillByOrder 36 = .ok (.iload_n 1, 1) := by decide +kernel
theorem dX5_fillByOrder_37 : decode cX5_fillByOrder 37 = .ok (.invokevirtual 244, 3) := by decide +kernel
theorem dX5_fillByOrder_40 : decode cX5_fillByOrder 40 = .ok (.istore 4, 2) := by decide +kernel
theorem dX5_fillByOrder_42 : decode cX5_fillByOrder 42 = .ok (.aload_n 0, 1) := by decide +kernel
theorem dX5_fillByOrder_43 : decode cX5_fillByOrder 43 = .ok (.getfield 34, 3) := by decide +kernel
theorem dX5_fillByOrder_46 : decode cX5_fillByOrder 46 = .ok (.iload_n 1, 1) := by decide +kernel
theorem dX5_fillByOrder_47 : decode cX5_fillByOrder 47 = .ok (.iload_n 2, 1) := by decide +kernel
theorem dX5_fillByOrder_48 : decode cX5_fillByOrder 48 = .ok (.invokevirtual 247, 3) := by decide +kernel
theorem dX5_fillByOrder_51 : decode cX5_fillByOrder 51 = .ok (.istore 5, 2) := by decide +kernel
theorem dX5_fillByOrder_53 : decode cX5_fillByOrder 53 = .ok (.iload_n 3, 1) := by decide +kernel
theorem dX5_fillByOrder_54 : decode cX5_fillByOrder 54 = .ok (.iconst (-1), 1) := by decide +kernel
theorem dX5_fillByOrder_55 : decode cX5_fillByOrder 55 = .ok (.if_icmp .eq 24, 3) := by decide +kernel
theorem dX5_fillByOrder_58 : decode cX5_fillByOrder 58 = .ok (.iload 4, 2) := by decide +kernel
theorem dX5_fillByOrder_60 : decode cX5_fillByOrder 60 = .ok (.iload 5, 2) := by decide +kernel
theorem dX5_fillByOrder_62 : decode cX5_fillByOrder 62 = .ok (.invokestatic 82, 3) := by decide +kernel
theorem dX5_fillByOrder_65 : decode cX5_fillByOrder 65 = .ok (.ifCond .eq 14, 3) := by decide +kernel
theorem dX5_fillByOrder_68 : decode cX5_fillByOrder 68 = .ok (.aload_n 0, 1) := by decide +kernel
theorem dX5_fillByOrder_69 : decode cX5_fillByOrder 69 = .ok (.getfield 20, 3) := by decide +kernel
theorem dX5_fillByOrder_72 : decode cX5_fillByOrder 72 = .ok (.iload_n 3, 1) := by decide +kernel
theorem dX5_fillByOrder_73 : decode cX5_fillByOrder 73 = .ok (.invokevirtual 89, 3) := by decide +kernel
theorem dX5_fillByOrder_76 : decode cX5_fillByOrder 76 = .ok (.ifCond .ne 5, 3) := by decide +kernel
theorem dX5_fillByOrder_79 : decode cX5_fillByOrder 79 = .ok (.iconst 0, 1) := by decide +kernel
theorem dX5_fillByOrder_80 : decode cX5_fillByOrder 80 = .ok (.ireturn, 1) := by decide +kernel
theorem dX5_fillByOrder_81 : decode cX5_fillByOrder 81 = .ok (.aload_n 0, 1) := by decide +kernel
theorem dX5_fillByOrder_82 : decode cX5_fillByOrder 82 = .ok (.getfield 20, 3) := by decide +kernel
theorem dX5_fillByOrder_85 : decode cX5_fillByOrder 85 = .ok (.iload_n 3, 1) := by decide +kernel
theorem dX5_fillByOrder_86 : decode cX5_fillByOrder 86 = .ok (.iload 4, 2) := by decide +kernel
theorem dX5_fillByOrder_88 : decode cX5_fillByOrder 88 = .ok (.iload 5, 2) := by decide +kernel
theorem dX5_fillByOrder_90 : decode cX5_fillByOrder 90 = .ok (.invokevirtual 92, 3) := by decide +kernel
theorem dX5_fillByOrder_93 : decode cX5_fillByOrder 93 = .ok (.pop, 1) := by decide +kernel
theorem dX5_fillByOrder_94 : decode cX5_fillByOrder 94 = .ok (.iconst 1, 1) := by decide +kernel
theorem dX5_fillByOrder_95 : decode cX5_fillByOrder 95 = .ok (.ireturn, 1) := by decide +kernel
theorem dX5_cellProperty_0 : decode cX5_cellProperty 0 = .ok (.aload_n 0, 1) := by decide +kernel
theorem dX5_cellProperty_1 : decode cX5_cellProperty 1 = .ok (.getfield 20, 3) := by decide +kernel
theorem dX5_cellProperty_4 : decode cX5_cellProperty 4 = .ok (.iload_n 1, 1) := by decide +kernel
theorem dX5_cellProperty_5 : decode cX5_cellProperty 5 = .ok (.invokevirtual 58, 3) := by decide +kernel
theorem dX5_cellProperty_8 : decode cX5_cellProperty 8 = .ok (.ifCond .ne 5, 3) := by decide +kernel
theorem dX5_cellProperty_11 : decode cX5_cellProperty 11 = .ok (.iconst (-1), 1) := by decide +kernel
theorem dX5_cellProperty_12 : decode cX5_cellProperty 12 = .ok (.ireturn, 1) := by decide +kernel
theorem dX5_cellProperty_13 : decode cX5_cellProperty 13 = .ok (.iload_n 2, 1) := by decide +kernel
theorem dX5_cellProperty_14 : decode cX5_cellProperty 14 = .ok (.tableswitch 143 0 7 #[46, 58, 70, 82, 92, 102, 118, 134], 46) := by decide +kernel
theorem dX5_cellProperty_60 : decode cX5_cellProperty 60 = .ok (.aload_n 0, 1) := by decide +kernel
theorem dX5_cellProperty_61 : decode cX5_cellProperty 61 = .ok (.getfield 20, 3) := by decide +kernel
theorem dX5_cellProperty_64 : decode cX5_cellProperty 64 = .ok (.getfield 62, 3) := by decide +kernel
theorem dX5_cellProperty_67 : decode cX5_cellProperty 67 = .ok (.iload_n 1, 1) := by decide +kernel
theorem dX5_cellProperty_68 : decode cX5_cellProperty 68 = .ok (.invokevirtual 66, 3) := by decide +kernel
theorem dX5_cellProperty_71 : decode cX5_cellProperty 71 = .ok (.ireturn, 1) := by decide +kernel
theorem dX5_cellProperty_72 : decode cX5_cellProperty 72 = .ok (.aload_n 0, 1) := by decide +kernel
theorem dX5_cellProperty_73 : decode cX5_cellProperty 73 = .ok (.getfield 12, 3) := by decide +kernel
theorem dX5_cellProperty_76 : decode cX5_cellProperty 76 = .ok (.getfield 250, 3) := by decide +kernel
theorem dX5_cellProperty_79 : decode cX5_cellProperty 79 = .ok (.iload_n 1, 1) := by decide +kernel
theorem dX5_cellProperty_80 : decode cX5_cellProperty 80 = .ok (.invokevirtual 66, 3) := by decide +kernel
theorem dX5_cellProperty_83 : decode cX5_cellProperty 83 = .ok (.ireturn, 1) := by decide +kernel
theorem dX5_cellProperty_84 : decode cX5_cellProperty 84 = .ok (.aload_n 0, 1) := by decide +kernel
theorem dX5_cellProperty_85 : decode cX5_cellProperty 85 = .ok (.getfield 12, 3) := by decide +kernel
theorem dX5_cellProperty_88 : decode cX5_cellProperty 88 = .ok (.getfield 253, 3) := by decide +kernel
theorem dX5_cellProperty_91 : decode cX5_cellProperty 91 = .ok (.iload_n 1, 1) := by decide +kernel
theorem dX5_cellProperty_92 : decode cX5_cellProperty 92 = .ok (.invokevirtual 66, 3) := by decide +kernel
theorem dX5_cellProperty_95 : decode cX5_cellProperty 95 = .ok (.ireturn, 1) := by decide +kernel
theorem dX5_cellProperty_96 : decode cX5_cellProperty 96 = .ok (.aload_n 0, 1) := by decide +kernel
theorem dX5_cellProperty_97 : decode cX5_cellProperty 97 = .ok (.getfield 20, 3) := by decide +kernel
theorem dX5_cellProperty_100 : decode cX5_cellProperty 100 = .ok (.iload_n 1, 1) := by decide +kernel
theorem dX5_cellProperty_101 : decode cX5_cellProperty 101 = .ok (.iconst 1, 1) := by decide +kernel
theorem dX5_cellProperty_102 : decode cX5_cellProperty 102 = .ok (.invokevirtual 256, 3) := by decide +kernel
theorem dX5_cellProperty_105 : decode cX5_cellProperty 105 = .ok (.ireturn, 1) := by decide +kernel
theorem dX5_cellProperty_106 : decode cX5_cellProperty 106 = .ok (.aload_n 0, 1) := by decide +kernel
theorem dX5_cellProperty_107 : decode cX5_cellProperty 107 = .ok (.getfield 20, 3) := by decide +kernel
theorem dX5_cellProperty_110 : decode cX5_cellProperty 110 = .ok (.iload_n 1, 1) := by decide +kernel
theorem dX5_cellProperty_111 : decode cX5_cellProperty 111 = .ok (.iconst 0, 1) := by decide +kernel
theorem dX5_cellProperty_112 : decode cX5_cellProperty 112 = .ok (.invokevirtual 256, 3) := by decide +kernel
theorem dX5_cellProperty_115 : decode cX5_cellProperty 115 = .ok (.ireturn, 1) := by decide +kernel
theorem dX5_cellProperty_116 : decode cX5_cellProperty 116 = .ok (.aload_n 0, 1) := by decide +kernel
theorem dX5_cellProperty_117 : decode cX5_cellProperty 117 = .ok (.getfield 12, 3) := by decide +kernel
theorem dX5_cellProperty_120 : decode cX5_cellProperty 120 = .ok (.getfield 259, 3) := by decide +kernel
theorem dX5_cellProperty_123 : decode cX5_cellProperty 123 = .ok (.iload_n 1, 1) := by decide +kernel
theorem dX5_cellProperty_124 : decode cX5_cellProperty 124 = .ok (.iconst 2, 1) := by decide +kernel
theorem dX5_cellProperty_125 : decode cX5_cellProperty 125 = .ok (.imul, 1) := by decide +kernel
theorem dX5_cellProperty_126 : decode cX5_cellProperty 126 = .ok (.iconst 0, 1) := by decide +kernel
theorem dX5_cellProperty_127 : decode cX5_cellProperty 127 = .ok (.iadd, 1) := by decide +kernel
theorem dX5_cellProperty_128 : decode cX5_cellProperty 128 = .ok (.invokevirtual 66, 3) := by decide +kernel
theorem dX5_cellProperty_131 : decode cX5_cellProperty 131 = .ok (.ireturn, 1) := by decide +kernel
theorem dX5_cellProperty_132 : decode cX5_cellProperty 132 = .ok (.aload_n 0, 1) := by decide +kernel
theorem dX5_cellProperty_133 : decode cX5_cellProperty 133 = .ok (.getfield 12, 3) := by decide +kernel
theorem dX5_cellProperty_136 : decode cX5_cellProperty 136 = .ok (.getfield 259, 3) := by decide +kernel
theorem dX5_cellProperty_139 : decode cX5_cellProperty 139 = .ok (.iload_n 1, 1) := by decide +kernel
theorem dX5_cellProperty_140 : decode cX5_cellProperty 140 = .ok (.iconst 2, 1) := by decide +kernel
theorem dX5_cellProperty_141 : decode cX5_cellProperty 141 = .ok (.imul, 1) := by decide +kernel
theorem dX5_cellProperty_142 : decode cX5_cellProperty 142 = .ok (.iconst 1, 1) := by decide +kernel
theorem dX5_cellProperty_143 : decode cX5_cellProperty 143 = .ok (.iadd, 1) := by decide +kernel
theorem dX5_cellProperty_144 : decode cX5_cellProperty 144 = .ok (.invokevirtual 66, 3) := by decide +kernel
theorem dX5_cellProperty_147 : decode cX5_cellProperty 147 = .ok (.ireturn, 1) := by decide +kernel
theorem dX5_cellProperty_148 : decode cX5_cellProperty 148 = .ok (.aload_n 0, 1) := by decide +kernel
theorem dX5_cellProperty_149 : decode cX5_cellProperty 149 = .ok (.getfield 20, 3) := by decide +kernel
theorem dX5_cellProperty_152 : decode cX5_cellProperty 152 = .ok (.iload_n 1, 1) := by decide +kernel
theorem dX5_cellProperty_153 : decode cX5_cellProperty 153 = .ok (.invokevirtual 262, 3) := by decide +kernel
theorem dX5_cellProperty_156 : decode cX5_cellProperty 156 = .ok (.ireturn, 1) := by decide +kernel
theorem dX5_cellProperty_157 : decode cX5_cellProperty 157 = .ok (.aload_n 0, 1) := by decide +kernel
theorem dX5_cellProperty_158 : decode cX5_cellProperty 158 = .ok (.getfield 12, 3) := by decide +kernel
theorem dX5_cellProperty_161 : decode cX5_cellProperty 161 = .ok (.getfield 265, 3) := by decide +kernel
theorem dX5_cellProperty_164 : decode cX5_cellProperty 164 = .ok (.iload_n 1, 1) := by decide +kernel
theorem dX5_cellProperty_165 : decode cX5_cellProperty 165 = .ok (.iconst 4, 1) := by decide +kernel
theorem dX5_cellProperty_166 : decode cX5_cellProperty 166 = .ok (.imul, 1) := by decide +kernel
theorem dX5_cellProperty_167 : decode cX5_cellProperty 167 = .ok (.iload_n 2, 1) := by decide +kernel
theorem dX5_cellProperty_168 : decode cX5_cellProperty 168 = .ok (.iadd, 1) := by decide +kernel
theorem dX5_cellProperty_169 : decode cX5_cellProperty 169 = .ok (.bipush 8, 2) := by decide +kernel
theorem dX5_cellProperty_171 : decode cX5_cellProperty 171 = .ok (.isub, 1) := by decide +kernel
theorem dX5_cellProperty_172 : decode cX5_cellProperty 172 = .ok (.invokevirtual 66, 3) := by decide +kernel
theorem dX5_cellProperty_175 : decode cX5_cellProperty 175 = .ok (.ireturn, 1) := by decide +kernel
theorem dX5_tableProperty_0 : decode cX5_tableProperty 0 = .ok (.iload_n 2, 1) := by decide +kernel
theorem dX5_tableProperty_1 : decode cX5_tableProperty 1 = .ok (.tableswitch 139 0 6 #[43, 53, 63, 75, 91, 107, 123], 43) := by decide +kernel
theorem dX5_tableProperty_44 : decode cX5_tableProperty 44 = .ok (.aload_n 0, 1) := by decide +kernel
theorem dX5_tableProperty_45 : decode cX5_tableProperty 45 = .ok (.getfield 20, 3) := by decide +kernel
theorem dX5_tableProperty_48 : decode cX5_tableProperty 48 = .ok (.iload_n 1, 1) := by decide +kernel
theorem dX5_tableProperty_49 : decode cX5_tableProperty 49 = .ok (.iconst 1, 1) := by decide +kernel
theorem dX5_tableProperty_50 : decode cX5_tableProperty 50 = .ok (.invokevirtual 164, 3) := by decide +kernel
theorem dX5_tableProperty_53 : decode cX5_tableProperty 53 = .ok (.ireturn, 1) := by decide +kernel
theorem dX5_tableProperty_54 : decode cX5_tableProperty 54 = .ok (.aload_n 0, 1) := by decide +kernel
theorem dX5_tableProperty_55 : decode cX5_tableProperty 55 = .ok (.getfield 20, 3) := by decide +kernel
theorem dX5_tableProperty_58 : decode cX5_tableProperty 58 = .ok (.iload_n 1, 1) := by decide +kernel
theorem dX5_tableProperty_59 : decode cX5_tableProperty 59 = .ok (.iconst 0, 1) := by decide +kernel
theorem dX5_tableProperty_60 : decode cX5_tableProperty 60 = .ok (.invokevirtual 164, 3) := by decide +kernel
theorem dX5_tableProperty_63 : decode cX5_tableProperty 63 = .ok (.ireturn, 1) := by decide +kernel
theorem dX5_tableProperty_64 : decode cX5_tableProperty 64 = .ok (.aload_n 0, 1) := by decide +kernel
theorem dX5_tableProperty_65 : decode cX5_tableProperty 65 = .ok (.getfield 12, 3) := by decide +kernel
theorem dX5_tableProperty_68 : decode cX5_tableProperty 68 = .ok (.getfield 266, 3) := by decide +kernel
theorem dX5_tableProperty_71 : decode cX5_tableProperty 71 = .ok (.iload_n 1, 1) := by decide +kernel
theorem dX5_tableProperty_72 : decode cX5_tableProperty 72 = .ok (.invokevirtual 66, 3) := by decide +kernel
theorem dX5_tableProperty_75 : decode cX5_tableProperty 75 = .ok (.ireturn, 1) := by decide +kernel
theorem dX5_tableProperty_76 : decode cX5_tableProperty 76 = .ok (.aload_n 0, 1) := by decide +kernel
theorem dX5_tableProperty_77 : decode cX5_tableProperty 77 = .ok (.getfield 12, 3) := by decide +kernel
theorem dX5_tableProperty_80 : decode cX5_tableProperty 80 = .ok (.getfield 269, 3) := by decide +kernel
theorem dX5_tableProperty_83 : decode cX5_tableProperty 83 = .ok (.iload_n 1, 1) := by decide +kernel
theorem dX5_tableProperty_84 : decode cX5_tableProperty 84 = .ok (.iconst 2, 1) := by decide +kernel
theorem dX5_tableProperty_85 : decode cX5_tableProperty 85 = .ok (.imul, 1) := by decide +kernel
theorem dX5_tableProperty_86 : decode cX5_tableProperty 86 = .ok (.iconst 0, 1) := by decide +kernel
theorem dX5_tableProperty_87 : decode cX5_tableProperty 87 = .ok (.iadd, 1) := by decide +kernel
theorem dX5_tableProperty_88 : decode cX5_tableProperty 88 = .ok (.invokevirtual 66, 3) := by decide +kernel
theorem dX5_tableProperty_91 : decode cX5_tableProperty 91 = .ok (.ireturn, 1) := by decide +kernel
theorem dX5_tableProperty_92 : decode cX5_tableProperty 92 = .ok (.aload_n 0, 1) := by decide +kernel
theorem dX5_tableProperty_93 : decode cX5_tableProperty 93 = .ok (.getfield 12, 3) := by decide +kernel
theorem dX5_tableProperty_96 : decode cX5_tableProperty 96 = .ok (.getfield 269, 3) := by decide +kernel
theorem dX5_tableProperty_99 : decode cX5_tableProperty 99 = .ok (.iload_n 1, 1) := by decide +kernel
theorem dX5_tableProperty_100 : decode cX5_tableProperty 100 = .ok (.iconst 2, 1) := by decide +kernel
theorem dX5_tableProperty_101 : decode cX5_tableProperty 101 = .ok (.imul, 1) := by decide +kernel
theorem dX5_tableProperty_102 : decode cX5_tableProperty 102 = .ok (.iconst 1, 1) := by decide +kernel
theorem dX5_tableProperty_103 : decode cX5_tableProperty 103 = .ok (.iadd, 1) := by decide +kernel
theorem dX5_tableProperty_104 : decode cX5_tableProperty 104 = .ok (.invokevirtual 66, 3) := by decide +kernel
theorem dX5_tableProperty_107 : decode cX5_tableProperty 107 = .ok (.ireturn, 1) := by decide +kernel
theorem dX5_tableProperty_108 : decode cX5_tableProperty 108 = .ok (.aload_n 0, 1) := by decide +kernel
theorem dX5_tableProperty_109 : decode cX5_tableProperty 109 = .ok (.getfield 12, 3) := by decide +kernel
theorem dX5_tableProperty_112 : decode cX5_tableProperty 112 = .ok (.getfield 272, 3) := by decide +kernel
theorem dX5_tableProperty_115 : decode cX5_tableProperty 115 = .ok (.iload_n 1, 1) := by decide +kernel
theorem dX5_tableProperty_116 : decode cX5_tableProperty 116 = .ok (.iconst 2, 1) := by decide +kernel
theorem dX5_tableProperty_117 : decode cX5_tableProperty 117 = .ok (.imul, 1) := by decide +kernel
theorem dX5_tableProperty_118 : decode cX5_tableProperty 118 = .ok (.iconst 0, 1) := by decide +kernel
theorem dX5_tableProperty_119 : decode cX5_tableProperty 119 = .ok (.iadd, 1) := by decide +kernel
theorem dX5_tableProperty_120 : decode cX5_tableProperty 120 = .ok (.invokevirtual 66, 3) := by decide +kernel
theorem dX5_tableProperty_123 : decode cX5_tableProperty 123 = .ok (.ireturn, 1) := by decide +kernel
theorem dX5_tableProperty_124 : decode cX5_tableProperty 124 = .ok (.aload_n 0, 1) := by decide +kernel
theorem dX5_tableProperty_125 : decode cX5_tableProperty 125 = .ok (.getfield 12, 3) := by decide +kernel
theorem dX5_tableProperty_128 : decode cX5_tableProperty 128 = .ok (.getfield 272, 3) := by decide +kernel
theorem dX5_tableProperty_131 : decode cX5_tableProperty 131 = .ok (.iload_n 1, 1) := by decide +kernel
theorem dX5_tableProperty_132 : decode cX5_tableProperty 132 = .ok (.iconst 2, 1) := by decide +kernel
theorem dX5_tableProperty_133 : decode cX5_tableProperty 133 = .ok (.imul, 1) := by decide +kernel
theorem dX5_tableProperty_134 : decode cX5_tableProperty 134 = .ok (.iconst 1, 1) := by decide +kernel
theorem dX5_tableProperty_135 : decode cX5_tableProperty 135 = .ok (.iadd, 1) := by decide +kernel
theorem dX5_tableProperty_136 : decode cX5_tableProperty 136 = .ok (.invokevirtual 66, 3) := by decide +kernel
theorem dX5_tableProperty_139 : decode cX5_tableProperty 139 = .ok (.ireturn, 1) := by decide +kernel
theorem dX5_tableProperty_140 : decode cX5_tableProperty 140 = .ok (.iload_n 1, 1) := by decide +kernel
theorem dX5_tableProperty_141 : decode cX5_tableProperty 141 = .ok (.ifCond .ne 7, 3) := by decide +kernel
theorem dX5_tableProperty_144 : decode cX5_tableProperty 144 = .ok (.iconst (-1), 1) := by decide +kernel
theorem dX5_tableProperty_145 : decode cX5_tableProperty 145 = .ok (.goto 17, 3) := by decide +kernel
theorem dX5_tableProperty_148 : decode cX5_tableProperty 148 = .ok (.aload_n 0, 1) := by decide +kernel
theorem dX5_tableProperty_149 : decode cX5_tableProperty 149 = .ok (.getfield 20, 3) := by decide +kernel
theorem dX5_tableProperty_152 : decode cX5_tableProperty 152 = .ok (.getfield 275, 3) := by decide +kernel
theorem dX5_tableProperty_155 : decode cX5_tableProperty 155 = .ok (.iload_n 1, 1) := by decide +kernel
theorem dX5_tableProperty_156 : decode cX5_tableProperty 156 = .ok (.invokevirtual 66, 3) := by decide +kernel
theorem dX5_tableProperty_159 : decode cX5_tableProperty 159 = .ok (.invokestatic 278, 3) := by decide +kernel
theorem dX5_tableProperty_162 : decode cX5_tableProperty 162 = .ok (.ireturn, 1) := by decide +kernel
theorem dX5_tryNumber_0 : decode cX5_tryNumber 0 = .ok (.aload_n 0, 1) := by decide +kernel
theorem dX5_tryNumber_1 : decode cX5_tryNumber 1 = .ok (.getfield 20, 3) := by decide +kernel
theorem dX5_tryNumber_4 : decode cX5_tryNumber 4 = .ok (.iload_n 1, 1) := by decide +kernel
theorem dX5_tryNumber_5 : decode cX5_tryNumber 5 = .ok (.invokevirtual 58, 3) := by decide +kernel
theorem dX5_tryNumber_8 : decode cX5_tryNumber 8 = .ok (.ifCond .eq 18, 3) := by decide +kernel
theorem dX5_tryNumber_11 : decode cX5_tryNumber 11 = .ok (.aload_n 0, 1) := by decide +kernel
theorem dX5_tryNumber_12 : decode cX5_tryNumber 12 = .ok (.getfield 20, 3) := by decide +kernel
theorem dX5_tryNumber_15 : decode cX5_tryNumber 15 = .ok (.getfield 62, 3) := by decide +kernel
theorem dX5_tryNumber_18 : decode cX5_tryNumber 18 = .ok (.iload_n 1, 1) := by decide +kernel
theorem dX5_tryNumber_19 : decode cX5_tryNumber 19 = .ok (.invokevirtual 66, 3) := by decide +kernel
theorem dX5_tryNumber_22 : decode cX5_tryNumber 22 = .ok (.iconst 3, 1) := by decide +kernel
theorem dX5_tryNumber_23 : decode cX5_tryNumber 23 = .ok (.if_icmp .ne 5, 3) := by decide +kernel
theorem dX5_tryNumber_26 : decode cX5_tryNumber 26 = .ok (.iconst 0, 1) := by decide +kernel
theorem dX5_tryNumber_27 : decode cX5_tryNumber 27 = .ok (.ireturn, 1) := by decide +kernel
theorem dX5_tryNumber_28 : decode cX5_tryNumber 28 = .ok (.aload_n 0, 1) := by decide +kernel
theorem dX5_tryNumber_29 : decode cX5_tryNumber 29 = .ok (.getfield 21, 3) := by decide +kernel
theorem dX5_tryNumber_32 : decode cX5_tryNumber 32 = .ok (.getfield 16, 3) := by decide +kernel
theorem dX5_tryNumber_35 : decode cX5_tryNumber 35 = .ok (.aload_n 0, 1) := by decide +kernel
theorem dX5_tryNumber_36 : decode cX5_tryNumber 36 = .ok (.getfield 20, 3) := by decide +kernel
theorem dX5_tryNumber_39 : decode cX5_tryNumber 39 = .ok (.invokevirtual 281, 3) := by decide +kernel
theorem dX5_tryNumber_42 : decode cX5_tryNumber 42 = .ok (.aload_n 0, 1) := by decide +kernel
theorem dX5_tryNumber_43 : decode cX5_tryNumber 43 = .ok (.getfield 21, 3) := by decide +kernel
theorem dX5_tryNumber_46 : decode cX5_tryNumber 46 = .ok (.getfield 16, 3) := by decide +kernel
theorem dX5_tryNumber_49 : decode cX5_tryNumber 49 = .ok (.iload_n 1, 1) := by decide +kernel
theorem dX5_tryNumber_50 : decode cX5_tryNumber 50 = .ok (.iconst 1, 1) := by decide +kernel
theorem dX5_tryNumber_51 : decode cX5_tryNumber 51 = .ok (.iload_n 2, 1) := by decide +kernel
theorem dX5_tryNumber_52 : decode cX5_tryNumber 52 = .ok (.invokevirtual 92, 3) := by decide +kernel
theorem dX5_tryNumber_55 : decode cX5_tryNumber 55 = .ok (.pop, 1) := by decide +kernel
theorem dX5_tryNumber_56 : decode cX5_tryNumber 56 = .ok (.aload_n 0, 1) := by decide +kernel
theorem dX5_tryNumber_57 : decode cX5_tryNumber 57 = .ok (.getfield 21, 3) := by decide +kernel
theorem dX5_tryNumber_60 : decode cX5_tryNumber 60 = .ok (.invokevirtual 44, 3) := by decide +kernel
theorem dX5_tryNumber_63 : decode cX5_tryNumber 63 = .ok (.iconst 1, 1) := by decide +kernel
theorem dX5_tryNumber_64 : decode cX5_tryNumber 64 = .ok (.ireturn, 1) := by decide +kernel
theorem dX5_trialAnswer_0 : decode cX5_trialAnswer 0 = .ok (.iload_n 2, 1) := by decide +kernel
theorem dX5_trialAnswer_1 : decode cX5_trialAnswer 1 = .ok (.lookupswitch 45 #[(0, 27), (1, 39)], 27) := by decide +kernel
theorem dX5_trialAnswer_28 : decode cX5_trialAnswer 28 = .ok (.aload_n 0, 1) := by decide +kernel
theorem dX5_trialAnswer_29 : decode cX5_trialAnswer 29 = .ok (.getfield 21, 3) := by decide +kernel
theorem dX5_trialAnswer_32 : decode cX5_trialAnswer 32 = .ok (.getfield 266, 3) := by decide +kernel
theorem dX5_trialAnswer_35 : decode cX5_trialAnswer 35 = .ok (.iconst 0, 1) := by decide +kernel
theorem dX5_trialAnswer_36 : decode cX5_trialAnswer 36 = .ok (.invokevirtual 66, 3) := by decide +kernel
theorem dX5_trialAnswer_39 : decode cX5_trialAnswer 39 = .ok (.ireturn, 1) := by decide +kernel
theorem dX5_trialAnswer_40 : decode cX5_trialAnswer 40 = .ok (.aload_n 0, 1) := by decide +kernel
theorem dX5_trialAnswer_41 : decode cX5_trialAnswer 41 = .ok (.iload_n 1, 1) := by decide +kernel
theorem dX5_trialAnswer_42 : decode cX5_trialAnswer 42 = .ok (.invokevirtual 284, 3) := by decide +kernel
theorem dX5_trialAnswer_45 : decode cX5_trialAnswer 45 = .ok (.ireturn, 1) := by decide +kernel
theorem dX5_trialAnswer_46 : decode cX5_trialAnswer 46 = .ok (.aload_n 0, 1) := by decide +kernel
theorem dX5_trialAnswer_47 : decode cX5_trialAnswer 47 = .ok (.getfield 21, 3) := by decide +kernel
theorem dX5_trialAnswer_50 : decode cX5_trialAnswer 50 = .ok (.getfield 269, 3) := by decide +kernel
theorem dX5_trialAnswer_53 : decode cX5_trialAnswer 53 = .ok (.iconst 0, 1) := by decide +kernel
theorem dX5_trialAnswer_54 : decode cX5_trialAnswer 54 = .ok (.invokevirtual 66, 3) := by decide +kernel
theorem dX5_trialAnswer_57 : decode cX5_trialAnswer 57 = .ok (.ireturn, 1) := by decide +kernel
theorem dX5_countChangedSums_0 : decode cX5_countChangedSums 0 = .ok (.iconst 0, 1) := by decide +kernel
theorem dX5_countChangedSums_1 : decode cX5_countChangedSums 1 = .ok (.istore_n 2, 1) := by decide +kernel
theorem dX5_countChangedSums_2 : decode cX5_countChangedSums 2 = .ok (.iconst 0, 1) := by decide +kernel
theorem dX5_countChangedSums_3 : decode cX5_countChangedSums 3 = .ok (.istore_n 3, 1) := by decide +kernel
theorem dX5_countChangedSums_4 : decode cX5_countChangedSums 4 = .ok (.iload_n 3, 1) := by decide +kernel
theorem dX5_countChangedSums_5 : decode cX5_countChangedSums 5 = .ok (.aload_n 0, 1) := by decide +kernel
theorem dX5_countChangedSums_6 : decode cX5_countChangedSums 6 = .ok (.getfield 20, 3) := by decide +kernel
theorem dX5_countChangedSums_9 : decode cX5_countChangedSums 9 = .ok (.invokevirtual 287, 3) := by decide +kernel
theorem dX5_countChangedSums_12 : decode cX5_countChangedSums 12 = .ok (.if_icmp .ge 82, 3) := by decide +kernel
theorem dX5_countChangedSums_15 : decode cX5_countChangedSums 15 = .ok (.iload_n 3, 1) := by decide +kernel
theorem dX5_countChangedSums_16 : decode cX5_countChangedSums 16 = .ok (.iload_n 1, 1) := by decide +kernel
theorem dX5_countChangedSums_17 : decode cX5_countChangedSums 17 = .ok (.if_icmp .eq 35, 3) := by decide +kernel
theorem dX5_countChangedSums_20 : decode cX5_countChangedSums 20 = .ok (.aload_n 0, 1) := by decide +kernel
theorem dX5_countChangedSums_21 : decode cX5_countChangedSums 21 = .ok (.getfield 20, 3) := by decide +kernel
theorem dX5_countChangedSums_24 : decode cX5_countChangedSums 24 = .ok (.iload_n 3, 1) := by decide +kernel
theorem dX5_countChangedSums_25 : decode cX5_countChangedSums 25 = .ok (.invokevirtual 58, 3) := by decide +kernel
theorem dX5_countChangedSums_28 : decode cX5_countChangedSums 28 = .ok (.ifCond .eq 24, 3) := by decide +kernel
theorem dX5_countChangedSums_31 : decode cX5_countChangedSums 31 = .ok (.aload_n 0, 1) := by decide +kernel
theorem dX5_countChangedSums_32 : decode cX5_countChangedSums 32 = .ok (.getfield 20, 3) := by decide +kernel
theorem dX5_countChangedSums_35 : decode cX5_countChangedSums 35 = .ok (.getfield 62, 3) := by decide +kernel
theorem dX5_countChangedSums_38 : decode cX5_countChangedSums 38 = .ok (.iload_n 3, 1) := by decide +kernel
theorem dX5_countChangedSums_39 : decode cX5_countChangedSums 39 = .ok (.invokevirtual 66, 3) := by decide +kernel
theorem dX5_countChangedSums_42 : decode cX5_countChangedSums 42 = .ok (.invokestatic 232, 3) := by decide +kernel
theorem dX5_countChangedSums_45 : decode cX5_countChangedSums 45 = .ok (.ifCond .eq 7, 3) := by decide +kernel
theorem dX5_countChangedSums_48 : decode cX5_countChangedSums 48 = .ok (.iconst 1, 1) := by decide +kernel
theorem dX5_countChangedSums_49 : decode cX5_countChangedSums 49 = .ok (.goto 4, 3) := by decide +kernel
theorem dX5_countChangedSums_52 : decode cX5_countChangedSums 52 = .ok (.iconst 0, 1) := by decide +kernel
theorem dX5_countChangedSums_53 : decode cX5_countChangedSums 53 = .ok (.istore 4, 2) := by decide +kernel
theorem dX5_countChangedSums_55 : decode cX5_countChangedSums 55 = .ok (.iload 4, 2) := by decide +kernel
theorem dX5_countChangedSums_57 : decode cX5_countChangedSums 57 = .ok (.ifCond .eq 31, 3) := by decide +kernel
theorem dX5_countChangedSums_60 : decode cX5_countChangedSums 60 = .ok (.aload_n 0, 1) := by decide +kernel
theorem dX5_countChangedSums_61 : decode cX5_countChangedSums 61 = .ok (.getfield 12, 3) := by decide +kernel
theorem dX5_countChangedSums_64 : decode cX5_countChangedSums 64 = .ok (.getfield 253, 3) := by decide +kernel
theorem dX5_countChangedSums_67 : decode cX5_countChangedSums 67 = .ok (.iload_n 3, 1) := by decide +kernel
theorem dX5_countChangedSums_68 : decode cX5_countChangedSums 68 = .ok (.invokevirtual 66, 3) := by decide +kernel
theorem dX5_countChangedSums_71 : decode cX5_countChangedSums 71 = .ok (.aload_n 0, 1) := by decide +kernel
theorem dX5_countChangedSums_72 : decode cX5_countChangedSums 72 = .ok (.getfield 21, 3) := by decide +kernel
theorem dX5_countChangedSums_75 : decode cX5_countChangedSums 75 = .ok (.getfield 253, 3) := by decide +kernel
theorem dX5_countChangedSums_78 : decode cX5_countChangedSums 78 = .ok (.iload_n 3, 1) := by decide +kernel
theorem dX5_countChangedSums_79 : decode cX5_countChangedSums 79 = .ok (.invokevirtual 66, 3) := by decide +kernel
theorem dX5_countChangedSums_82 : decode cX5_countChangedSums 82 = .ok (.if_icmp .eq 6, 3) := by decide +kernel
theorem dX5_countChangedSums_85 : decode cX5_countChangedSums 85 = .ok (.iinc 2 1, 3) := by decide +kernel
theorem dX5_countChangedSums_88 : decode cX5_countChangedSums 88 = .ok (.iinc 3 1, 3) := by decide +kernel
theorem dX5_countChangedSums_91 : decode cX5_countChangedSums 91 = .ok (.goto (-87), 3) := by decide +kernel
theorem dX5_countChangedSums_94 : decode cX5_countChangedSums 94 = .ok (.iload_n 2, 1) := by decide +kernel
theorem dX5_countChangedSums_95 : decode cX5_countChangedSums 95 = .ok (.ireturn, 1) := by decide +kernel
theorem dX5_countingSums_0 : decode cX5_countingSums 0 = .ok (.aload_n 0, 1) := by decide +kernel
theorem dX5_countingSums_1 : decode cX5_countingSums 1 = .ok (.getfield 20, 3) := by decide +kernel
theorem dX5_countingSums_4 : decode cX5_countingSums 4 = .ok (.iload_n 1, 1) := by decide +kernel
theorem dX5_countingSums_5 : decode cX5_countingSums 5 = .ok (.invokevirtual 58, 3) := by decide +kernel
theorem dX5_countingSums_8 : decode cX5_countingSums 8 = .ok (.ifCond .ne 5, 3) := by decide +kernel
theorem dX5_countingSums_11 : decode cX5_countingSums 11 = .ok (.iconst (-1), 1) := by decide +kernel
theorem dX5_countingSums_12 : decode cX5_countingSums 12 = .ok (.ireturn, 1) := by decide +kernel
theorem dX5_countingSums_13 : decode cX5_countingSums 13 = .ok (.aload_n 0, 1) := by decide +kernel
theorem dX5_countingSums_14 : decode cX5_countingSums 14 = .ok (.getfield 20, 3) := by decide +kernel
theorem dX5_countingSums_17 : decode cX5_countingSums 17 = .ok (.getfield 62, 3) := by decide +kernel
theorem dX5_countingSums_20 : decode cX5_countingSums 20 = .ok (.iload_n 1, 1) := by decide +kernel
theorem dX5_countingSums_21 : decode cX5_countingSums 21 = .ok (.invokevirtual 66, 3) := by decide +kernel
theorem dX5_countingSums_24 : decode cX5_countingSums 24 = .ok (.invokestatic 232, 3) := by decide +kernel
theorem dX5_countingSums_27 : decode cX5_countingSums 27 = .ok (.ifCond .eq 5, 3) := by decide +kernel
theorem dX5_countingSums_30 : decode cX5_countingSums 30 = .ok (.iconst 0, 1) := by decide +kernel
theorem dX5_countingSums_31 : decode cX5_countingSums 31 = .ok (.ireturn, 1) := by decide +kernel
theorem dX5_countingSums_32 : decode cX5_countingSums 32 = .ok (.iconst 0, 1) := by decide +kernel
theorem dX5_countingSums_33 : decode cX5_countingSums 33 = .ok (.istore_n 2, 1) := by decide +kernel
theorem dX5_countingSums_34 : decode cX5_countingSums 34 = .ok (.iload_n 1, 1) := by decide +kernel
theorem dX5_countingSums_35 : decode cX5_countingSums 35 = .ok (.istore_n 3, 1) := by decide +kernel
theorem dX5_countingSums_36 : decode cX5_countingSums 36 = .ok (.iconst 0, 1) := by decide +kernel
theorem dX5_countingSums_37 : decode cX5_countingSums 37 = .ok (.istore 4, 2) := by decide +kernel
theorem dX5_countingSums_39 : decode cX5_countingSums 39 = .ok (.iload 4, 2) := by decide +kernel
theorem dX5_countingSums_41 : decode cX5_countingSums 41 = .ok (.iconst 5, 1) := by decide +kernel
theorem dX5_countingSums_42 : decode cX5_countingSums 42 = .ok (.if_icmp .ge 40, 3) := by decide +kernel
theorem dX5_countingSums_45 : decode cX5_countingSums 45 = .ok (.iload_n 3, 1) := by decide +kernel
theorem dX5_countingSums_46 : decode cX5_countingSums 46 = .ok (.iconst (-1), 1) := by decide +kernel
theorem dX5_countingSums_47 : decode cX5_countingSums 47 = .ok (.if_icmp .eq 35, 3) := by decide +kernel
theorem dX5_countingSums_50 : decode cX5_countingSums 50 = .ok (.iload_n 2, 1) := by decide +kernel
theorem dX5_countingSums_51 : decode cX5_countingSums 51 = .ok (.aload_n 0, 1) := by decide +kernel
theorem dX5_countingSums_52 : decode cX5_countingSums 52 = .ok (.getfield 12, 3) := by decide +kernel
theorem dX5_countingSums_55 : decode cX5_countingSums 55 = .ok (.iload_n 3, 1) := by decide +kernel
theorem dX5_countingSums_56 : decode cX5_countingSums 56 = .ok (.invokevirtual 290, 3) := by decide +kernel
theorem dX5_countingSums_59 : decode cX5_countingSums 59 = .ok (.iadd, 1) := by decide +kernel
theorem dX5_countingSums_60 : decode cX5_countingSums 60 = .ok (.istore_n 2, 1) := by decide +kernel
theorem dX5_countingSums_61 : decode cX5_countingSums 61 = .ok (.aload_n 0, 1) := by decide +kernel
theorem dX5_countingSums_62 : decode cX5_countingSums 62 = .ok (.getfield 20, 3) := by decide +kernel
theorem dX5_countingSums_65 : decode cX5_countingSums 65 = .ok (.getfield 275, 3) := by decide +kernel
theorem dX5_countingSums_68 : decode cX5_countingSums 68 = .ok (.iload_n 3, 1) := by decide +kernel
theorem dX5_countingSums_69 : decode cX5_countingSums 69 = .ok (.invokestatic 278, 3) := by decide +kernel
theorem dX5_countingSums_72 : decode cX5_countingSums 72 = .ok (.invokevirtual 66, 3) := by decide +kernel
theorem dX5_countingSums_75 : decode cX5_countingSums 75 = .ok (.istore_n 3, 1) := by decide +kernel
theorem dX5_countingSums_76 : decode cX5_countingSums 76 = .ok (.iinc 4 1, 3) := by decide +kernel
theorem dX5_countingSums_79 : decode cX5_countingSums 79 = .ok (.goto (-40), 3) := by decide +kernel
theorem dX5_countingSums_82 : decode cX5_countingSums 82 = .ok (.iload_n 2, 1) := by decide +kernel
theorem dX5_countingSums_83 : decode cX5_countingSums 83 = .ok (.ireturn, 1) := by decide +kernel
theorem dX5_mix_0 : decode cX5_mix 0 = .ok (.ldc2_w 293, 3) := by decide +kernel
theorem dX5_mix_3 : decode cX5_mix 3 = .ok (.lload_n 0, 1) := by decide +kernel
theorem dX5_mix_4 : decode cX5_mix 4 = .ok (.lmul, 1) := by decide +kernel
theorem dX5_mix_5 : decode cX5_mix 5 = .ok (.lload_n 2, 1) := by decide +kernel
theorem dX5_mix_6 : decode cX5_mix 6 = .ok (.ladd, 1) := by decide +kernel
theorem dX5_mix_7 : decode cX5_mix 7 = .ok (.lreturn, 1) := by decide +kernel
theorem dX5_mixTable_0 : decode cX5_mixTable 0 = .ok (.lload_n 1, 1) := by decide +kernel
theorem dX5_mixTable_1 : decode cX5_mixTable 1 = .ok (.lstore 4, 2) := by decide +kernel
theorem dX5_mixTable_3 : decode cX5_mixTable 3 = .ok (.iconst 0, 1) := by decide +kernel
theorem dX5_mixTable_4 : decode cX5_mixTable 4 = .ok (.istore 6, 2) := by decide +kernel
theorem dX5_mixTable_6 : decode cX5_mixTable 6 = .ok (.iload 6, 2) := by decide +kernel
theorem dX5_mixTable_8 : decode cX5_mixTable 8 = .ok (.bipush 8, 2) := by decide +kernel
theorem dX5_mixTable_10 : decode cX5_mixTable 10 = .ok (.if_icmp .ge 24, 3) := by decide +kernel
theorem dX5_mixTable_13 : decode cX5_mixTable 13 = .ok (.lload 4, 2) := by decide +kernel
theorem dX5_mixTable_15 : decode cX5_mixTable 15 = .ok (.aload_n 0, 1) := by decide +kernel
theorem dX5_mixTable_16 : decode cX5_mixTable 16 = .ok (.iload_n 3, 1) := by decide +kernel
theorem dX5_mixTable_17 : decode cX5_mixTable 17 = .ok (.iload 6, 2) := by decide +kernel
theorem dX5_mixTable_19 : decode cX5_mixTable 19 = .ok (.invokevirtual 161, 3) := by decide +kernel
theorem dX5_mixTable_22 : decode cX5_mixTable 22 = .ok (.i2l, 1) := by decide +kernel
theorem dX5_mixTable_23 : decode cX5_mixTable 23 = .ok (.invokestatic 202, 3) := by decide +kernel
theorem dX5_mixTable_26 : decode cX5_mixTable 26 = .ok (.lstore 4, 2) := by decide +kernel
theorem dX5_mixTable_28 : decode cX5_mixTable 28 = .ok (.iinc 6 1, 3) := by decide +kernel
theorem dX5_mixTable_31 : decode cX5_mixTable 31 = .ok (.goto (-25), 3) := by decide +kernel
theorem dX5_mixTable_34 : decode cX5_mixTable 34 = .ok (.iconst 0, 1) := by decide +kernel
theorem dX5_mixTable_35 : decode cX5_mixTable 35 = .ok (.istore 6, 2) := by decide +kernel
theorem dX5_mixTable_37 : decode cX5_mixTable 37 = .ok (.iload 6, 2) := by decide +kernel
theorem dX5_mixTable_39 : decode cX5_mixTable 39 = .ok (.iconst 1, 1) := by decide +kernel
theorem dX5_mixTable_40 : decode cX5_mixTable 40 = .ok (.if_icmp .gt 53, 3) := by decide +kernel
theorem dX5_mixTable_43 : decode cX5_mixTable 43 = .ok (.iconst 0, 1) := by decide +kernel
theorem dX5_mixTable_44 : decode cX5_mixTable 44 = .ok (.istore 7, 2) := by decide +kernel
theorem dX5_mixTable_46 : decode cX5_mixTable 46 = .ok (.iload 7, 2) := by decide +kernel
theorem dX5_mixTable_48 : decode cX5_mixTable 48 = .ok (.aload_n 0, 1) := by decide +kernel
theorem dX5_mixTable_49 : decode cX5_mixTable 49 = .ok (.getfield 20, 3) := by decide +kernel
theorem dX5_mixTable_52 : decode cX5_mixTable 52 = .ok (.iload_n 3, 1) := by decide +kernel
theorem dX5_mixTable_53 : decode cX5_mixTable 53 = .ok (.iload 6, 2) := by decide +kernel
theorem dX5_mixTable_55 : decode cX5_mixTable 55 = .ok (.invokevirtual 164, 3) := by decide +kernel
theorem dX5_mixTable_58 : decode cX5_mixTable 58 = .ok (.if_icmp .ge 29, 3) := by decide +kernel
theorem dX5_mixTable_61 : decode cX5_mixTable 61 = .ok (.lload 4, 2) := by decide +kernel
theorem dX5_mixTable_63 : decode cX5_mixTable 63 = .ok (.aload_n 0, 1) := by decide +kernel
theorem dX5_mixTable_64 : decode cX5_mixTable 64 = .ok (.getfield 12, 3) := by decide +kernel
theorem dX5_mixTable_67 : decode cX5_mixTable 67 = .ok (.iload_n 3, 1) := by decide +kernel
theorem dX5_mixTable_68 : decode cX5_mixTable 68 = .ok (.iload 6, 2) := by decide +kernel
theorem dX5_mixTable_70 : decode cX5_mixTable 70 = .ok (.iload 7, 2) := by decide +kernel
theorem dX5_mixTable_72 : decode cX5_mixTable 72 = .ok (.invokevirtual 167, 3) := by decide +kernel
theorem dX5_mixTable_75 : decode cX5_mixTable 75 = .ok (.i2l, 1) := by decide +kernel
theorem dX5_mixTable_76 : decode cX5_mixTable 76 = .ok (.invokestatic 202, 3) := by decide +kernel
theorem dX5_mixTable_79 : decode cX5_mixTable 79 = .ok (.lstore 4, 2) := by decide +kernel
theorem dX5_mixTable_81 : decode cX5_mixTable 81 = .ok (.iinc 7 1, 3) := by decide +kernel
theorem dX5_mixTable_84 : decode cX5_mixTable 84 = .ok (.goto (-38), 3) := by decide +kernel
theorem dX5_mixTable_87 : decode cX5_mixTable 87 = .ok (.iinc 6 1, 3) := by decide +kernel
theorem dX5_mixTable_90 : decode cX5_mixTable 90 = .ok (.goto (-53), 3) := by decide +kernel
theorem dX5_mixTable_93 : decode cX5_mixTable 93 = .ok (.iconst 0, 1) := by decide +kernel
theorem dX5_mixTable_94 : decode cX5_mixTable 94 = .ok (.istore 6, 2) := by decide +kernel
theorem dX5_mixTable_96 : decode cX5_mixTable 96 = .ok (.iload 6, 2) := by decide +kernel
theorem dX5_mixTable_98 : decode cX5_mixTable 98 = .ok (.aload_n 0, 1) := by decide +kernel
theorem dX5_mixTable_99 : decode cX5_mixTable 99 = .ok (.getfield 20, 3) := by decide +kernel
theorem dX5_mixTable_102 : decode cX5_mixTable 102 = .ok (.iload_n 3, 1) := by decide +kernel
theorem dX5_mixTable_103 : decode cX5_mixTable 103 = .ok (.iconst 1, 1) := by decide +kernel
theorem dX5_mixTable_104 : decode cX5_mixTable 104 = .ok (.invokevirtual 164, 3) := by decide +kernel
theorem dX5_mixTable_107 : decode cX5_mixTable 107 = .ok (.if_icmp .ge 52, 3) := by decide +kernel
theorem dX5_mixTable_110 : decode cX5_mixTable 110 = .ok (.iconst 0, 1) := by decide +kernel
theorem dX5_mixTable_111 : decode cX5_mixTable 111 = .ok (.istore 7, 2) := by decide +kernel
theorem dX5_mixTable_113 : decode cX5_mixTable 113 = .ok (.iload 7, 2) := by decide +kernel
theorem dX5_mixTable_115 : decode cX5_mixTable 115 = .ok (.aload_n 0, 1) := by decide +kernel
theorem dX5_mixTable_116 : decode cX5_mixTable 116 = .ok (.getfield 20, 3) := by decide +kernel
theorem dX5_mixTable_119 : decode cX5_mixTable 119 = .ok (.iload_n 3, 1) := by decide +kernel
theorem dX5_mixTable_120 : decode cX5_mixTable 120 = .ok (.iconst 0, 1) := by decide +kernel
theorem dX5_mixTable_121 : decode cX5_mixTable 121 = .ok (.invokevirtual 164, 3) := by decide +kernel
theorem dX5_mixTable_124 : decode cX5_mixTable 124 = .ok (.if_icmp .ge 29, 3) := by decide +kernel
theorem dX5_mixTable_127 : decode cX5_mixTable 127 = .ok (.aload_n 0, 1) := by decide +kernel
theorem dX5_mixTable_128 : decode cX5_mixTable 128 = .ok (.lload 4, 2) := by decide +kernel
theorem dX5_mixTable_130 : decode cX5_mixTable 130 = .ok (.aload_n 0, 1) := by decide +kernel
theorem dX5_mixTable_131 : decode cX5_mixTable 131 = .ok (.getfield 20, 3) := by decide +kernel
theorem dX5_mixTable_134 : decode cX5_mixTable 134 = .ok (.iload_n 3, 1) := by decide +kernel
theorem dX5_mixTable_135 : decode cX5_mixTable 135 = .ok (.iload 6, 2) := by decide +kernel
theorem dX5_mixTable_137 : decode cX5_mixTable 137 = .ok (.iload 7, 2) := by decide +kernel
theorem dX5_mixTable_139 : decode cX5_mixTable 139 = .ok (.invokevirtual 99, 3) := by decide +kernel
theorem dX5_mixTable_142 : decode cX5_mixTable 142 = .ok (.invokevirtual 295, 3) := by decide +kernel
theorem dX5_mixTable_145 : decode cX5_mixTable 145 = .ok (.lstore 4, 2) := by decide +kernel
theorem dX5_mixTable_147 : decode cX5_mixTable 147 = .ok (.iinc 7 1, 3) := by decide +kernel
theorem dX5_mixTable_150 : decode cX5_mixTable 150 = .ok (.goto (-37), 3) := by decide +kernel
theorem dX5_mixTable_153 : decode cX5_mixTable 153 = .ok (.iinc 6 1, 3) := by decide +kernel
theorem dX5_mixTable_156 : decode cX5_mixTable 156 = .ok (.goto (-60), 3) := by decide +kernel
theorem dX5_mixTable_159 : decode cX5_mixTable 159 = .ok (.lload 4, 2) := by decide +kernel
theorem dX5_mixTable_161 : decode cX5_mixTable 161 = .ok (.lreturn, 1) := by decide +kernel
theorem dX5_mixSquare_0 : decode cX5_mixSquare 0 = .ok (.lload_n 1, 1) := by decide +kernel
theorem dX5_mixSquare_1 : decode cX5_mixSquare 1 = .ok (.lstore 4, 2) := by decide +kernel
theorem dX5_mixSquare_3 : decode cX5_mixSquare 3 = .ok (.iconst 0, 1) := by decide +kernel
theorem dX5_mixSquare_4 : decode cX5_mixSquare 4 = .ok (.istore 6, 2) := by decide +kernel
theorem dX5_mixSquare_6 : decode cX5_mixSquare 6 = .ok (.iload 6, 2) := by decide +kernel
theorem dX5_mixSquare_8 : decode cX5_mixSquare 8 = .ok (.bipush 12, 2) := by decide +kernel
theorem dX5_mixSquare_10 : decode cX5_mixSquare 10 = .ok (.if_icmp .ge 24, 3) := by decide +kernel
theorem dX5_mixSquare_13 : decode cX5_mixSquare 13 = .ok (.lload 4, 2) := by decide +kernel
theorem dX5_mixSquare_15 : decode cX5_mixSquare 15 = .ok (.aload_n 0, 1) := by decide +kernel
theorem dX5_mixSquare_16 : decode cX5_mixSquare 16 = .ok (.iload_n 3, 1) := by decide +kernel
theorem dX5_mixSquare_17 : decode cX5_mixSquare 17 = .ok (.iload 6, 2) := by decide +kernel
theorem dX5_mixSquare_19 : decode cX5_mixSquare 19 = .ok (.invokevirtual 151, 3) := by decide +kernel
theorem dX5_mixSquare_22 : decode cX5_mixSquare 22 = .ok (.i2l, 1) := by decide +kernel
theorem dX5_mixSquare_23 : decode cX5_mixSquare 23 = .ok (.invokestatic 202, 3) := by decide +kernel
theorem dX5_mixSquare_26 : decode cX5_mixSquare 26 = .ok (.lstore 4, 2) := by decide +kernel
theorem dX5_mixSquare_28 : decode cX5_mixSquare 28 = .ok (.iinc 6 1, 3) := by decide +kernel
theorem dX5_mixSquare_31 : decode cX5_mixSquare 31 = .ok (.goto (-25), 3) := by decide +kernel
theorem dX5_mixSquare_34 : decode cX5_mixSquare 34 = .ok (.iconst 0, 1) := by decide +kernel
theorem dX5_mixSquare_35 : decode cX5_mixSquare 35 = .ok (.istore 6, 2) := by decide +kernel
theorem dX5_mixSquare_37 : decode cX5_mixSquare 37 = .ok (.iload 6, 2) := by decide +kernel
theorem dX5_mixSquare_39 : decode cX5_mixSquare 39 = .ok (.iconst 4, 1) := by decide +kernel
theorem dX5_mixSquare_40 : decode cX5_mixSquare 40 = .ok (.if_icmp .ge 33, 3) := by decide +kernel
theorem dX5_mixSquare_43 : decode cX5_mixSquare 43 = .ok (.lload 4, 2) := by decide +kernel
theorem dX5_mixSquare_45 : decode cX5_mixSquare 45 = .ok (.aload_n 0, 1) := by decide +kernel
theorem dX5_mixSquare_46 : decode cX5_mixSquare 46 = .ok (.getfield 12, 3) := by decide +kernel
theorem dX5_mixSquare_49 : decode cX5_mixSquare 49 = .ok (.getfield 155, 3) := by decide +kernel
theorem dX5_mixSquare_52 : decode cX5_mixSquare 52 = .ok (.iload_n 3, 1) := by decide +kernel
theorem dX5_mixSquare_53 : decode cX5_mixSquare 53 = .ok (.iconst 4, 1) := by decide +kernel
theorem dX5_mixSquare_54 : decode cX5_mixSquare 54 = .ok (.imul, 1) := by decide +kernel
theorem dX5_mixSquare_55 : decode cX5_mixSquare 55 = .ok (.iload 6, 2) := by decide +kernel
theorem dX5_mixSquare_57 : decode cX5_mixSquare 57 = .ok (.iadd, 1) := by decide +kernel
theorem dX5_mixSquare_58 : decode cX5_mixSquare 58 = .ok (.invokevirtual 66, 3) := by decide +kernel
theorem dX5_mixSquare_61 : decode cX5_mixSquare 61 = .ok (.i2l, 1) := by decide +kernel
theorem dX5_mixSquare_62 : decode cX5_mixSquare 62 = .ok (.invokestatic 202, 3) := by decide +kernel
theorem dX5_mixSquare_65 : decode cX5_mixSquare 65 = .ok (.lstore 4, 2) := by decide +kernel
theorem dX5_mixSquare_67 : decode cX5_mixSquare 67 = .ok (.iinc 6 1, 3) := by decide +kernel
theorem dX5_mixSquare_70 : decode cX5_mixSquare 70 = .ok (.goto (-33), 3) := by decide +kernel
theorem dX5_mixSquare_73 : decode cX5_mixSquare 73 = .ok (.lload 4, 2) := by decide +kernel
theorem dX5_mixSquare_75 : decode cX5_mixSquare 75 = .ok (.aload_n 0, 1) := by decide +kernel
theorem dX5_mixSquare_76 : decode cX5_mixSquare 76 = .ok (.iload_n 3, 1) := by decide +kernel
theorem dX5_mixSquare_77 : decode cX5_mixSquare 77 = .ok (.invokevirtual 194, 3) := by decide +kernel
theorem dX5_mixSquare_80 : decode cX5_mixSquare 80 = .ok (.i2l, 1) := by decide +kernel
theorem dX5_mixSquare_81 : decode cX5_mixSquare 81 = .ok (.invokestatic 202, 3) := by decide +kernel
theorem dX5_mixSquare_84 : decode cX5_mixSquare 84 = .ok (.lreturn, 1) := by decide +kernel
theorem dX5_bitsOf_0 : decode cX5_bitsOf 0 = .ok (.dload_n 0, 1) := by decide +kernel
theorem dX5_bitsOf_1 : decode cX5_bitsOf 1 = .ok (.dconst 0, 1) := by decide +kernel
theorem dX5_bitsOf_2 : decode cX5_bitsOf 2 = .ok (.dcmp .l, 1) := by decide +kernel
theorem dX5_bitsOf_3 : decode cX5_bitsOf 3 = .ok (.ifCond .gt 5, 3) := by decide +kernel
theorem dX5_bitsOf_6 : decode cX5_bitsOf 6 = .ok (.lconst 0, 1) := by decide +kernel
theorem dX5_bitsOf_7 : decode cX5_bitsOf 7 = .ok (.lreturn, 1) := by decide +kernel
theorem dX5_bitsOf_8 : decode cX5_bitsOf 8 = .ok (.dload_n 0, 1) := by decide +kernel
theorem dX5_bitsOf_9 : decode cX5_bitsOf 9 = .ok (.dstore_n 2, 1) := by decide +kernel
theorem dX5_bitsOf_10 : decode cX5_bitsOf 10 = .ok (.ldc2_w 298, 3) := by decide +kernel
theorem dX5_bitsOf_13 : decode cX5_bitsOf 13 = .ok (.lstore 4, 2) := by decide +kernel
theorem dX5_bitsOf_15 : decode cX5_bitsOf 15 = .ok (.iconst 0, 1) := by decide +kernel
theorem dX5_bitsOf_16 : decode cX5_bitsOf 16 = .ok (.istore 6, 2) := by decide +kernel
theorem dX5_bitsOf_18 : decode cX5_bitsOf 18 = .ok (.iload 6, 2) := by decide +kernel
theorem dX5_bitsOf_20 : decode cX5_bitsOf 20 = .ok (.sipush 1022, 3) := by decide +kernel
theorem dX5_bitsOf_23 : decode cX5_bitsOf 23 = .ok (.if_icmp .ge 27, 3) := by decide +kernel
theorem dX5_bitsOf_26 : decode cX5_bitsOf 26 = .ok (.dload_n 2, 1) := by decide +kernel
theorem dX5_bitsOf_27 : decode cX5_bitsOf 27 = .ok (.dconst 1, 1) := by decide +kernel
theorem dX5_bitsOf_28 : decode cX5_bitsOf 28 = .ok (.dcmp .g, 1) := by decide +kernel
theorem dX5_bitsOf_29 : decode cX5_bitsOf 29 = .ok (.ifCond .ge 21, 3) := by decide +kernel
theorem dX5_bitsOf_32 : decode cX5_bitsOf 32 = .ok (.dload_n 2, 1) := by decide +kernel
theorem dX5_bitsOf_33 : decode cX5_bitsOf 33 = .ok (.ldc2_w 300, 3) := by decide +kernel
theorem dX5_bitsOf_36 : decode cX5_bitsOf 36 = .ok (.dmul, 1) := by decide +kernel
theorem dX5_bitsOf_37 : decode cX5_bitsOf 37 = .ok (.dstore_n 2, 1) := by decide +kernel
theorem dX5_bitsOf_38 : decode cX5_bitsOf 38 = .ok (.lload 4, 2) := by decide +kernel
theorem dX5_bitsOf_40 : decode cX5_bitsOf 40 = .ok (.lconst 1, 1) := by decide +kernel
theorem dX5_bitsOf_41 : decode cX5_bitsOf 41 = .ok (.lsub, 1) := by decide +kernel
theorem dX5_bitsOf_42 : decode cX5_bitsOf 42 = .ok (.lstore 4, 2) := by decide +kernel
theorem dX5_bitsOf_44 : decode cX5_bitsOf 44 = .ok (.iinc 6 1, 3) := by decide +kernel
theorem dX5_bitsOf_47 : decode cX5_bitsOf 47 = .ok (.goto (-29), 3) := by decide +kernel
theorem dX5_bitsOf_50 : decode cX5_bitsOf 50 = .ok (.lload 4, 2) := by decide +kernel
theorem dX5_bitsOf_52 : decode cX5_bitsOf 52 = .ok (.bipush 52, 2) := by decide +kernel
theorem dX5_bitsOf_54 : decode cX5_bitsOf 54 = .ok (.lshl, 1) := by decide +kernel
theorem dX5_bitsOf_55 : decode cX5_bitsOf 55 = .ok (.dload_n 2, 1) := by decide +kernel
theorem dX5_bitsOf_56 : decode cX5_bitsOf 56 = .ok (.dconst 1, 1) := by decide +kernel
theorem dX5_bitsOf_57 : decode cX5_bitsOf 57 = .ok (.dsub, 1) := by decide +kernel
theorem dX5_bitsOf_58 : decode cX5_bitsOf 58 = .ok (.ldc2_w 302, 3) := by decide +kernel
theorem dX5_bitsOf_61 : decode cX5_bitsOf 61 = .ok (.dmul, 1) := by decide +kernel
theorem dX5_bitsOf_62 : decode cX5_bitsOf 62 = .ok (.d2l, 1) := by decide +kernel
theorem dX5_bitsOf_63 : decode cX5_bitsOf 63 = .ok (.ladd, 1) := by decide +kernel
theorem dX5_bitsOf_64 : decode cX5_bitsOf 64 = .ok (.lreturn, 1) := by decide +kernel
theorem dX5_tableOf_0 : decode cX5_tableOf 0 = .ok (.iload_n 0, 1) := by decide +kernel
theorem dX5_tableOf_1 : decode cX5_tableOf 1 = .ok (.bipush 25, 2) := by decide +kernel
theorem dX5_tableOf_3 : decode cX5_tableOf 3 = .ok (.idiv, 1) := by decide +kernel
theorem dX5_tableOf_4 : decode cX5_tableOf 4 = .ok (.ireturn, 1) := by decide +kernel
theorem dX5_placeOf_0 : decode cX5_placeOf 0 = .ok (.iload_n 1, 1) := by decide +kernel
theorem dX5_placeOf_1 : decode cX5_placeOf 1 = .ok (.iconst 1, 1) := by decide +kernel
theorem dX5_placeOf_2 : decode cX5_placeOf 2 = .ok (.if_icmp .ne 12, 3) := by decide +kernel
theorem dX5_placeOf_5 : decode cX5_placeOf 5 = .ok (.iload_n 0, 1) := by decide +kernel
theorem dX5_placeOf_6 : decode cX5_placeOf 6 = .ok (.bipush 25, 2) := by decide +kernel
theorem dX5_placeOf_8 : decode cX5_placeOf 8 = .ok (.irem, 1) := by decide +kernel
theorem dX5_placeOf_9 : decode cX5_placeOf 9 = .ok (.iconst 5, 1) := by decide +kernel
theorem dX5_placeOf_10 : decode cX5_placeOf 10 = .ok (.idiv, 1) := by decide +kernel
theorem dX5_placeOf_11 : decode cX5_placeOf 11 = .ok (.goto 6, 3) := by decide +kernel
theorem dX5_placeOf_14 : decode cX5_placeOf 14 = .ok (.iload_n 0, 1) := by decide +kernel
theorem dX5_placeOf_15 : decode cX5_placeOf 15 = .ok (.iconst 5, 1) := by decide +kernel
theorem dX5_placeOf_16 : decode cX5_placeOf 16 = .ok (.irem, 1) := by decide +kernel
theorem dX5_placeOf_17 : decode cX5_placeOf 17 = .ok (.ireturn, 1) := by decide +kernel
theorem dX5_signsOf_0 : decode cX5_signsOf 0 = .ok (.iload_n 0, 1) := by decide +kernel
theorem dX5_signsOf_1 : decode cX5_signsOf 1 = .ok (.ifCond .ge 7, 3) := by decide +kernel
theorem dX5_signsOf_4 : decode cX5_signsOf 4 = .ok (.iconst 2, 1) := by decide +kernel
theorem dX5_signsOf_5 : decode cX5_signsOf 5 = .ok (.goto 4, 3) := by decide +kernel
theorem dX5_signsOf_8 : decode cX5_signsOf 8 = .ok (.iconst 1, 1) := by decide +kernel
theorem dX5_signsOf_9 : decode cX5_signsOf 9 = .ok (.istore_n 1, 1) := by decide +kernel
theorem dX5_signsOf_10 : decode cX5_signsOf 10 = .ok (.iload_n 0, 1) := by decide +kernel
theorem dX5_signsOf_11 : decode cX5_signsOf 11 = .ok (.bipush 10, 2) := by decide +kernel
theorem dX5_signsOf_13 : decode cX5_signsOf 13 = .ok (.idiv, 1) := by decide +kernel
theorem dX5_signsOf_14 : decode cX5_signsOf 14 = .ok (.istore_n 2, 1) := by decide +kernel
theorem dX5_signsOf_15 : decode cX5_signsOf 15 = .ok (.iconst 0, 1) := by decide +kernel
theorem dX5_signsOf_16 : decode cX5_signsOf 16 = .ok (.istore_n 3, 1) := by decide +kernel
theorem dX5_signsOf_17 : decode cX5_signsOf 17 = .ok (.iload_n 3, 1) := by decide +kernel
theorem dX5_signsOf_18 : decode cX5_signsOf 18 = .ok (.bipush 10, 2) := by decide +kernel
theorem dX5_signsOf_20 : decode cX5_signsOf 20 = .ok (.if_icmp .ge 21, 3) := by decide +kernel
theorem dX5_signsOf_23 : decode cX5_signsOf 23 = .ok (.iload_n 2, 1) := by decide +kernel
theorem dX5_signsOf_24 : decode cX5_signsOf 24 = .ok (.ifCond .eq 17, 3) := by decide +kernel
theorem dX5_signsOf_27 : decode cX5_signsOf 27 = .ok (.iload_n 2, 1) := by decide +kernel
theorem dX5_signsOf_28 : decode cX5_signsOf 28 = .ok (.bipush 10, 2) := by decide +kernel
theorem dX5_signsOf_30 : decode cX5_signsOf 30 = .ok (.idiv, 1) := by decide +kernel
theorem dX5_signsOf_31 : decode cX5_signsOf 31 = .ok (.istore_n 2, 1) := by decide +kernel
theorem dX5_signsOf_32 : decode cX5_signsOf 32 = .ok (.iinc 1 1, 3) := by decide +kernel
theorem dX5_signsOf_35 : decode cX5_signsOf 35 = .ok (.iinc 3 1, 3) := by decide +kernel
theorem dX5_signsOf_38 : decode cX5_signsOf 38 = .ok (.goto (-21), 3) := by decide +kernel
theorem dX5_signsOf_41 : decode cX5_signsOf 41 = .ok (.iload_n 1, 1) := by decide +kernel
theorem dX5_signsOf_42 : decode cX5_signsOf 42 = .ok (.ireturn, 1) := by decide +kernel
theorem dL_begin_0 : decode cL_begin 0 = .ok (.aload_n 3, 1) := by decide +kernel
theorem dL_begin_1 : decode cL_begin 1 = .ok (.iconst 0, 1) := by decide +kernel
theorem dL_begin_2 : decode cL_begin 2 = .ok (.aload_n 0, 1) := by decide +kernel
theorem dL_begin_3 : decode cL_begin 3 = .ok (.iload_n 1, 1) := by decide +kernel
theorem dL_begin_4 : decode cL_begin 4 = .ok (.iload_n 2, 1) := by decide +kernel
theorem dL_begin_5 : decode cL_begin 5 = .ok (.invokevirtual 7, 3) := by decide +kernel
theorem dL_begin_8 : decode cL_begin 8 = .ok (.i2l, 1) := by decide +kernel
theorem dL_begin_9 : decode cL_begin 9 = .ok (.lastore, 1) := by decide +kernel
theorem dL_begin_10 : decode cL_begin 10 = .ok (.goto 7, 3) := by decide +kernel
theorem dL_begin_13 : decode cL_begin 13 = .ok (.astore 4, 2) := by decide +kernel
theorem dL_begin_15 : decode cL_begin 15 = .ok (.iconst 1, 1) := by decide +kernel
theorem dL_begin_16 : decode cL_begin 16 = .ok (.ireturn, 1) := by decide +kernel
theorem dL_begin_17 : decode cL_begin 17 = .ok (.iconst 0, 1) := by decide +kernel
theorem dL_begin_18 : decode cL_begin 18 = .ok (.ireturn, 1) := by decide +kernel
theorem dL_nest_0 : decode cL_nest 0 = .ok (.aload 6, 2) := by decide +kernel
theorem dL_nest_2 : decode cL_nest 2 = .ok (.iconst 0, 1) := by decide +kernel
theorem dL_nest_3 : decode cL_nest 3 = .ok (.aload_n 0, 1) := by decide +kernel
theorem dL_nest_4 : decode cL_nest 4 = .ok (.iload_n 1, 1) := by decide +kernel
theorem dL_nest_5 : decode cL_nest 5 = .ok (.iload_n 2, 1) := by decide +kernel
theorem dL_nest_6 : decode cL_nest 6 = .ok (.iload_n 3, 1) := by decide +kernel
theorem dL_nest_7 : decode cL_nest 7 = .ok (.iload 4, 2) := by decide +kernel
theorem dL_nest_9 : decode cL_nest 9 = .ok (.iload 5, 2) := by decide +kernel
theorem dL_nest_11 : decode cL_nest 11 = .ok (.invokevirtual 15, 3) := by decide +kernel
theorem dL_nest_14 : decode cL_nest 14 = .ok (.i2l, 1) := by decide +kernel
theorem dL_nest_15 : decode cL_nest 15 = .ok (.lastore, 1) := by decide +kernel
theorem dL_nest_16 : decode cL_nest 16 = .ok (.goto 15, 3) := by decide +kernel
theorem dL_nest_19 : decode cL_nest 19 = .ok (.astore 7, 2) := by decide +kernel
theorem dL_nest_21 : decode cL_nest 21 = .ok (.iconst 1, 1) := by decide +kernel
theorem dL_nest_22 : decode cL_nest 22 = .ok (.ireturn, 1) := by decide +kernel
theorem dL_nest_23 : decode cL_nest 23 = .ok (.astore 7, 2) := by decide +kernel
theorem dL_nest_25 : decode cL_nest 25 = .ok (.iconst 2, 1) := by decide +kernel
theorem dL_nest_26 : decode cL_nest 26 = .ok (.ireturn, 1) := by decide +kernel
theorem dL_nest_27 : decode cL_nest 27 = .ok (.astore 7, 2) := by decide +kernel
theorem dL_nest_29 : decode cL_nest 29 = .ok (.iconst 3, 1) := by decide +kernel
theorem dL_nest_30 : decode cL_nest 30 = .ok (.ireturn, 1) := by decide +kernel
theorem dL_nest_31 : decode cL_nest 31 = .ok (.iconst 0, 1) := by decide +kernel
theorem dL_nest_32 : decode cL_nest 32 = .ok (.ireturn, 1) := by decide +kernel
theorem dL_put_0 : decode cL_put 0 = .ok (.aload 6, 2) := by decide +kernel
theorem dL_put_2 : decode cL_put 2 = .ok (.iconst 0, 1) := by decide +kernel
theorem dL_put_3 : decode cL_put 3 = .ok (.aload_n 0, 1) := by decide +kernel
theorem dL_put_4 : decode cL_put 4 = .ok (.iload_n 1, 1) := by decide +kernel
theorem dL_put_5 : decode cL_put 5 = .ok (.iload_n 2, 1) := by decide +kernel
theorem dL_put_6 : decode cL_put 6 = .ok (.iload_n 3, 1) := by decide +kernel
theorem dL_put_7 : decode cL_put 7 = .ok (.iload 4, 2) := by decide +kernel
theorem dL_put_9 : decode cL_put 9 = .ok (.iload 5, 2) := by decide +kernel
theorem dL_put_11 : decode cL_put 11 = .ok (.invokevirtual 23, 3) := by decide +kernel
theorem dL_put_14 : decode cL_put 14 = .ok (.i2l, 1) := by decide +kernel
theorem dL_put_15 : decode cL_put 15 = .ok (.lastore, 1) := by decide +kernel
theorem dL_put_16 : decode cL_put 16 = .ok (.goto 15, 3) := by decide +kernel
theorem dL_put_19 : decode cL_put 19 = .ok (.astore 7, 2) := by decide +kernel
theorem dL_put_21 : decode cL_put 21 = .ok (.iconst 1, 1) := by decide +kernel
theorem dL_put_22 : decode cL_put 22 = .ok (.ireturn, 1) := by decide +kernel
theorem dL_put_23 : decode cL_put 23 = .ok (.astore 7, 2) := by decide +kernel
theorem dL_put_25 : decode cL_put 25 = .ok (.iconst 2, 1) := by decide +kernel
theorem dL_put_26 : decode cL_put 26 = .ok (.ireturn, 1) := by decide +kernel
theorem dL_put_27 : decode cL_put 27 = .ok (.astore 7, 2) := by decide +kernel
theorem dL_put_29 : decode cL_put 29 = .ok (.iconst 3, 1) := by decide +kernel
theorem dL_put_30 : decode cL_put 30 = .ok (.ireturn, 1) := by decide +kernel
theorem dL_put_31 : decode cL_put 31 = .ok (.iconst 0, 1) := by decide +kernel
theorem dL_put_32 : decode cL_put 32 = .ok (.ireturn, 1) := by decide +kernel
theorem dL_span_0 : decode cL_span 0 = .ok (.aload 6, 2) := by decide +kernel
theorem dL_span_2 : decode cL_span 2 = .ok (.iconst 0, 1) := by decide +kernel
theorem dL_span_3 : decode cL_span 3 = .ok (.aload_n 0, 1) := by decide +kernel
theorem dL_span_4 : decode cL_span 4 = .ok (.iload_n 1, 1) := by decide +kernel
theorem dL_span_5 : decode cL_span 5 = .ok (.iload_n 2, 1) := by decide +kernel
theorem dL_span_6 : decode cL_span 6 = .ok (.iload_n 3, 1) := by decide +kernel
theorem dL_span_7 : decode cL_span 7 = .ok (.iload 4, 2) := by decide +kernel
theorem dL_span_9 : decode cL_span 9 = .ok (.iload 5, 2) := by decide +kernel
theorem dL_span_11 : decode cL_span 11 = .ok (.invokevirtual 26, 3) := by decide +kernel
theorem dL_span_14 : decode cL_span 14 = .ok (.i2l, 1) := by decide +kernel
theorem dL_span_15 : decode cL_span 15 = .ok (.lastore, 1) := by decide +kernel
theorem dL_span_16 : decode cL_span 16 = .ok (.goto 15, 3) := by decide +kernel
theorem dL_span_19 : decode cL_span 19 = .ok (.astore 7, 2) := by decide +kernel
theorem dL_span_21 : decode cL_span 21 = .ok (.iconst 1, 1) := by decide +kernel
theorem dL_span_22 : decode cL_span 22 = .ok (.ireturn, 1) := by decide +kernel
theorem dL_span_23 : decode cL_span 23 = .ok (.astore 7, 2) := by decide +kernel
theorem dL_span_25 : decode cL_span 25 = .ok (.iconst 2, 1) := by decide +kernel
theorem dL_span_26 : decode cL_span 26 = .ok (.ireturn, 1) := by decide +kernel
theorem dL_span_27 : decode cL_span 27 = .ok (.astore 7, 2) := by decide +kernel
theorem dL_span_29 : decode cL_span 29 = .ok (.iconst 3, 1) := by decide +kernel
theorem dL_span_30 : decode cL_span 30 = .ok (.ireturn, 1) := by decide +kernel
theorem dL_span_31 : decode cL_span 31 = .ok (.iconst 0, 1) := by decide +kernel
theorem dL_span_32 : decode cL_span 32 = .ok (.ireturn, 1) := by decide +kernel
theorem dL_rule_0 : decode cL_rule 0 = .ok (.aload 6, 2) := by decide +kernel
theorem dL_rule_2 : decode cL_rule 2 = .ok (.iconst 0, 1) := by decide +kernel
theorem dL_rule_3 : decode cL_rule 3 = .ok (.aload_n 0, 1) := by decide +kernel
theorem dL_rule_4 : decode cL_rule 4 = .ok (.iload_n 1, 1) := by decide +kernel
theorem dL_rule_5 : decode cL_rule 5 = .ok (.iload_n 2, 1) := by decide +kernel
theorem dL_rule_6 : decode cL_rule 6 = .ok (.iload_n 3, 1) := by decide +kernel
theorem dL_rule_7 : decode cL_rule 7 = .ok (.iload 4, 2) := by decide +kernel
theorem dL_rule_9 : decode cL_rule 9 = .ok (.iload 5, 2) := by decide +kernel
theorem dL_rule_11 : decode cL_rule 11 = .ok (.invokevirtual 29, 3) := by decide +kernel
theorem dL_rule_14 : decode cL_rule 14 = .ok (.i2l, 1) := by decide +kernel
theorem dL_rule_15 : decode cL_rule 15 = .ok (.lastore, 1) := by decide +kernel
theorem dL_rule_16 : decode cL_rule 16 = .ok (.goto 15, 3) := by decide +kernel
theorem dL_rule_19 : decode cL_rule 19 = .ok (.astore 7, 2) := by decide +kernel
theorem dL_rule_21 : decode cL_rule 21 = .ok (.iconst 1, 1) := by decide +kernel
theorem dL_rule_22 : decode cL_rule 22 = .ok (.ireturn, 1) := by decide +kernel
theorem dL_rule_23 : decode cL_rule 23 = .ok (.astore 7, 2) := by decide +kernel
theorem dL_rule_25 : decode cL_rule 25 = .ok (.iconst 2, 1) := by decide +kernel
theorem dL_rule_26 : decode cL_rule 26 = .ok (.ireturn, 1) := by decide +kernel
theorem dL_rule_27 : decode cL_rule 27 = .ok (.astore 7, 2) := by decide +kernel
theorem dL_rule_29 : decode cL_rule 29 = .ok (.iconst 3, 1) := by decide +kernel
theorem dL_rule_30 : decode cL_rule 30 = .ok (.ireturn, 1) := by decide +kernel
theorem dL_rule_31 : decode cL_rule 31 = .ok (.iconst 0, 1) := by decide +kernel
theorem dL_rule_32 : decode cL_rule 32 = .ok (.ireturn, 1) := by decide +kernel
theorem dL_set_0 : decode cL_set 0 = .ok (.aload_n 2, 1) := by decide +kernel
theorem dL_set_1 : decode cL_set 1 = .ok (.iconst 0, 1) := by decide +kernel
theorem dL_set_2 : decode cL_set 2 = .ok (.aload_n 0, 1) := by decide +kernel
theorem dL_set_3 : decode cL_set 3 = .ok (.iload_n 1, 1) := by decide +kernel
theorem dL_set_4 : decode cL_set 4 = .ok (.invokevirtual 32, 3) := by decide +kernel
theorem dL_set_7 : decode cL_set 7 = .ok (.i2l, 1) := by decide +kernel
theorem dL_set_8 : decode cL_set 8 = .ok (.lastore, 1) := by decide +kernel
theorem dL_set_9 : decode cL_set 9 = .ok (.goto 6, 3) := by decide +kernel
theorem dL_set_12 : decode cL_set 12 = .ok (.astore_n 3, 1) := by decide +kernel
theorem dL_set_13 : decode cL_set 13 = .ok (.iconst 1, 1) := by decide +kernel
theorem dL_set_14 : decode cL_set 14 = .ok (.ireturn, 1) := by decide +kernel
theorem dL_set_15 : decode cL_set 15 = .ok (.iconst 0, 1) := by decide +kernel
theorem dL_set_16 : decode cL_set 16 = .ok (.ireturn, 1) := by decide +kernel
theorem dL_append_0 : decode cL_append 0 = .ok (.aload_n 2, 1) := by decide +kernel
theorem dL_append_1 : decode cL_append 1 = .ok (.iconst 0, 1) := by decide +kernel
theorem dL_append_2 : decode cL_append 2 = .ok (.aload_n 0, 1) := by decide +kernel
theorem dL_append_3 : decode cL_append 3 = .ok (.iload_n 1, 1) := by decide +kernel
theorem dL_append_4 : decode cL_append 4 = .ok (.invokevirtual 36, 3) := by decide +kernel
theorem dL_append_7 : decode cL_append 7 = .ok (.i2l, 1) := by decide +kernel
theorem dL_append_8 : decode cL_append 8 = .ok (.lastore, 1) := by decide +kernel
theorem dL_append_9 : decode cL_append 9 = .ok (.goto 9, 3) := by decide +kernel
theorem dL_append_12 : decode cL_append 12 = .ok (.astore_n 3, 1) := by decide +kernel
theorem dL_append_13 : decode cL_append 13 = .ok (.iconst 1, 1) := by decide +kernel
theorem dL_append_14 : decode cL_append 14 = .ok (.ireturn, 1) := by decide +kernel
theorem dL_append_15 : decode cL_append 15 = .ok (.astore_n 3, 1) := by decide +kernel
theorem dL_append_16 : decode cL_append 16 = .ok (.iconst 2, 1) := by decide +kernel
theorem dL_append_17 : decode cL_append 17 = .ok (.ireturn, 1) := by decide +kernel
theorem dL_append_18 : decode cL_append 18 = .ok (.iconst 0, 1) := by decide +kernel
theorem dL_append_19 : decode cL_append 19 = .ok (.ireturn, 1) := by decide +kernel
theorem dL_run_0 : decode cL_run 0 = .ok (.aload_n 1, 1) := by decide +kernel
theorem dL_run_1 : decode cL_run 1 = .ok (.iconst 0, 1) := by decide +kernel
theorem dL_run_2 : decode cL_run 2 = .ok (.aload_n 0, 1) := by decide +kernel
theorem dL_run_3 : decode cL_run 3 = .ok (.invokevirtual 39, 3) := by decide +kernel
theorem dL_run_6 : decode cL_run 6 = .ok (.i2l, 1) := by decide +kernel
theorem dL_run_7 : decode cL_run 7 = .ok (.lastore, 1) := by decide +kernel
theorem dL_run_8 : decode cL_run 8 = .ok (.goto 6, 3) := by decide +kernel
theorem dL_run_11 : decode cL_run 11 = .ok (.astore_n 2, 1) := by decide +kernel
theorem dL_run_12 : decode cL_run 12 = .ok (.iconst 1, 1) := by decide +kernel
theorem dL_run_13 : decode cL_run 13 = .ok (.ireturn, 1) := by decide +kernel
theorem dL_run_14 : decode cL_run 14 = .ok (.iconst 0, 1) := by decide +kernel
theorem dL_run_15 : decode cL_run 15 = .ok (.ireturn, 1) := by decide +kernel
theorem dL_undo_0 : decode cL_undo 0 = .ok (.aload_n 1, 1) := by decide +kernel
theorem dL_undo_1 : decode cL_undo 1 = .ok (.iconst 0, 1) := by decide +kernel
theorem dL_undo_2 : decode cL_undo 2 = .ok (.aload_n 0, 1) := by decide +kernel
theorem dL_undo_3 : decode cL_undo 3 = .ok (.invokevirtual 43, 3) := by decide +kernel
theorem dL_undo_6 : decode cL_undo 6 = .ok (.i2l, 1) := by decide +kernel
theorem dL_undo_7 : decode cL_undo 7 = .ok (.lastore, 1) := by decide +kernel
theorem dL_undo_8 : decode cL_undo 8 = .ok (.goto 6, 3) := by decide +kernel
theorem dL_undo_11 : decode cL_undo 11 = .ok (.astore_n 2, 1) := by decide +kernel
theorem dL_undo_12 : decode cL_undo 12 = .ok (.iconst 1, 1) := by decide +kernel
theorem dL_undo_13 : decode cL_undo 13 = .ok (.ireturn, 1) := by decide +kernel
theorem dL_undo_14 : decode cL_undo 14 = .ok (.iconst 0, 1) := by decide +kernel
theorem dL_undo_15 : decode cL_undo 15 = .ok (.ireturn, 1) := by decide +kernel
theorem dL_cell_0 : decode cL_cell 0 = .ok (.aload 5, 2) := by decide +kernel
theorem dL_cell_2 : decode cL_cell 2 = .ok (.iconst 0, 1) := by decide +kernel
theorem dL_cell_3 : decode cL_cell 3 = .ok (.aload_n 0, 1) := by decide +kernel
theorem dL_cell_4 : decode cL_cell 4 = .ok (.iload_n 1, 1) := by decide +kernel
theorem dL_cell_5 : decode cL_cell 5 = .ok (.iload_n 2, 1) := by decide +kernel
theorem dL_cell_6 : decode cL_cell 6 = .ok (.iload_n 3, 1) := by decide +kernel
theorem dL_cell_7 : decode cL_cell 7 = .ok (.iload 4, 2) := by decide +kernel
theorem dL_cell_9 : decode cL_cell 9 = .ok (.invokevirtual 46, 3) := by decide +kernel
theorem dL_cell_12 : decode cL_cell 12 = .ok (.i2l, 1) := by decide +kernel
theorem dL_cell_13 : decode cL_cell 13 = .ok (.lastore, 1) := by decide +kernel
theorem dL_cell_14 : decode cL_cell 14 = .ok (.goto 11, 3) := by decide +kernel
theorem dL_cell_17 : decode cL_cell 17 = .ok (.astore 6, 2) := by decide +kernel
theorem dL_cell_19 : decode cL_cell 19 = .ok (.iconst 1, 1) := by decide +kernel
theorem dL_cell_20 : decode cL_cell 20 = .ok (.ireturn, 1) := by decide +kernel
theorem dL_cell_21 : decode cL_cell 21 = .ok (.astore 6, 2) := by decide +kernel
theorem dL_cell_23 : decode cL_cell 23 = .ok (.iconst 2, 1) := by decide +kernel
theorem dL_cell_24 : decode cL_cell 24 = .ok (.ireturn, 1) := by decide +kernel
theorem dL_cell_25 : decode cL_cell 25 = .ok (.iconst 0, 1) := by decide +kernel
theorem dL_cell_26 : decode cL_cell 26 = .ok (.ireturn, 1) := by decide +kernel
theorem dL_edge_0 : decode cL_edge 0 = .ok (.aload 5, 2) := by decide +kernel
theorem dL_edge_2 : decode cL_edge 2 = .ok (.iconst 0, 1) := by decide +kernel
theorem dL_edge_3 : decode cL_edge 3 = .ok (.aload_n 0, 1) := by decide +kernel
theorem dL_edge_4 : decode cL_edge 4 = .ok (.iload_n 1, 1) := by decide +kernel
theorem dL_edge_5 : decode cL_edge 5 = .ok (.iload_n 2, 1) := by decide +kernel
theorem dL_edge_6 : decode cL_edge 6 = .ok (.iload_n 3, 1) := by decide +kernel
theorem dL_edge_7 : decode cL_edge 7 = .ok (.iload 4, 2) := by decide +kernel
theorem dL_edge_9 : decode cL_edge 9 = .ok (.invokevirtual 50, 3) := by decide +kernel
theorem dL_edge_12 : decode cL_edge 12 = .ok (.i2l, 1) := by decide +kernel
theorem dL_edge_13 : decode cL_edge 13 = .ok (.lastore, 1) := by decide +kernel
theorem dL_edge_14 : decode cL_edge 14 = .ok (.goto 11, 3) := by decide +kernel
theorem dL_edge_17 : decode cL_edge 17 = .ok (.astore 6, 2) := by decide +kernel
theorem dL_edge_19 : decode cL_edge 19 = .ok (.iconst 1, 1) := by decide +kernel
theorem dL_edge_20 : decode cL_edge 20 = .ok (.ireturn, 1) := by decide +kernel
theorem dL_edge_21 : decode cL_edge 21 = .ok (.astore 6, 2) := by decide +kernel
theorem dL_edge_23 : decode cL_edge 23 = .ok (.iconst 2, 1) := by decide +kernel
theorem dL_edge_24 : decode cL_edge 24 = .ok (.ireturn, 1) := by decide +kernel
theorem dL_edge_25 : decode cL_edge 25 = .ok (.iconst 0, 1) := by decide +kernel
theorem dL_edge_26 : decode cL_edge 26 = .ok (.ireturn, 1) := by decide +kernel
theorem dL_table_0 : decode cL_table 0 = .ok (.aload_n 3, 1) := by decide +kernel
theorem dL_table_1 : decode cL_table 1 = .ok (.iconst 0, 1) := by decide +kernel
theorem dL_table_2 : decode cL_table 2 = .ok (.aload_n 0, 1) := by decide +kernel
theorem dL_table_3 : decode cL_table 3 = .ok (.iload_n 1, 1) := by decide +kernel
theorem dL_table_4 : decode cL_table 4 = .ok (.iload_n 2, 1) := by decide +kernel
theorem dL_table_5 : decode cL_table 5 = .ok (.invokevirtual 53, 3) := by decide +kernel
theorem dL_table_8 : decode cL_table 8 = .ok (.i2l, 1) := by decide +kernel
theorem dL_table_9 : decode cL_table 9 = .ok (.lastore, 1) := by decide +kernel
theorem dL_table_10 : decode cL_table 10 = .ok (.goto 11, 3) := by decide +kernel
theorem dL_table_13 : decode cL_table 13 = .ok (.astore 4, 2) := by decide +kernel
theorem dL_table_15 : decode cL_table 15 = .ok (.iconst 1, 1) := by decide +kernel
theorem dL_table_16 : decode cL_table 16 = .ok (.ireturn, 1) := by decide +kernel
theorem dL_table_17 : decode cL_table 17 = .ok (.astore 4, 2) := by decide +kernel
theorem dL_table_19 : decode cL_table 19 = .ok (.iconst 2, 1) := by decide +kernel
theorem dL_table_20 : decode cL_table 20 = .ok (.ireturn, 1) := by decide +kernel
theorem dL_table_21 : decode cL_table 21 = .ok (.iconst 0, 1) := by decide +kernel
theorem dL_table_22 : decode cL_table 22 = .ok (.ireturn, 1) := by decide +kernel
theorem dL_size_0 : decode cL_size 0 = .ok (.aload 4, 2) := by decide +kernel
theorem dL_size_2 : decode cL_size 2 = .ok (.iconst 0, 1) := by decide +kernel
theorem dL_size_3 : decode cL_size 3 = .ok (.aload_n 0, 1) := by decide +kernel
theorem dL_size_4 : decode cL_size 4 = .ok (.iload_n 1, 1) := by decide +kernel
theorem dL_size_5 : decode cL_size 5 = .ok (.iload_n 2, 1) := by decide +kernel
theorem dL_size_6 : decode cL_size 6 = .ok (.iload_n 3, 1) := by decide +kernel
theorem dL_size_7 : decode cL_size 7 = .ok (.invokevirtual 56, 3) := by decide +kernel
theorem dL_size_10 : decode cL_size 10 = .ok (.i2l, 1) := by decide +kernel
theorem dL_size_11 : decode cL_size 11 = .ok (.lastore, 1) := by decide +kernel
theorem dL_size_12 : decode cL_size 12 = .ok (.goto 7, 3) := by decide +kernel
theorem dL_size_15 : decode cL_size 15 = .ok (.astore 5, 2) := by decide +kernel
theorem dL_size_17 : decode cL_size 17 = .ok (.iconst 1, 1) := by decide +kernel
theorem dL_size_18 : decode cL_size 18 = .ok (.ireturn, 1) := by decide +kernel
theorem dL_size_19 : decode cL_size 19 = .ok (.iconst 0, 1) := by decide +kernel
theorem dL_size_20 : decode cL_size 20 = .ok (.ireturn, 1) := by decide +kernel
theorem dL_page_0 : decode cL_page 0 = .ok (.aload_n 2, 1) := by decide +kernel
theorem dL_page_1 : decode cL_page 1 = .ok (.iconst 0, 1) := by decide +kernel
theorem dL_page_2 : decode cL_page 2 = .ok (.aload_n 0, 1) := by decide +kernel
theorem dL_page_3 : decode cL_page 3 = .ok (.iload_n 1, 1) := by decide +kernel
theorem dL_page_4 : decode cL_page 4 = .ok (.invokevirtual 60, 3) := by decide +kernel
theorem dL_page_7 : decode cL_page 7 = .ok (.i2l, 1) := by decide +kernel
theorem dL_page_8 : decode cL_page 8 = .ok (.lastore, 1) := by decide +kernel
theorem dL_page_9 : decode cL_page 9 = .ok (.goto 6, 3) := by decide +kernel
theorem dL_page_12 : decode cL_page 12 = .ok (.astore_n 3, 1) := by decide +kernel
theorem dL_page_13 : decode cL_page 13 = .ok (.iconst 1, 1) := by decide +kernel
theorem dL_page_14 : decode cL_page 14 = .ok (.ireturn, 1) := by decide +kernel
theorem dL_page_15 : decode cL_page 15 = .ok (.iconst 0, 1) := by decide +kernel
theorem dL_page_16 : decode cL_page 16 = .ok (.ireturn, 1) := by decide +kernel
theorem dL_count_0 : decode cL_count 0 = .ok (.aload_n 2, 1) := by decide +kernel
theorem dL_count_1 : decode cL_count 1 = .ok (.iconst 0, 1) := by decide +kernel
theorem dL_count_2 : decode cL_count 2 = .ok (.aload_n 0, 1) := by decide +kernel
theorem dL_count_3 : decode cL_count 3 = .ok (.iload_n 1, 1) := by decide +kernel
theorem dL_count_4 : decode cL_count 4 = .ok (.invokevirtual 63, 3) := by decide +kernel
theorem dL_count_7 : decode cL_count 7 = .ok (.i2l, 1) := by decide +kernel
theorem dL_count_8 : decode cL_count 8 = .ok (.lastore, 1) := by decide +kernel
theorem dL_count_9 : decode cL_count 9 = .ok (.goto 6, 3) := by decide +kernel
theorem dL_count_12 : decode cL_count 12 = .ok (.astore_n 3, 1) := by decide +kernel
theorem dL_count_13 : decode cL_count 13 = .ok (.iconst 1, 1) := by decide +kernel
theorem dL_count_14 : decode cL_count 14 = .ok (.ireturn, 1) := by decide +kernel
theorem dL_count_15 : decode cL_count 15 = .ok (.iconst 0, 1) := by decide +kernel
theorem dL_count_16 : decode cL_count 16 = .ok (.ireturn, 1) := by decide +kernel
theorem dL_ifPut_0 : decode cL_ifPut 0 = .ok (.aload 6, 2) := by decide +kernel
theorem dL_ifPut_2 : decode cL_ifPut 2 = .ok (.iconst 0, 1) := by decide +kernel
theorem dL_ifPut_3 : decode cL_ifPut 3 = .ok (.aload_n 0, 1) := by decide +kernel
theorem dL_ifPut_4 : decode cL_ifPut 4 = .ok (.iload_n 1, 1) := by decide +kernel
theorem dL_ifPut_5 : decode cL_ifPut 5 = .ok (.iload_n 2, 1) := by decide +kernel
theorem dL_ifPut_6 : decode cL_ifPut 6 = .ok (.iload_n 3, 1) := by decide +kernel
theorem dL_ifPut_7 : decode cL_ifPut 7 = .ok (.iload 4, 2) := by decide +kernel
theorem dL_ifPut_9 : decode cL_ifPut 9 = .ok (.iload 5, 2) := by decide +kernel
theorem dL_ifPut_11 : decode cL_ifPut 11 = .ok (.invokevirtual 66, 3) := by decide +kernel
theorem dL_ifPut_14 : decode cL_ifPut 14 = .ok (.i2l, 1) := by decide +kernel
theorem dL_ifPut_15 : decode cL_ifPut 15 = .ok (.lastore, 1) := by decide +kernel
theorem dL_ifPut_16 : decode cL_ifPut 16 = .ok (.goto 11, 3) := by decide +kernel
theorem dL_ifPut_19 : decode cL_ifPut 19 = .ok (.astore 7, 2) := by decide +kernel
theorem dL_ifPut_21 : decode cL_ifPut 21 = .ok (.iconst 1, 1) := by decide +kernel
theorem dL_ifPut_22 : decode cL_ifPut 22 = .ok (.ireturn, 1) := by decide +kernel
theorem dL_ifPut_23 : decode cL_ifPut 23 = .ok (.astore 7, 2) := by decide +kernel
theorem dL_ifPut_25 : decode cL_ifPut 25 = .ok (.iconst 2, 1) := by decide +kernel
theorem dL_ifPut_26 : decode cL_ifPut 26 = .ok (.ireturn, 1) := by decide +kernel
theorem dL_ifPut_27 : decode cL_ifPut 27 = .ok (.iconst 0, 1) := by decide +kernel
theorem dL_ifPut_28 : decode cL_ifPut 28 = .ok (.ireturn, 1) := by decide +kernel
theorem dL_countedBy_0 : decode cL_countedBy 0 = .ok (.aload 4, 2) := by decide +kernel
theorem dL_countedBy_2 : decode cL_countedBy 2 = .ok (.iconst 0, 1) := by decide +kernel
theorem dL_countedBy_3 : decode cL_countedBy 3 = .ok (.aload_n 0, 1) := by decide +kernel
theorem dL_countedBy_4 : decode cL_countedBy 4 = .ok (.iload_n 1, 1) := by decide +kernel
theorem dL_countedBy_5 : decode cL_countedBy 5 = .ok (.iload_n 2, 1) := by decide +kernel
theorem dL_countedBy_6 : decode cL_countedBy 6 = .ok (.iload_n 3, 1) := by decide +kernel
theorem dL_countedBy_7 : decode cL_countedBy 7 = .ok (.invokevirtual 69, 3) := by decide +kernel
theorem dL_countedBy_10 : decode cL_countedBy 10 = .ok (.i2l, 1) := by decide +kernel
theorem dL_countedBy_11 : decode cL_countedBy 11 = .ok (.lastore, 1) := by decide +kernel
theorem dL_countedBy_12 : decode cL_countedBy 12 = .ok (.goto 7, 3) := by decide +kernel
theorem dL_countedBy_15 : decode cL_countedBy 15 = .ok (.astore 5, 2) := by decide +kernel
theorem dL_countedBy_17 : decode cL_countedBy 17 = .ok (.iconst 1, 1) := by decide +kernel
theorem dL_countedBy_18 : decode cL_countedBy 18 = .ok (.ireturn, 1) := by decide +kernel
theorem dL_countedBy_19 : decode cL_countedBy 19 = .ok (.iconst 0, 1) := by decide +kernel
theorem dL_countedBy_20 : decode cL_countedBy 20 = .ok (.ireturn, 1) := by decide +kernel
theorem dL_heightFor_0 : decode cL_heightFor 0 = .ok (.aload_n 2, 1) := by decide +kernel
theorem dL_heightFor_1 : decode cL_heightFor 1 = .ok (.iconst 0, 1) := by decide +kernel
theorem dL_heightFor_2 : decode cL_heightFor 2 = .ok (.aload_n 0, 1) := by decide +kernel
theorem dL_heightFor_3 : decode cL_heightFor 3 = .ok (.iload_n 1, 1) := by decide +kernel
theorem dL_heightFor_4 : decode cL_heightFor 4 = .ok (.invokevirtual 73, 3) := by decide +kernel
theorem dL_heightFor_7 : decode cL_heightFor 7 = .ok (.i2l, 1) := by decide +kernel
theorem dL_heightFor_8 : decode cL_heightFor 8 = .ok (.lastore, 1) := by decide +kernel
theorem dL_heightFor_9 : decode cL_heightFor 9 = .ok (.goto 6, 3) := by decide +kernel
theorem dL_heightFor_12 : decode cL_heightFor 12 = .ok (.astore_n 3, 1) := by decide +kernel
theorem dL_heightFor_13 : decode cL_heightFor 13 = .ok (.iconst 1, 1) := by decide +kernel
theorem dL_heightFor_14 : decode cL_heightFor 14 = .ok (.ireturn, 1) := by decide +kernel
theorem dL_heightFor_15 : decode cL_heightFor 15 = .ok (.iconst 0, 1) := by decide +kernel
theorem dL_heightFor_16 : decode cL_heightFor 16 = .ok (.ireturn, 1) := by decide +kernel
theorem dL_law_0 : decode cL_law 0 = .ok (.new 8, 3) := by decide +kernel
theorem dL_law_3 : decode cL_law 3 = .ok (.dup, 1) := by decide +kernel
theorem dL_law_4 : decode cL_law 4 = .ok (.invokespecial 76, 3) := by decide +kernel
theorem dL_law_7 : decode cL_law 7 = .ok (.astore_n 1, 1) := by decide +kernel
theorem dL_law_8 : decode cL_law 8 = .ok (.new 77, 3) := by decide +kernel
theorem dL_law_11 : decode cL_law 11 = .ok (.dup, 1) := by decide +kernel
theorem dL_law_12 : decode cL_law 12 = .ok (.invokespecial 79, 3) := by decide +kernel
theorem dL_law_15 : decode cL_law 15 = .ok (.astore_n 2, 1) := by decide +kernel
theorem dL_law_16 : decode cL_law 16 = .ok (.iconst 1, 1) := by decide +kernel
theorem dL_law_17 : decode cL_law 17 = .ok (.newarray .long, 2) := by decide +kernel
theorem dL_law_19 : decode cL_law 19 = .ok (.astore_n 3, 1) := by decide +kernel
theorem dL_law_20 : decode cL_law 20 = .ok (.iconst 0, 1) := by decide +kernel
theorem dL_law_21 : decode cL_law 21 = .ok (.istore 4, 2) := by decide +kernel
theorem dL_law_23 : decode cL_law 23 = .ok (.iload 4, 2) := by decide +kernel
theorem dL_law_25 : decode cL_law 25 = .ok (.aload_n 0, 1) := by decide +kernel
theorem dL_law_26 : decode cL_law 26 = .ok (.arraylength, 1) := by decide +kernel
theorem dL_law_27 : decode cL_law 27 = .ok (.bipush 6, 2) := by decide +kernel
theorem dL_law_29 : decode cL_law 29 = .ok (.isub, 1) := by decide +kernel
theorem dL_law_30 : decode cL_law 30 = .ok (.if_icmp .gt 1585, 3) := by decide +kernel
theorem dL_law_33 : decode cL_law 33 = .ok (.aload_n 0, 1) := by decide +kernel
theorem dL_law_34 : decode cL_law 34 = .ok (.iload 4, 2) := by decide +kernel
theorem dL_law_36 : decode cL_law 36 = .ok (.iaload, 1) := by decide +kernel
theorem dL_law_37 : decode cL_law 37 = .ok (.bipush 31, 2) := by decide +kernel
theorem dL_law_39 : decode cL_law 39 = .ok (.iand, 1) := by decide +kernel
theorem dL_law_40 : decode cL_law 40 = .ok (.tableswitch 1569 0 21 #[104, 172, 276, 380, 484, 588, 644, 700, 713, 726, 770, 814, 906, 998, 1066, 1162, 1218, 1274, 1378, 1458, 1514, 1555], 104) := by decide +kernel
theorem dL_law_144 : decode cL_law 144 = .ok (.aload_n 1, 1) := by decide +kernel
theorem dL_law_145 : decode cL_law 145 = .ok (.aload_n 0, 1) := by decide +kernel
theorem dL_law_146 : decode cL_law 146 = .ok (.iload 4, 2) := by decide +kernel
theorem dL_law_148 : decode cL_law 148 = .ok (.iconst 1, 1) := by decide +kernel
theorem dL_law_149 : decode cL_law 149 = .ok (.iadd, 1) := by decide +kernel
theorem dL_law_150 : decode cL_law 150 = .ok (.iaload, 1) := by decide +kernel
theorem dL_law_151 : decode cL_law 151 = .ok (.aload_n 0, 1) := by decide +kernel
theorem dL_law_152 : decode cL_law 152 = .ok (.iload 4, 2) := by decide +kernel
theorem dL_law_154 : decode cL_law 154 = .ok (.iconst 2, 1) := by decide +kernel
theorem dL_law_155 : decode cL_law 155 = .ok (.iadd, 1) := by decide +kernel
theorem dL_law_156 : decode cL_law 156 = .ok (.iaload, 1) := by decide +kernel
theorem dL_law_157 : decode cL_law 157 = .ok (.aload_n 3, 1) := by decide +kernel
theorem dL_law_158 : decode cL_law 158 = .ok (.invokestatic 80, 3) := by decide +kernel
theorem dL_law_161 : decode cL_law 161 = .ok (.istore 5, 2) := by decide +kernel
theorem dL_law_163 : decode cL_law 163 = .ok (.aload_n 2, 1) := by decide +kernel
theorem dL_law_164 : decode cL_law 164 = .ok (.aload_n 0, 1) := by decide +kernel
theorem dL_law_165 : decode cL_law 165 = .ok (.iload 4, 2) := by decide +kernel
theorem dL_law_167 : decode cL_law 167 = .ok (.iconst 1, 1) := by decide +kernel
theorem dL_law_168 : decode cL_law 168 = .ok (.iadd, 1) := by decide +kernel
theorem dL_law_169 : decode cL_law 169 = .ok (.iaload, 1) := by decide +kernel
theorem dL_law_170 : decode cL_law 170 = .ok (.aload_n 0, 1) := by decide +kernel
theorem dL_law_171 : decode cL_law 171 = .ok (.iload 4, 2) := by decide +kernel
theorem dL_law_173 : decode cL_law 173 = .ok (.iconst 2, 1) := by decide +kernel
theorem dL_law_174 : decode cL_law 174 = .ok (.iadd, 1) := by decide +kernel
theorem dL_law_175 : decode cL_law 175 = .ok (.iaload, 1) := by decide +kernel
theorem dL_law_176 : decode cL_law 176 = .ok (.invokevirtual 85, 3) := by decide +kernel
theorem dL_law_179 : decode cL_law 179 = .ok (.istore 6, 2) := by decide +kernel
theorem dL_law_181 : decode cL_law 181 = .ok (.aload_n 2, 1) := by decide +kernel
theorem dL_law_182 : decode cL_law 182 = .ok (.invokevirtual 86, 3) := by decide +kernel
theorem dL_law_185 : decode cL_law 185 = .ok (.iload 5, 2) := by decide +kernel
theorem dL_law_187 : decode cL_law 187 = .ok (.if_icmp .eq 5, 3) := by decide +kernel
theorem dL_law_190 : decode cL_law 190 = .ok (.iconst 0, 1) := by decide +kernel
theorem dL_law_191 : decode cL_law 191 = .ok (.ireturn, 1) := by decide +kernel
theorem dL_law_192 : decode cL_law 192 = .ok (.iload 5, 2) := by decide +kernel
theorem dL_law_194 : decode cL_law 194 = .ok (.ifCond .ne 15, 3) := by decide +kernel
theorem dL_law_197 : decode cL_law 197 = .ok (.aload_n 3, 1) := by decide +kernel
theorem dL_law_198 : decode cL_law 198 = .ok (.iconst 0, 1) := by decide +kernel
theorem dL_law_199 : decode cL_law 199 = .ok (.laload, 1) := by decide +kernel
theorem dL_law_200 : decode cL_law 200 = .ok (.iload 6, 2) := by decide +kernel
theorem dL_law_202 : decode cL_law 202 = .ok (.i2l, 1) := by decide +kernel
theorem dL_law_203 : decode cL_law 203 = .ok (.lcmp, 1) := by decide +kernel
theorem dL_law_204 : decode cL_law 204 = .ok (.ifCond .eq 5, 3) := by decide +kernel
theorem dL_law_207 : decode cL_law 207 = .ok (.iconst 0, 1) := by decide +kernel
theorem dL_law_208 : decode cL_law 208 = .ok (.ireturn, 1) := by decide +kernel
theorem dL_law_209 : decode cL_law 209 = .ok (.goto 1400, 3) := by decide +kernel
theorem dL_law_212 : decode cL_law 212 = .ok (.aload_n 1, 1) := by decide +kernel
theorem dL_law_213 : decode cL_law 213 = .ok (.aload_n 0, 1) := by decide +kernel
theorem dL_law_214 : decode cL_law 214 = .ok (.iload 4, 2) := by decide +kernel
theorem dL_law_216 : decode cL_law 216 = .ok (.iconst 1, 1) := by decide +kernel
theorem dL_law_217 : decode cL_law 217 = .ok (.iadd, 1) := by decide +kernel
theorem dL_law_218 : decode cL_law 218 = .ok (.iaload, 1) := by decide +kernel
theorem dL_law_219 : decode cL_law 219 = .ok (.aload_n 0, 1) := by decide +kernel
theorem dL_law_220 : decode cL_law 220 = .ok (.iload 4, 2) := by decide +kernel
theorem dL_law_222 : decode cL_law 222 = .ok (.iconst 2, 1) := by decide +kernel
theorem dL_law_223 : decode cL_law 223 = .ok (.iadd, 1) := by decide +kernel
theorem dL_law_224 : decode cL_law 224 = .ok (.iaload, 1) := by decide +kernel
theorem dL_law_225 : decode cL_law 225 = .ok (.aload_n 0, 1) := by decide +kernel
theorem dL_law_226 : decode cL_law 226 = .ok (.iload 4, 2) := by decide +kernel
theorem dL_law_228 : decode cL_law 228 = .ok (.iconst 3, 1) := by decide +kernel
theorem dL_law_229 : decode cL_law 229 = .ok (.iadd, 1) := by decide +kernel
theorem dL_law_230 : decode cL_law 230 = .ok (.iaload, 1) := by decide +kernel
theorem dL_law_231 : decode cL_law 231 = .ok (.aload_n 0, 1) := by decide +kernel
theorem dL_law_232 : decode cL_law 232 = .ok (.iload 4, 2) := by decide +kernel
theorem dL_law_234 : decode cL_law 234 = .ok (.iconst 4, 1) := by decide +kernel
theorem dL_law_235 : decode cL_law 235 = .ok (.iadd, 1) := by decide +kernel
theorem dL_law_236 : decode cL_law 236 = .ok (.iaload, 1) := by decide +kernel
theorem dL_law_237 : decode cL_law 237 = .ok (.aload_n 0, 1) := by decide +kernel
theorem dL_law_238 : decode cL_law 238 = .ok (.iload 4, 2) := by decide +kernel
theorem dL_law_240 : decode cL_law 240 = .ok (.iconst 5, 1) := by decide +kernel
theorem dL_law_241 : decode cL_law 241 = .ok (.iadd, 1) := by decide +kernel
theorem dL_law_242 : decode cL_law 242 = .ok (.iaload, 1) := by decide +kernel
theorem dL_law_243 : decode cL_law 243 = .ok (.aload_n 3, 1) := by decide +kernel
theorem dL_law_244 : decode cL_law 244 = .ok (.invokestatic 89, 3) := by decide +kernel
theorem dL_law_247 : decode cL_law 247 = .ok (.istore 5, 2) := by decide +kernel
theorem dL_law_249 : decode cL_law 249 = .ok (.aload_n 2, 1) := by decide +kernel
theorem dL_law_250 : decode cL_law 250 = .ok (.aload_n 0, 1) := by decide +kernel
theorem dL_law_251 : decode cL_law 251 = .ok (.iload 4, 2) := by decide +kernel
theorem dL_law_253 : decode cL_law 253 = .ok (.iconst 1, 1) := by decide +kernel
theorem dL_law_254 : decode cL_law 254 = .ok (.iadd, 1) := by decide +kernel
theorem dL_law_255 : decode cL_law 255 = .ok (.iaload, 1) := by decide +kernel
theorem dL_law_256 : decode cL_law 256 = .ok (.aload_n 0, 1) := by decide +kernel
theorem dL_law_257 : decode cL_law 257 = .ok (.iload 4, 2) := by decide +kernel
theorem dL_law_259 : decode cL_law 259 = .ok (.iconst 2, 1) := by decide +kernel
theorem dL_law_260 : decode cL_law 260 = .ok (.iadd, 1) := by decide +kernel
theorem dL_law_261 : decode cL_law 261 = .ok (.iaload, 1) := by decide +kernel
theorem dL_law_262 : decode cL_law 262 = .ok (.aload_n 0, 1) := by decide +kernel
theorem dL_law_263 : decode cL_law 263 = .ok (.iload 4, 2) := by decide +kernel
theorem dL_law_265 : decode cL_law 265 = .ok (.iconst 3, 1) := by decide +kernel
theorem dL_law_266 : decode cL_law 266 = .ok (.iadd, 1) := by decide +kernel
theorem dL_law_267 : decode cL_law 267 = .ok (.iaload, 1) := by decide +kernel
theorem dL_law_268 : decode cL_law 268 = .ok (.aload_n 0, 1) := by decide +kernel
theorem dL_law_269 : decode cL_law 269 = .ok (.iload 4, 2) := by decide +kernel
theorem dL_law_271 : decode cL_law 271 = .ok (.iconst 4, 1) := by decide +kernel
theorem dL_law_272 : decode cL_law 272 = .ok (.iadd, 1) := by decide +kernel
theorem dL_law_273 : decode cL_law 273 = .ok (.iaload, 1) := by decide +kernel
theorem dL_law_274 : decode cL_law 274 = .ok (.aload_n 0, 1) := by decide +kernel
theorem dL_law_275 : decode cL_law 275 = .ok (.iload 4, 2) := by decide +kernel
theorem dL_law_277 : decode cL_law 277 = .ok (.iconst 5, 1) := by decide +kernel
theorem dL_law_278 : decode cL_law 278 = .ok (.iadd, 1) := by decide +kernel
theorem dL_law_279 : decode cL_law 279 = .ok (.iaload, 1) := by decide +kernel
theorem dL_law_280 : decode cL_law 280 = .ok (.invokevirtual 92, 3) := by decide +kernel
theorem dL_law_283 : decode cL_law 283 = .ok (.istore 6, 2) := by decide +kernel
theorem dL_law_285 : decode cL_law 285 = .ok (.aload_n 2, 1) := by decide +kernel
theorem dL_law_286 : decode cL_law 286 = .ok (.invokevirtual 86, 3) := by decide +kernel
theorem dL_law_289 : decode cL_law 289 = .ok (.iload 5, 2) := by decide +kernel
theorem dL_law_291 : decode cL_law 291 = .ok (.if_icmp .eq 5, 3) := by decide +kernel
theorem dL_law_294 : decode cL_law 294 = .ok (.iconst 0, 1) := by decide +kernel
theorem dL_law_295 : decode cL_law 295 = .ok (.ireturn, 1) := by decide +kernel
theorem dL_law_296 : decode cL_law 296 = .ok (.iload 5, 2) := by decide +kernel
theorem dL_law_298 : decode cL_law 298 = .ok (.ifCond .ne 15, 3) := by decide +kernel
theorem dL_law_301 : decode cL_law 301 = .ok (.aload_n 3, 1) := by decide +kernel
theorem dL_law_302 : decode cL_law 302 = .ok (.iconst 0, 1) := by decide +kernel
theorem dL_law_303 : decode cL_law 303 = .ok (.laload, 1) := by decide +kernel
theorem dL_law_304 : decode cL_law 304 = .ok (.iload 6, 2) := by decide +kernel
theorem dL_law_306 : decode cL_law 306 = .ok (.i2l, 1) := by decide +kernel
theorem dL_law_307 : decode cL_law 307 = .ok (.lcmp, 1) := by decide +kernel
theorem dL_law_308 : decode cL_law 308 = .ok (.ifCond .eq 5, 3) := by decide +kernel
theorem dL_law_311 : decode cL_law 311 = .ok (.iconst 0, 1) := by decide +kernel
theorem dL_law_312 : decode cL_law 312 = .ok (.ireturn, 1) := by decide +kernel
theorem dL_law_313 : decode cL_law 313 = .ok (.goto 1296, 3) := by decide +kernel
theorem dL_law_316 : decode cL_law 316 = .ok (.aload_n 1, 1) := by decide +kernel
theorem dL_law_317 : decode cL_law 317 = .ok (.aload_n 0, 1) := by decide +kernel
theorem dL_law_318 : decode cL_law 318 = .ok (.iload 4, 2) := by decide +kernel
theorem dL_law_320 : decode cL_law 320 = .ok (.iconst 1, 1) := by decide +kernel
theorem dL_law_321 : decode cL_law 321 = .ok (.iadd, 1) := by decide +kernel
theorem dL_law_322 : decode cL_law 322 = .ok (.iaload, 1) := by decide +kernel
theorem dL_law_323 : decode cL_law 323 = .ok (.aload_n 0, 1) := by decide +kernel
theorem dL_law_324 : decode cL_law 324 = .ok (.iload 4, 2) := by decide +kernel
theorem dL_law_326 : decode cL_law 326 = .ok (.iconst 2, 1) := by decide +kernel
theorem dL_law_327 : decode cL_law 327 = .ok (.iadd, 1) := by decide +kernel
theorem dL_law_328 : decode cL_law 328 = .ok (.iaload, 1) := by decide +kernel
theorem dL_law_329 : decode cL_law 329 = .ok (.aload_n 0, 1) := by decide +kernel
theorem dL_law_330 : decode cL_law 330 = .ok (.iload 4, 2) := by decide +kernel
theorem dL_law_332 : decode cL_law 332 = .ok (.iconst 3, 1) := by decide +kernel
theorem dL_law_333 : decode cL_law 333 = .ok (.iadd, 1) := by decide +kernel
theorem dL_law_334 : decode cL_law 334 = .ok (.iaload, 1) := by decide +kernel
theorem dL_law_335 : decode cL_law 335 = .ok (.aload_n 0, 1) := by decide +kernel
theorem dL_law_336 : decode cL_law 336 = .ok (.iload 4, 2) := by decide +kernel
theorem dL_law_338 : decode cL_law 338 = .ok (.iconst 4, 1) := by decide +kernel
theorem dL_law_339 : decode cL_law 339 = .ok (.iadd, 1) := by decide +kernel
theorem dL_law_340 : decode cL_law 340 = .ok (.iaload, 1) := by decide +kernel
theorem dL_law_341 : decode cL_law 341 = .ok (.aload_n 0, 1) := by decide +kernel
theorem dL_law_342 : decode cL_law 342 = .ok (.iload 4, 2) := by decide +kernel
theorem dL_law_344 : decode cL_law 344 = .ok (.iconst 5, 1) := by decide +kernel
theorem dL_law_345 : decode cL_law 345 = .ok (.iadd, 1) := by decide +kernel
theorem dL_law_346 : decode cL_law 346 = .ok (.iaload, 1) := by decide +kernel
theorem dL_law_347 : decode cL_law 347 = .ok (.aload_n 3, 1) := by decide +kernel
theorem dL_law_348 : decode cL_law 348 = .ok (.invokestatic 93, 3) := by decide +kernel
theorem dL_law_351 : decode cL_law 351 = .ok (.istore 5, 2) := by decide +kernel
theorem dL_law_353 : decode cL_law 353 = .ok (.aload_n 2, 1) := by decide +kernel
theorem dL_law_354 : decode cL_law 354 = .ok (.aload_n 0, 1) := by decide +kernel
theorem dL_law_355 : decode cL_law 355 = .ok (.iload 4, 2) := by decide +kernel
theorem dL_law_357 : decode cL_law 357 = .ok (.iconst 1, 1) := by decide +kernel
theorem dL_law_358 : decode cL_law 358 = .ok (.iadd, 1) := by decide +kernel
theorem dL_law_359 : decode cL_law 359 = .ok (.iaload, 1) := by decide +kernel
theorem dL_law_360 : decode cL_law 360 = .ok (.aload_n 0, 1) := by decide +kernel
theorem dL_law_361 : decode cL_law 361 = .ok (.iload 4, 2) := by decide +kernel
theorem dL_law_363 : decode cL_law 363 = .ok (.iconst 2, 1) := by decide +kernel
theorem dL_law_364 : decode cL_law 364 = .ok (.iadd, 1) := by decide +kernel
theorem dL_law_365 : decode cL_law 365 = .ok (.iaload, 1) := by decide +kernel
theorem dL_law_366 : decode cL_law 366 = .ok (.aload_n 0, 1) := by decide +kernel
theorem dL_law_367 : decode cL_law 367 = .ok (.iload 4, 2) := by decide +kernel
theorem dL_law_369 : decode cL_law 369 = .ok (.iconst 3, 1) := by decide +kernel
theorem dL_law_370 : decode cL_law 370 = .ok (.iadd, 1) := by decide +kernel
theorem dL_law_371 : decode cL_law 371 = .ok (.iaload, 1) := by decide +kernel
theorem dL_law_372 : decode cL_law 372 = .ok (.aload_n 0, 1) := by decide +kernel
theorem dL_law_373 : decode cL_law 373 = .ok (.iload 4, 2) := by decide +kernel
theorem dL_law_375 : decode cL_law 375 = .ok (.iconst 4, 1) := by decide +kernel
theorem dL_law_376 : decode cL_law 376 = .ok (.iadd, 1) := by decide +kernel
theorem dL_law_377 : decode cL_law 377 = .ok (.iaload, 1) := by decide +kernel
theorem dL_law_378 : decode cL_law 378 = .ok (.aload_n 0, 1) := by decide +kernel
theorem dL_law_379 : decode cL_law 379 = .ok (.iload 4, 2) := by decide +kernel
theorem dL_law_381 : decode cL_law 381 = .ok (.iconst 5, 1) := by decide +kernel
theorem dL_law_382 : decode cL_law 382 = .ok (.iadd, 1) := by decide +kernel
theorem dL_law_383 : decode cL_law 383 = .ok (.iaload, 1) := by decide +kernel
theorem dL_law_384 : decode cL_law 384 = .ok (.invokevirtual 95, 3) := by decide +kernel
theorem dL_law_387 : decode cL_law 387 = .ok (.istore 6, 2) := by decide +kernel
theorem dL_law_389 : decode cL_law 389 = .ok (.aload_n 2, 1) := by decide +kernel
theorem dL_law_390 : decode cL_law 390 = .ok (.invokevirtual 86, 3) := by decide +kernel
theorem dL_law_393 : decode cL_law 393 = .ok (.iload 5, 2) := by decide +kernel
theorem dL_law_395 : decode cL_law 395 = .ok (.if_icmp .eq 5, 3) := by decide +kernel
theorem dL_law_398 : decode cL_law 398 = .ok (.iconst 0, 1) := by decide +kernel
theorem dL_law_399 : decode cL_law 399 = .ok (.ireturn, 1) := by decide +kernel
theorem dL_law_400 : decode cL_law 400 = .ok (.iload 5, 2) := by decide +kernel
theorem dL_law_402 : decode cL_law 402 = .ok (.ifCond .ne 15, 3) := by decide +kernel
theorem dL_law_405 : decode cL_law 405 = .ok (.aload_n 3, 1) := by decide +kernel
theorem dL_law_406 : decode cL_law 406 = .ok (.iconst 0, 1) := by decide +kernel
theorem dL_law_407 : decode cL_law 407 = .ok (.laload, 1) := by decide +kernel
theorem dL_law_408 : decode cL_law 408 = .ok (.iload 6, 2) := by decide +kernel
theorem dL_law_410 : decode cL_law 410 = .ok (.i2l, 1) := by decide +kernel
theorem dL_law_411 : decode cL_law 411 = .ok (.lcmp, 1) := by decide +kernel
theorem dL_law_412 : decode cL_law 412 = .ok (.ifCond .eq 5, 3) := by decide +kernel
theorem dL_law_415 : decode cL_law 415 = .ok (.iconst 0, 1) := by decide +kernel
theorem dL_law_416 : decode cL_law 416 = .ok (.ireturn, 1) := by decide +kernel
theorem dL_law_417 : decode cL_law 417 = .ok (.goto 1192, 3) := by decide +kernel
theorem dL_law_420 : decode cL_law 420 = .ok (.aload_n 1, 1) := by decide +kernel
theorem dL_law_421 : decode cL_law 421 = .ok (.aload_n 0, 1) := by decide +kernel
theorem dL_law_422 : decode cL_law 422 = .ok (.iload 4, 2) := by decide +kernel
theorem dL_law_424 : decode cL_law 424 = .ok (.iconst 1, 1) := by decide +kernel
theorem dL_law_425 : decode cL_law 425 = .ok (.iadd, 1) := by decide +kernel
theorem dL_law_426 : decode cL_law 426 = .ok (.iaload, 1) := by decide +kernel
theorem dL_law_427 : decode cL_law 427 = .ok (.aload_n 0, 1) := by decide +kernel
theorem dL_law_428 : decode cL_law 428 = .ok (.iload 4, 2) := by decide +kernel
theorem dL_law_430 : decode cL_law 430 = .ok (.iconst 2, 1) := by decide +kernel
theorem dL_law_431 : decode cL_law 431 = .ok (.iadd, 1) := by decide +kernel
theorem dL_law_432 : decode cL_law 432 = .ok (.iaload, 1) := by decide +kernel
theorem dL_law_433 : decode cL_law 433 = .ok (.aload_n 0, 1) := by decide +kernel
theorem dL_law_434 : decode cL_law 434 = .ok (.iload 4, 2) := by decide +kernel
theorem dL_law_436 : decode cL_law 436 = .ok (.iconst 3, 1) := by decide +kernel
theorem dL_law_437 : decode cL_law 437 = .ok (.iadd, 1) := by decide +kernel
theorem dL_law_438 : decode cL_law 438 = .ok (.iaload, 1) := by decide +kernel
theorem dL_law_439 : decode cL_law 439 = .ok (.aload_n 0, 1) := by decide +kernel
theorem dL_law_440 : decode cL_law 440 = .ok (.iload 4, 2) := by decide +kernel
theorem dL_law_442 : decode cL_law 442 = .ok (.iconst 4, 1) := by decide +kernel
theorem dL_law_443 : decode cL_law 443 = .ok (.iadd, 1) := by decide +kernel
theorem dL_law_444 : decode cL_law 444 = .ok (.iaload, 1) := by decide +kernel
theorem dL_law_445 : decode cL_law 445 = .ok (.aload_n 0, 1) := by decide +kernel
theorem dL_law_446 : decode cL_law 446 = .ok (.iload 4, 2) := by decide +kernel
theorem dL_law_448 : decode cL_law 448 = .ok (.iconst 5, 1) := by decide +kernel
theorem dL_law_449 : decode cL_law 449 = .ok (.iadd, 1) := by decide +kernel
theorem dL_law_450 : decode cL_law 450 = .ok (.iaload, 1) := by decide +kernel
theorem dL_law_451 : decode cL_law 451 = .ok (.aload_n 3, 1) := by decide +kernel
theorem dL_law_452 : decode cL_law 452 = .ok (.invokestatic 96, 3) := by decide +kernel
theorem dL_law_455 : decode cL_law 455 = .ok (.istore 5, 2) := by decide +kernel
theorem dL_law_457 : decode cL_law 457 = .ok (.aload_n 2, 1) := by decide +kernel
theorem dL_law_458 : decode cL_law 458 = .ok (.aload_n 0, 1) := by decide +kernel
theorem dL_law_459 : decode cL_law 459 = .ok (.iload 4, 2) := by decide +kernel
theorem dL_law_461 : decode cL_law 461 = .ok (.iconst 1, 1) := by decide +kernel
theorem dL_law_462 : decode cL_law 462 = .ok (.iadd, 1) := by decide +kernel
theorem dL_law_463 : decode cL_law 463 = .ok (.iaload, 1) := by decide +kernel
theorem dL_law_464 : decode cL_law 464 = .ok (.aload_n 0, 1) := by decide +kernel
theorem dL_law_465 : decode cL_law 465 = .ok (.iload 4, 2) := by decide +kernel
theorem dL_law_467 : decode cL_law 467 = .ok (.iconst 2, 1) := by decide +kernel
theorem dL_law_468 : decode cL_law 468 = .ok (.iadd, 1) := by decide +kernel
theorem dL_law_469 : decode cL_law 469 = .ok (.iaload, 1) := by decide +kernel
theorem dL_law_470 : decode cL_law 470 = .ok (.aload_n 0, 1) := by decide +kernel
theorem dL_law_471 : decode cL_law 471 = .ok (.iload 4, 2) := by decide +kernel
theorem dL_law_473 : decode cL_law 473 = .ok (.iconst 3, 1) := by decide +kernel
theorem dL_law_474 : decode cL_law 474 = .ok (.iadd, 1) := by decide +kernel
theorem dL_law_475 : decode cL_law 475 = .ok (.iaload, 1) := by decide +kernel
theorem dL_law_476 : decode cL_law 476 = .ok (.aload_n 0, 1) := by decide +kernel
theorem dL_law_477 : decode cL_law 477 = .ok (.iload 4, 2) := by decide +kernel
theorem dL_law_479 : decode cL_law 479 = .ok (.iconst 4, 1) := by decide +kernel
theorem dL_law_480 : decode cL_law 480 = .ok (.iadd, 1) := by decide +kernel
theorem dL_law_481 : decode cL_law 481 = .ok (.iaload, 1) := by decide +kernel
theorem dL_law_482 : decode cL_law 482 = .ok (.aload_n 0, 1) := by decide +kernel
theorem dL_law_483 : decode cL_law 483 = .ok (.iload 4, 2) := by decide +kernel
theorem dL_law_485 : decode cL_law 485 = .ok (.iconst 5, 1) := by decide +kernel
theorem dL_law_486 : decode cL_law 486 = .ok (.iadd, 1) := by decide +kernel
theorem dL_law_487 : decode cL_law 487 = .ok (.iaload, 1) := by decide +kernel
theorem dL_law_488 : decode cL_law 488 = .ok (.invokevirtual 98, 3) := by decide +kernel
theorem dL_law_491 : decode cL_law 491 = .ok (.istore 6, 2) := by decide +kernel
theorem dL_law_493 : decode cL_law 493 = .ok (.aload_n 2, 1) := by decide +kernel
theorem dL_law_494 : decode cL_law 494 = .ok (.invokevirtual 86, 3) := by decide +kernel
theorem dL_law_497 : decode cL_law 497 = .ok (.iload 5, 2) := by decide +kernel
theorem dL_law_499 : decode cL_law 499 = .ok (.if_icmp .eq 5, 3) := by decide +kernel
theorem dL_law_502 : decode cL_law 502 = .ok (.iconst 0, 1) := by decide +kernel
theorem dL_law_503 : decode cL_law 503 = .ok (.ireturn, 1) := by decide +kernel
theorem dL_law_504 : decode cL_law 504 = .ok (.iload 5, 2) := by decide +kernel
theorem dL_law_506 : decode cL_law 506 = .ok (.ifCond .ne 15, 3) := by decide +kernel
theorem dL_law_509 : decode cL_law 509 = .ok (.aload_n 3, 1) := by decide +kernel
theorem dL_law_510 : decode cL_law 510 = .ok (.iconst 0, 1) := by decide +kernel
theorem dL_law_511 : decode cL_law 511 = .ok (.laload, 1) := by decide +kernel
theorem dL_law_512 : decode cL_law 512 = .ok (.iload 6, 2) := by decide +kernel
theorem dL_law_514 : decode cL_law 514 = .ok (.i2l, 1) := by decide +kernel
theorem dL_law_515 : decode cL_law 515 = .ok (.lcmp, 1) := by decide +kernel
theorem dL_law_516 : decode cL_law 516 = .ok (.ifCond .eq 5, 3) := by decide +kernel
theorem dL_law_519 : decode cL_law 519 = .ok (.iconst 0, 1) := by decide +kernel
theorem dL_law_520 : decode cL_law 520 = .ok (.ireturn, 1) := by decide +kernel
theorem dL_law_521 : decode cL_law 521 = .ok (.goto 1088, 3) := by decide +kernel
theorem dL_law_524 : decode cL_law 524 = .ok (.aload_n 1, 1) := by decide +kernel
theorem dL_law_525 : decode cL_law 525 = .ok (.aload_n 0, 1) := by decide +kernel
theorem dL_law_526 : decode cL_law 526 = .ok (.iload 4, 2) := by decide +kernel
theorem dL_law_528 : decode cL_law 528 = .ok (.iconst 1, 1) := by decide +kernel
theorem dL_law_529 : decode cL_law 529 = .ok (.iadd, 1) := by decide +kernel
theorem dL_law_530 : decode cL_law 530 = .ok (.iaload, 1) := by decide +kernel
theorem dL_law_531 : decode cL_law 531 = .ok (.aload_n 0, 1) := by decide +kernel
theorem dL_law_532 : decode cL_law 532 = .ok (.iload 4, 2) := by decide +kernel
theorem dL_law_534 : decode cL_law 534 = .ok (.iconst 2, 1) := by decide +kernel
theorem dL_law_535 : decode cL_law 535 = .ok (.iadd, 1) := by decide +kernel
theorem dL_law_536 : decode cL_law 536 = .ok (.iaload, 1) := by decide +kernel
theorem dL_law_537 : decode cL_law 537 = .ok (.aload_n 0, 1) := by decide +kernel
theorem dL_law_538 : decode cL_law 538 = .ok (.iload 4, 2) := by decide +kernel
theorem dL_law_540 : decode cL_law 540 = .ok (.iconst 3, 1) := by decide +kernel
theorem dL_law_541 : decode cL_law 541 = .ok (.iadd, 1) := by decide +kernel
theorem dL_law_542 : decode cL_law 542 = .ok (.iaload, 1) := by decide +kernel
theorem dL_law_543 : decode cL_law 543 = .ok (.aload_n 0, 1) := by decide +kernel
theorem dL_law_544 : decode cL_law 544 = .ok (.iload 4, 2) := by decide +kernel
theorem dL_law_546 : decode cL_law 546 = .ok (.iconst 4, 1) := by decide +kernel
theorem dL_law_547 : decode cL_law 547 = .ok (.iadd, 1) := by decide +kernel
theorem dL_law_548 : decode cL_law 548 = .ok (.iaload, 1) := by decide +kernel
theorem dL_law_549 : decode cL_law 549 = .ok (.aload_n 0, 1) := by decide +kernel
theorem dL_law_550 : decode cL_law 550 = .ok (.iload 4, 2) := by decide +kernel
theorem dL_law_552 : decode cL_law 552 = .ok (.iconst 5, 1) := by decide +kernel
theorem dL_law_553 : decode cL_law 553 = .ok (.iadd, 1) := by decide +kernel
theorem dL_law_554 : decode cL_law 554 = .ok (.iaload, 1) := by decide +kernel
theorem dL_law_555 : decode cL_law 555 = .ok (.aload_n 3, 1) := by decide +kernel
theorem dL_law_556 : decode cL_law 556 = .ok (.invokestatic 99, 3) := by decide +kernel
theorem dL_law_559 : decode cL_law 559 = .ok (.istore 5, 2) := by decide +kernel
theorem dL_law_561 : decode cL_law 561 = .ok (.aload_n 2, 1) := by decide +kernel
theorem dL_law_562 : decode cL_law 562 = .ok (.aload_n 0, 1) := by decide +kernel
theorem dL_law_563 : decode cL_law 563 = .ok (.iload 4, 2) := by decide +kernel
theorem dL_law_565 : decode cL_law 565 = .ok (.iconst 1, 1) := by decide +kernel
theorem dL_law_566 : decode cL_law 566 = .ok (.iadd, 1) := by decide +kernel
theorem dL_law_567 : decode cL_law 567 = .ok (.iaload, 1) := by decide +kernel
theorem dL_law_568 : decode cL_law 568 = .ok (.aload_n 0, 1) := by decide +kernel
theorem dL_law_569 : decode cL_law 569 = .ok (.iload 4, 2) := by decide +kernel
theorem dL_law_571 : decode cL_law 571 = .ok (.iconst 2, 1) := by decide +kernel
theorem dL_law_572 : decode cL_law 572 = .ok (.iadd, 1) := by decide +kernel
theorem dL_law_573 : decode cL_law 573 = .ok (.iaload, 1) := by decide +kernel
theorem dL_law_574 : decode cL_law 574 = .ok (.aload_n 0, 1) := by decide +kernel
theorem dL_law_575 : decode cL_law 575 = .ok (.iload 4, 2) := by decide +kernel
theorem dL_law_577 : decode cL_law 577 = .ok (.iconst 3, 1) := by decide +kernel
theorem dL_law_578 : decode cL_law 578 = .ok (.iadd, 1) := by decide +kernel
theorem dL_law_579 : decode cL_law 579 = .ok (.iaload, 1) := by decide +kernel
theorem dL_law_580 : decode cL_law 580 = .ok (.aload_n 0, 1) := by decide +kernel
theorem dL_law_581 : decode cL_law 581 = .ok (.iload 4, 2) := by decide +kernel
theorem dL_law_583 : decode cL_law 583 = .ok (.iconst 4, 1) := by decide +kernel
theorem dL_law_584 : decode cL_law 584 = .ok (.iadd, 1) := by decide +kernel
theorem dL_law_585 : decode cL_law 585 = .ok (.iaload, 1) := by decide +kernel
theorem dL_law_586 : decode cL_law 586 = .ok (.aload_n 0, 1) := by decide +kernel
theorem dL_law_587 : decode cL_law 587 = .ok (.iload 4, 2) := by decide +kernel
theorem dL_law_589 : decode cL_law 589 = .ok (.iconst 5, 1) := by decide +kernel
theorem dL_law_590 : decode cL_law 590 = .ok (.iadd, 1) := by decide +kernel
theorem dL_law_591 : decode cL_law 591 = .ok (.iaload, 1) := by decide +kernel
theorem dL_law_592 : decode cL_law 592 = .ok (.invokevirtual 101, 3) := by decide +kernel
theorem dL_law_595 : decode cL_law 595 = .ok (.istore 6, 2) := by decide +kernel
theorem dL_law_597 : decode cL_law 597 = .ok (.aload_n 2, 1) := by decide +kernel
theorem dL_law_598 : decode cL_law 598 = .ok (.invokevirtual 86, 3) := by decide +kernel
theorem dL_law_601 : decode cL_law 601 = .ok (.iload 5, 2) := by decide +kernel
theorem dL_law_603 : decode cL_law 603 = .ok (.if_icmp .eq 5, 3) := by decide +kernel
theorem dL_law_606 : decode cL_law 606 = .ok (.iconst 0, 1) := by decide +kernel
theorem dL_law_607 : decode cL_law 607 = .ok (.ireturn, 1) := by decide +kernel
theorem dL_law_608 : decode cL_law 608 = .ok (.iload 5, 2) := by decide +kernel
theorem dL_law_610 : decode cL_law 610 = .ok (.ifCond .ne 15, 3) := by decide +kernel
theorem dL_law_613 : decode cL_law 613 = .ok (.aload_n 3, 1) := by decide +kernel
theorem dL_law_614 : decode cL_law 614 = .ok (.iconst 0, 1) := by decide +kernel
theorem dL_law_615 : decode cL_law 615 = .ok (.laload, 1) := by decide +kernel
theorem dL_law_616 : decode cL_law 616 = .ok (.iload 6, 2) := by decide +kernel
theorem dL_law_618 : decode cL_law 618 = .ok (.i2l, 1) := by decide +kernel
theorem dL_law_619 : decode cL_law 619 = .ok (.lcmp, 1) := by decide +kernel
theorem dL_law_620 : decode cL_law 620 = .ok (.ifCond .eq 5, 3) := by decide +kernel
theorem dL_law_623 : decode cL_law 623 = .ok (.iconst 0, 1) := by decide +kernel
theorem dL_law_624 : decode cL_law 624 = .ok (.ireturn, 1) := by decide +kernel
theorem dL_law_625 : decode cL_law 625 = .ok (.goto 984, 3) := by decide +kernel
theorem dL_law_628 : decode cL_law 628 = .ok (.aload_n 1, 1) := by decide +kernel
theorem dL_law_629 : decode cL_law 629 = .ok (.aload_n 0, 1) := by decide +kernel
theorem dL_law_630 : decode cL_law 630 = .ok (.iload 4, 2) := by decide +kernel
theorem dL_law_632 : decode cL_law 632 = .ok (.iconst 1, 1) := by decide +kernel
theorem dL_law_633 : decode cL_law 633 = .ok (.iadd, 1) := by decide +kernel
theorem dL_law_634 : decode cL_law 634 = .ok (.iaload, 1) := by decide +kernel
theorem dL_law_635 : decode cL_law 635 = .ok (.aload_n 3, 1) := by decide +kernel
theorem dL_law_636 : decode cL_law 636 = .ok (.invokestatic 102, 3) := by decide +kernel
theorem dL_law_639 : decode cL_law 639 = .ok (.istore 5, 2) := by decide +kernel
theorem dL_law_641 : decode cL_law 641 = .ok (.aload_n 2, 1) := by decide +kernel
theorem dL_law_642 : decode cL_law 642 = .ok (.aload_n 0, 1) := by decide +kernel
theorem dL_law_643 : decode cL_law 643 = .ok (.iload 4, 2) := by decide +kernel
theorem dL_law_645 : decode cL_law 645 = .ok (.iconst 1, 1) := by decide +kernel
theorem dL_law_646 : decode cL_law 646 = .ok (.iadd, 1) := by decide +kernel
theorem dL_law_647 : decode cL_law 647 = .ok (.iaload, 1) := by decide +kernel
theorem dL_law_648 : decode cL_law 648 = .ok (.invokevirtual 105, 3) := by decide +kernel
theorem dL_law_651 : decode cL_law 651 = .ok (.istore 6, 2) := by decide +kernel
theorem dL_law_653 : decode cL_law 653 = .ok (.aload_n 2, 1) := by decide +kernel
theorem dL_law_654 : decode cL_law 654 = .ok (.invokevirtual 86, 3) := by decide +kernel
theorem dL_law_657 : decode cL_law 657 = .ok (.iload 5, 2) := by decide +kernel
theorem dL_law_659 : decode cL_law 659 = .ok (.if_icmp .eq 5, 3) := by decide +kernel
theorem dL_law_662 : decode cL_law 662 = .ok (.iconst 0, 1) := by decide +kernel
theorem dL_law_663 : decode cL_law 663 = .ok (.ireturn, 1) := by decide +kernel
theorem dL_law_664 : decode cL_law 664 = .ok (.iload 5, 2) := by decide +kernel
theorem dL_law_666 : decode cL_law 666 = .ok (.ifCond .ne 15, 3) := by decide +kernel
theorem dL_law_669 : decode cL_law 669 = .ok (.aload_n 3, 1) := by decide +kernel
theorem dL_law_670 : decode cL_law 670 = .ok (.iconst 0, 1) := by decide +kernel
theorem dL_law_671 : decode cL_law 671 = .ok (.laload, 1) := by decide +kernel
theorem dL_law_672 : decode cL_law 672 = .ok (.iload 6, 2) := by decide +kernel
theorem dL_law_674 : decode cL_law 674 = .ok (.i2l, 1) := by decide +kernel
theorem dL_law_675 : decode cL_law 675 = .ok (.lcmp, 1) := by decide +kernel
theorem dL_law_676 : decode cL_law 676 = .ok (.ifCond .eq 5, 3) := by decide +kernel
theorem dL_law_679 : decode cL_law 679 = .ok (.iconst 0, 1) := by decide +kernel
theorem dL_law_680 : decode cL_law 680 = .ok (.ireturn, 1) := by decide +kernel
theorem dL_law_681 : decode cL_law 681 = .ok (.goto 928, 3) := by decide +kernel
theorem dL_law_684 : decode cL_law 684 = .ok (.aload_n 1, 1) := by decide +kernel
theorem dL_law_685 : decode cL_law 685 = .ok (.aload_n 0, 1) := by decide +kernel
theorem dL_law_686 : decode cL_law 686 = .ok (.iload 4, 2) := by decide +kernel
theorem dL_law_688 : decode cL_law 688 = .ok (.iconst 1, 1) := by decide +kernel
theorem dL_law_689 : decode cL_law 689 = .ok (.iadd, 1) := by decide +kernel
theorem dL_law_690 : decode cL_law 690 = .ok (.iaload, 1) := by decide +kernel
theorem dL_law_691 : decode cL_law 691 = .ok (.aload_n 3, 1) := by decide +kernel
theorem dL_law_692 : decode cL_law 692 = .ok (.invokestatic 106, 3) := by decide +kernel
theorem dL_law_695 : decode cL_law 695 = .ok (.istore 5, 2) := by decide +kernel
theorem dL_law_697 : decode cL_law 697 = .ok (.aload_n 2, 1) := by decide +kernel
theorem dL_law_698 : decode cL_law 698 = .ok (.aload_n 0, 1) := by decide +kernel
theorem dL_law_699 : decode cL_law 699 = .ok (.iload 4, 2) := by decide +kernel
theorem dL_law_701 : decode cL_law 701 = .ok (.iconst 1, 1) := by decide +kernel
theorem dL_law_702 : decode cL_law 702 = .ok (.iadd, 1) := by decide +kernel
theorem dL_law_703 : decode cL_law 703 = .ok (.iaload, 1) := by decide +kernel
theorem dL_law_704 : decode cL_law 704 = .ok (.invokevirtual 108, 3) := by decide +kernel
theorem dL_law_707 : decode cL_law 707 = .ok (.istore 6, 2) := by decide +kernel
theorem dL_law_709 : decode cL_law 709 = .ok (.aload_n 2, 1) := by decide +kernel
theorem dL_law_710 : decode cL_law 710 = .ok (.invokevirtual 86, 3) := by decide +kernel
theorem dL_law_713 : decode cL_law 713 = .ok (.iload 5, 2) := by decide +kernel
theorem dL_law_715 : decode cL_law 715 = .ok (.if_icmp .eq 5, 3) := by decide +kernel
theorem dL_law_718 : decode cL_law 718 = .ok (.iconst 0, 1) := by decide +kernel
theorem dL_law_719 : decode cL_law 719 = .ok (.ireturn, 1) := by decide +kernel
theorem dL_law_720 : decode cL_law 720 = .ok (.iload 5, 2) := by decide +kernel
theorem dL_law_722 : decode cL_law 722 = .ok (.ifCond .ne 15, 3) := by decide +kernel
theorem dL_law_725 : decode cL_law 725 = .ok (.aload_n 3, 1) := by decide +kernel
theorem dL_law_726 : decode cL_law 726 = .ok (.iconst 0, 1) := by decide +kernel
theorem dL_law_727 : decode cL_law 727 = .ok (.laload, 1) := by decide +kernel
theorem dL_law_728 : decode cL_law 728 = .ok (.iload 6, 2) := by decide +kernel
theorem dL_law_730 : decode cL_law 730 = .ok (.i2l, 1) := by decide +kernel
theorem dL_law_731 : decode cL_law 731 = .ok (.lcmp, 1) := by decide +kernel
theorem dL_law_732 : decode cL_law 732 = .ok (.ifCond .eq 5, 3) := by decide +kernel
theorem dL_law_735 : decode cL_law 735 = .ok (.iconst 0, 1) := by decide +kernel
theorem dL_law_736 : decode cL_law 736 = .ok (.ireturn, 1) := by decide +kernel
theorem dL_law_737 : decode cL_law 737 = .ok (.goto 872, 3) := by decide +kernel
theorem dL_law_740 : decode cL_law 740 = .ok (.aload_n 1, 1) := by decide +kernel
theorem dL_law_741 : decode cL_law 741 = .ok (.invokevirtual 109, 3) := by decide +kernel
theorem dL_law_744 : decode cL_law 744 = .ok (.aload_n 2, 1) := by decide +kernel
theorem dL_law_745 : decode cL_law 745 = .ok (.invokevirtual 112, 3) := by decide +kernel
theorem dL_law_748 : decode cL_law 748 = .ok (.if_icmp .eq 861, 3) := by decide +kernel
theorem dL_law_751 : decode cL_law 751 = .ok (.iconst 0, 1) := by decide +kernel
theorem dL_law_752 : decode cL_law 752 = .ok (.ireturn, 1) := by decide +kernel
theorem dL_law_753 : decode cL_law 753 = .ok (.aload_n 1, 1) := by decide +kernel
theorem dL_law_754 : decode cL_law 754 = .ok (.invokevirtual 113, 3) := by decide +kernel
theorem dL_law_757 : decode cL_law 757 = .ok (.aload_n 2, 1) := by decide +kernel
theorem dL_law_758 : decode cL_law 758 = .ok (.invokevirtual 116, 3) := by decide +kernel
theorem dL_law_761 : decode cL_law 761 = .ok (.if_icmp .eq 848, 3) := by decide +kernel
theorem dL_law_764 : decode cL_law 764 = .ok (.iconst 0, 1) := by decide +kernel
theorem dL_law_765 : decode cL_law 765 = .ok (.ireturn, 1) := by decide +kernel
theorem dL_law_766 : decode cL_law 766 = .ok (.aload_n 1, 1) := by decide +kernel
theorem dL_law_767 : decode cL_law 767 = .ok (.aload_n 3, 1) := by decide +kernel
theorem dL_law_768 : decode cL_law 768 = .ok (.invokestatic 117, 3) := by decide +kernel
theorem dL_law_771 : decode cL_law 771 = .ok (.istore 5, 2) := by decide +kernel
theorem dL_law_773 : decode cL_law 773 = .ok (.aload_n 2, 1) := by decide +kernel
theorem dL_law_774 : decode cL_law 774 = .ok (.invokevirtual 120, 3) := by decide +kernel
theorem dL_law_777 : decode cL_law 777 = .ok (.istore 6, 2) := by decide +kernel
theorem dL_law_779 : decode cL_law 779 = .ok (.aload_n 2, 1) := by decide +kernel
theorem dL_law_780 : decode cL_law 780 = .ok (.invokevirtual 86, 3) := by decide +kernel
theorem dL_law_783 : decode cL_law 783 = .ok (.iload 5, 2) := by decide +kernel
theorem dL_law_785 : decode cL_law 785 = .ok (.if_icmp .eq 5, 3) := by decide +kernel
theorem dL_law_788 : decode cL_law 788 = .ok (.iconst 0, 1) := by decide +kernel
theorem dL_law_789 : decode cL_law 789 = .ok (.ireturn, 1) := by decide +kernel
theorem dL_law_790 : decode cL_law 790 = .ok (.iload 5, 2) := by decide +kernel
theorem dL_law_792 : decode cL_law 792 = .ok (.ifCond .ne 15, 3) := by decide +kernel
theorem dL_law_795 : decode cL_law 795 = .ok (.aload_n 3, 1) := by decide +kernel
theorem dL_law_796 : decode cL_law 796 = .ok (.iconst 0, 1) := by decide +kernel
theorem dL_law_797 : decode cL_law 797 = .ok (.laload, 1) := by decide +kernel
theorem dL_law_798 : decode cL_law 798 = .ok (.iload 6, 2) := by decide +kernel
theorem dL_law_800 : decode cL_law 800 = .ok (.i2l, 1) := by decide +kernel
theorem dL_law_801 : decode cL_law 801 = .ok (.lcmp, 1) := by decide +kernel
theorem dL_law_802 : decode cL_law 802 = .ok (.ifCond .eq 5, 3) := by decide +kernel
theorem dL_law_805 : decode cL_law 805 = .ok (.iconst 0, 1) := by decide +kernel
theorem dL_law_806 : decode cL_law 806 = .ok (.ireturn, 1) := by decide +kernel
theorem dL_law_807 : decode cL_law 807 = .ok (.goto 802, 3) := by decide +kernel
theorem dL_law_810 : decode cL_law 810 = .ok (.aload_n 1, 1) := by decide +kernel
theorem dL_law_811 : decode cL_law 811 = .ok (.aload_n 3, 1) := by decide +kernel
theorem dL_law_812 : decode cL_law 812 = .ok (.invokestatic 121, 3) := by decide +kernel
theorem dL_law_815 : decode cL_law 815 = .ok (.istore 5, 2) := by decide +kernel
theorem dL_law_817 : decode cL_law 817 = .ok (.aload_n 2, 1) := by decide +kernel
theorem dL_law_818 : decode cL_law 818 = .ok (.invokevirtual 123, 3) := by decide +kernel
theorem dL_law_821 : decode cL_law 821 = .ok (.istore 6, 2) := by decide +kernel
theorem dL_law_823 : decode cL_law 823 = .ok (.aload_n 2, 1) := by decide +kernel
theorem dL_law_824 : decode cL_law 824 = .ok (.invokevirtual 86, 3) := by decide +kernel
theorem dL_law_827 : decode cL_law 827 = .ok (.iload 5, 2) := by decide +kernel
theorem dL_law_829 : decode cL_law 829 = .ok (.if_icmp .eq 5, 3) := by decide +kernel
theorem dL_law_832 : decode cL_law 832 = .ok (.iconst 0, 1) := by decide +kernel
theorem dL_law_833 : decode cL_law 833 = .ok (.ireturn, 1) := by decide +kernel
theorem dL_law_834 : decode cL_law 834 = .ok (.iload 5, 2) := by decide +kernel
theorem dL_law_836 : decode cL_law 836 = .ok (.ifCond .ne 15, 3) := by decide +kernel
theorem dL_law_839 : decode cL_law 839 = .ok (.aload_n 3, 1) := by decide +kernel
theorem dL_law_840 : decode cL_law 840 = .ok (.iconst 0, 1) := by decide +kernel
theorem dL_law_841 : decode cL_law 841 = .ok (.laload, 1) := by decide +kernel
theorem dL_law_842 : decode cL_law 842 = .ok (.iload 6, 2) := by decide +kernel
theorem dL_law_844 : decode cL_law 844 = .ok (.i2l, 1) := by decide +kernel
theorem dL_law_845 : decode cL_law 845 = .ok (.lcmp, 1) := by decide +kernel
theorem dL_law_846 : decode cL_law 846 = .ok (.ifCond .eq 5, 3) := by decide +kernel
theorem dL_law_849 : decode cL_law 849 = .ok (.iconst 0, 1) := by decide +kernel
theorem dL_law_850 : decode cL_law 850 = .ok (.ireturn, 1) := by decide +kernel
theorem dL_law_851 : decode cL_law 851 = .ok (.goto 758, 3) := by decide +kernel
theorem dL_law_854 : decode cL_law 854 = .ok (.aload_n 1, 1) := by decide +kernel
theorem dL_law_855 : decode cL_law 855 = .ok (.aload_n 0, 1) := by decide +kernel
theorem dL_law_856 : decode cL_law 856 = .ok (.iload 4, 2) := by decide +kernel
theorem dL_law_858 : decode cL_law 858 = .ok (.iconst 1, 1) := by decide +kernel
theorem dL_law_859 : decode cL_law 859 = .ok (.iadd, 1) := by decide +kernel
theorem dL_law_860 : decode cL_law 860 = .ok (.iaload, 1) := by decide +kernel
theorem dL_law_861 : decode cL_law 861 = .ok (.aload_n 0, 1) := by decide +kernel
theorem dL_law_862 : decode cL_law 862 = .ok (.iload 4, 2) := by decide +kernel
theorem dL_law_864 : decode cL_law 864 = .ok (.iconst 2, 1) := by decide +kernel
theorem dL_law_865 : decode cL_law 865 = .ok (.iadd, 1) := by decide +kernel
theorem dL_law_866 : decode cL_law 866 = .ok (.iaload, 1) := by decide +kernel
theorem dL_law_867 : decode cL_law 867 = .ok (.aload_n 0, 1) := by decide +kernel
theorem dL_law_868 : decode cL_law 868 = .ok (.iload 4, 2) := by decide +kernel
theorem dL_law_870 : decode cL_law 870 = .ok (.iconst 3, 1) := by decide +kernel
theorem dL_law_871 : decode cL_law 871 = .ok (.iadd, 1) := by decide +kernel
theorem dL_law_872 : decode cL_law 872 = .ok (.iaload, 1) := by decide +kernel
theorem dL_law_873 : decode cL_law 873 = .ok (.aload_n 0, 1) := by decide +kernel
theorem dL_law_874 : decode cL_law 874 = .ok (.iload 4, 2) := by decide +kernel
theorem dL_law_876 : decode cL_law 876 = .ok (.iconst 4, 1) := by decide +kernel
theorem dL_law_877 : decode cL_law 877 = .ok (.iadd, 1) := by decide +kernel
theorem dL_law_878 : decode cL_law 878 = .ok (.iaload, 1) := by decide +kernel
theorem dL_law_879 : decode cL_law 879 = .ok (.aload_n 3, 1) := by decide +kernel
theorem dL_law_880 : decode cL_law 880 = .ok (.invokestatic 124, 3) := by decide +kernel
theorem dL_law_883 : decode cL_law 883 = .ok (.istore 5, 2) := by decide +kernel
theorem dL_law_885 : decode cL_law 885 = .ok (.aload_n 2, 1) := by decide +kernel
theorem dL_law_886 : decode cL_law 886 = .ok (.aload_n 0, 1) := by decide +kernel
theorem dL_law_887 : decode cL_law 887 = .ok (.iload 4, 2) := by decide +kernel
theorem dL_law_889 : decode cL_law 889 = .ok (.iconst 1, 1) := by decide +kernel
theorem dL_law_890 : decode cL_law 890 = .ok (.iadd, 1) := by decide +kernel
theorem dL_law_891 : decode cL_law 891 = .ok (.iaload, 1) := by decide +kernel
theorem dL_law_892 : decode cL_law 892 = .ok (.aload_n 0, 1) := by decide +kernel
theorem dL_law_893 : decode cL_law 893 = .ok (.iload 4, 2) := by decide +kernel
theorem dL_law_895 : decode cL_law 895 = .ok (.iconst 2, 1) := by decide +kernel
theorem dL_law_896 : decode cL_law 896 = .ok (.iadd, 1) := by decide +kernel
theorem dL_law_897 : decode cL_law 897 = .ok (.iaload, 1) := by decide +kernel
theorem dL_law_898 : decode cL_law 898 = .ok (.aload_n 0, 1) := by decide +kernel
theorem dL_law_899 : decode cL_law 899 = .ok (.iload 4, 2) := by decide +kernel
theorem dL_law_901 : decode cL_law 901 = .ok (.iconst 3, 1) := by decide +kernel
theorem dL_law_902 : decode cL_law 902 = .ok (.iadd, 1) := by decide +kernel
theorem dL_law_903 : decode cL_law 903 = .ok (.iaload, 1) := by decide +kernel
theorem dL_law_904 : decode cL_law 904 = .ok (.aload_n 0, 1) := by decide +kernel
theorem dL_law_905 : decode cL_law 905 = .ok (.iload 4, 2) := by decide +kernel
theorem dL_law_907 : decode cL_law 907 = .ok (.iconst 4, 1) := by decide +kernel
theorem dL_law_908 : decode cL_law 908 = .ok (.iadd, 1) := by decide +kernel
theorem dL_law_909 : decode cL_law 909 = .ok (.iaload, 1) := by decide +kernel
theorem dL_law_910 : decode cL_law 910 = .ok (.invokevirtual 127, 3) := by decide +kernel
theorem dL_law_913 : decode cL_law 913 = .ok (.istore 6, 2) := by decide +kernel
theorem dL_law_915 : decode cL_law 915 = .ok (.aload_n 2, 1) := by decide +kernel
theorem dL_law_916 : decode cL_law 916 = .ok (.invokevirtual 86, 3) := by decide +kernel
theorem dL_law_919 : decode cL_law 919 = .ok (.iload 5, 2) := by decide +kernel
theorem dL_law_921 : decode cL_law 921 = .ok (.if_icmp .eq 5, 3) := by decide +kernel
theorem dL_law_924 : decode cL_law 924 = .ok (.iconst 0, 1) := by decide +kernel
theorem dL_law_925 : decode cL_law 925 = .ok (.ireturn, 1) := by decide +kernel
theorem dL_law_926 : decode cL_law 926 = .ok (.iload 5, 2) := by decide +kernel
theorem dL_law_928 : decode cL_law 928 = .ok (.ifCond .ne 15, 3) := by decide +kernel
theorem dL_law_931 : decode cL_law 931 = .ok (.aload_n 3, 1) := by decide +kernel
theorem dL_law_932 : decode cL_law 932 = .ok (.iconst 0, 1) := by decide +kernel
theorem dL_law_933 : decode cL_law 933 = .ok (.laload, 1) := by decide +kernel
theorem dL_law_934 : decode cL_law 934 = .ok (.iload 6, 2) := by decide +kernel
theorem dL_law_936 : decode cL_law 936 = .ok (.i2l, 1) := by decide +kernel
theorem dL_law_937 : decode cL_law 937 = .ok (.lcmp, 1) := by decide +kernel
theorem dL_law_938 : decode cL_law 938 = .ok (.ifCond .eq 5, 3) := by decide +kernel
theorem dL_law_941 : decode cL_law 941 = .ok (.iconst 0, 1) := by decide +kernel
theorem dL_law_942 : decode cL_law 942 = .ok (.ireturn, 1) := by decide +kernel
theorem dL_law_943 : decode cL_law 943 = .ok (.goto 666, 3) := by decide +kernel
theorem dL_law_946 : decode cL_law 946 = .ok (.aload_n 1, 1) := by decide +kernel
theorem dL_law_947 : decode cL_law 947 = .ok (.aload_n 0, 1) := by decide +kernel
theorem dL_law_948 : decode cL_law 948 = .ok (.iload 4, 2) := by decide +kernel
theorem dL_law_950 : decode cL_law 950 = .ok (.iconst 1, 1) := by decide +kernel
theorem dL_law_951 : decode cL_law 951 = .ok (.iadd, 1) := by decide +kernel
theorem dL_law_952 : decode cL_law 952 = .ok (.iaload, 1) := by decide +kernel
theorem dL_law_953 : decode cL_law 953 = .ok (.aload_n 0, 1) := by decide +kernel
theorem dL_law_954 : decode cL_law 954 = .ok (.iload 4, 2) := by decide +kernel
theorem dL_law_956 : decode cL_law 956 = .ok (.iconst 2, 1) := by decide +kernel
theorem dL_law_957 : decode cL_law 957 = .ok (.iadd, 1) := by decide +kernel
theorem dL_law_958 : decode cL_law 958 = .ok (.iaload, 1) := by decide +kernel
theorem dL_law_959 : decode cL_law 959 = .ok (.aload_n 0, 1) := by decide +kernel
theorem dL_law_960 : decode cL_law 960 = .ok (.iload 4, 2) := by decide +kernel
theorem dL_law_962 : decode cL_law 962 = .ok (.iconst 3, 1) := by decide +kernel
theorem dL_law_963 : decode cL_law 963 = .ok (.iadd, 1) := by decide +kernel
theorem dL_law_964 : decode cL_law 964 = .ok (.iaload, 1) := by decide +kernel
theorem dL_law_965 : decode cL_law 965 = .ok (.aload_n 0, 1) := by decide +kernel
theorem dL_law_966 : decode cL_law 966 = .ok (.iload 4, 2) := by decide +kernel
theorem dL_law_968 : decode cL_law 968 = .ok (.iconst 4, 1) := by decide +kernel
theorem dL_law_969 : decode cL_law 969 = .ok (.iadd, 1) := by decide +kernel
theorem dL_law_970 : decode cL_law 970 = .ok (.iaload, 1) := by decide +kernel
theorem dL_law_971 : decode cL_law 971 = .ok (.aload_n 3, 1) := by decide +kernel
theorem dL_law_972 : decode cL_law 972 = .ok (.invokestatic 128, 3) := by decide +kernel
theorem dL_law_975 : decode cL_law 975 = .ok (.istore 5, 2) := by decide +kernel
theorem dL_law_977 : decode cL_law 977 = .ok (.aload_n 2, 1) := by decide +kernel
theorem dL_law_978 : decode cL_law 978 = .ok (.aload_n 0, 1) := by decide +kernel
theorem dL_law_979 : decode cL_law 979 = .ok (.iload 4, 2) := by decide +kernel
theorem dL_law_981 : decode cL_law 981 = .ok (.iconst 1, 1) := by decide +kernel
theorem dL_law_982 : decode cL_law 982 = .ok (.iadd, 1) := by decide +kernel
theorem dL_law_983 : decode cL_law 983 = .ok (.iaload, 1) := by decide +kernel
theorem dL_law_984 : decode cL_law 984 = .ok (.aload_n 0, 1) := by decide +kernel
theorem dL_law_985 : decode cL_law 985 = .ok (.iload 4, 2) := by decide +kernel
theorem dL_law_987 : decode cL_law 987 = .ok (.iconst 2, 1) := by decide +kernel
theorem dL_law_988 : decode cL_law 988 = .ok (.iadd, 1) := by decide +kernel
theorem dL_law_989 : decode cL_law 989 = .ok (.iaload, 1) := by decide +kernel
theorem dL_law_990 : decode cL_law 990 = .ok (.aload_n 0, 1) := by decide +kernel
theorem dL_law_991 : decode cL_law 991 = .ok (.iload 4, 2) := by decide +kernel
theorem dL_law_993 : decode cL_law 993 = .ok (.iconst 3, 1) := by decide +kernel
theorem dL_law_994 : decode cL_law 994 = .ok (.iadd, 1) := by decide +kernel
theorem dL_law_995 : decode cL_law 995 = .ok (.iaload, 1) := by decide +kernel
theorem dL_law_996 : decode cL_law 996 = .ok (.aload_n 0, 1) := by decide +kernel
theorem dL_law_997 : decode cL_law 997 = .ok (.iload 4, 2) := by decide +kernel
theorem dL_law_999 : decode cL_law 999 = .ok (.iconst 4, 1) := by decide +kernel
theorem dL_law_1000 : decode cL_law 1000 = .ok (.iadd, 1) := by decide +kernel
theorem dL_law_1001 : decode cL_law 1001 = .ok (.iaload, 1) := by decide +kernel
theorem dL_law_1002 : decode cL_law 1002 = .ok (.invokevirtual 130, 3) := by decide +kernel
theorem dL_law_1005 : decode cL_law 1005 = .ok (.istore 6, 2) := by decide +kernel
theorem dL_law_1007 : decode cL_law 1007 = .ok (.aload_n 2, 1) := by decide +kernel
theorem dL_law_1008 : decode cL_law 1008 = .ok (.invokevirtual 86, 3) := by decide +kernel
theorem dL_law_1011 : decode cL_law 1011 = .ok (.iload 5, 2) := by decide +kernel
theorem dL_law_1013 : decode cL_law 1013 = .ok (.if_icmp .eq 5, 3) := by decide +kernel
theorem dL_law_1016 : decode cL_law 1016 = .ok (.iconst 0, 1) := by decide +kernel
theorem dL_law_1017 : decode cL_law 1017 = .ok (.ireturn, 1) := by decide +kernel
theorem dL_law_1018 : decode cL_law 1018 = .ok (.iload 5, 2) := by decide +kernel
theorem dL_law_1020 : decode cL_law 1020 = .ok (.ifCond .ne 15, 3) := by decide +kernel
theorem dL_law_1023 : decode cL_law 1023 = .ok (.aload_n 3, 1) := by decide +kernel
theorem dL_law_1024 : decode cL_law 1024 = .ok (.iconst 0, 1) := by decide +kernel
theorem dL_law_1025 : decode cL_law 1025 = .ok (.laload, 1) := by decide +kernel
theorem dL_law_1026 : decode cL_law 1026 = .ok (.iload 6, 2) := by decide +kernel
theorem dL_law_1028 : decode cL_law 1028 = .ok (.i2l, 1) := by decide +kernel
theorem dL_law_1029 : decode cL_law 1029 = .ok (.lcmp, 1) := by decide +kernel
theorem dL_law_1030 : decode cL_law 1030 = .ok (.ifCond .eq 5, 3) := by decide +kernel
theorem dL_law_1033 : decode cL_law 1033 = .ok (.iconst 0, 1) := by decide +kernel
theorem dL_law_1034 : decode cL_law 1034 = .ok (.ireturn, 1) := by decide +kernel
theorem dL_law_1035 : decode cL_law 1035 = .ok (.goto 574, 3) := by decide +kernel
theorem dL_law_1038 : decode cL_law 1038 = .ok (.aload_n 1, 1) := by decide +kernel
theorem dL_law_1039 : decode cL_law 1039 = .ok (.aload_n 0, 1) := by decide +kernel
theorem dL_law_1040 : decode cL_law 1040 = .ok (.iload 4, 2) := by decide +kernel
theorem dL_law_1042 : decode cL_law 1042 = .ok (.iconst 1, 1) := by decide +kernel
theorem dL_law_1043 : decode cL_law 1043 = .ok (.iadd, 1) := by decide +kernel
theorem dL_law_1044 : decode cL_law 1044 = .ok (.iaload, 1) := by decide +kernel
theorem dL_law_1045 : decode cL_law 1045 = .ok (.aload_n 0, 1) := by decide +kernel
theorem dL_law_1046 : decode cL_law 1046 = .ok (.iload 4, 2) := by decide +kernel
theorem dL_law_1048 : decode cL_law 1048 = .ok (.iconst 2, 1) := by decide +kernel
theorem dL_law_1049 : decode cL_law 1049 = .ok (.iadd, 1) := by decide +kernel
theorem dL_law_1050 : decode cL_law 1050 = .ok (.iaload, 1) := by decide +kernel
theorem dL_law_1051 : decode cL_law 1051 = .ok (.aload_n 3, 1) := by decide +kernel
theorem dL_law_1052 : decode cL_law 1052 = .ok (.invokestatic 131, 3) := by decide +kernel
theorem dL_law_1055 : decode cL_law 1055 = .ok (.istore 5, 2) := by decide +kernel
theorem dL_law_1057 : decode cL_law 1057 = .ok (.aload_n 2, 1) := by decide +kernel
theorem dL_law_1058 : decode cL_law 1058 = .ok (.aload_n 0, 1) := by decide +kernel
theorem dL_law_1059 : decode cL_law 1059 = .ok (.iload 4, 2) := by decide +kernel
theorem dL_law_1061 : decode cL_law 1061 = .ok (.iconst 1, 1) := by decide +kernel
theorem dL_law_1062 : decode cL_law 1062 = .ok (.iadd, 1) := by decide +kernel
theorem dL_law_1063 : decode cL_law 1063 = .ok (.iaload, 1) := by decide +kernel
theorem dL_law_1064 : decode cL_law 1064 = .ok (.aload_n 0, 1) := by decide +kernel
theorem dL_law_1065 : decode cL_law 1065 = .ok (.iload 4, 2) := by decide +kernel
theorem dL_law_1067 : decode cL_law 1067 = .ok (.iconst 2, 1) := by decide +kernel
theorem dL_law_1068 : decode cL_law 1068 = .ok (.iadd, 1) := by decide +kernel
theorem dL_law_1069 : decode cL_law 1069 = .ok (.iaload, 1) := by decide +kernel
theorem dL_law_1070 : decode cL_law 1070 = .ok (.invokevirtual 133, 3) := by decide +kernel
theorem dL_law_1073 : decode cL_law 1073 = .ok (.istore 6, 2) := by decide +kernel
theorem dL_law_1075 : decode cL_law 1075 = .ok (.aload_n 2, 1) := by decide +kernel
theorem dL_law_1076 : decode cL_law 1076 = .ok (.invokevirtual 86, 3) := by decide +kernel
theorem dL_law_1079 : decode cL_law 1079 = .ok (.iload 5, 2) := by decide +kernel
theorem dL_law_1081 : decode cL_law 1081 = .ok (.if_icmp .eq 5, 3) := by decide +kernel
theorem dL_law_1084 : decode cL_law 1084 = .ok (.iconst 0, 1) := by decide +kernel
theorem dL_law_1085 : decode cL_law 1085 = .ok (.ireturn, 1) := by decide +kernel
theorem dL_law_1086 : decode cL_law 1086 = .ok (.iload 5, 2) := by decide +kernel
theorem dL_law_1088 : decode cL_law 1088 = .ok (.ifCond .ne 15, 3) := by decide +kernel
theorem dL_law_1091 : decode cL_law 1091 = .ok (.aload_n 3, 1) := by decide +kernel
theorem dL_law_1092 : decode cL_law 1092 = .ok (.iconst 0, 1) := by decide +kernel
theorem dL_law_1093 : decode cL_law 1093 = .ok (.laload, 1) := by decide +kernel
theorem dL_law_1094 : decode cL_law 1094 = .ok (.iload 6, 2) := by decide +kernel
theorem dL_law_1096 : decode cL_law 1096 = .ok (.i2l, 1) := by decide +kernel
theorem dL_law_1097 : decode cL_law 1097 = .ok (.lcmp, 1) := by decide +kernel
theorem dL_law_1098 : decode cL_law 1098 = .ok (.ifCond .eq 5, 3) := by decide +kernel
theorem dL_law_1101 : decode cL_law 1101 = .ok (.iconst 0, 1) := by decide +kernel
theorem dL_law_1102 : decode cL_law 1102 = .ok (.ireturn, 1) := by decide +kernel
theorem dL_law_1103 : decode cL_law 1103 = .ok (.goto 506, 3) := by decide +kernel
theorem dL_law_1106 : decode cL_law 1106 = .ok (.aload_n 1, 1) := by decide +kernel
theorem dL_law_1107 : decode cL_law 1107 = .ok (.aload_n 0, 1) := by decide +kernel
theorem dL_law_1108 : decode cL_law 1108 = .ok (.iload 4, 2) := by decide +kernel
theorem dL_law_1110 : decode cL_law 1110 = .ok (.iconst 1, 1) := by decide +kernel
theorem dL_law_1111 : decode cL_law 1111 = .ok (.iadd, 1) := by decide +kernel
theorem dL_law_1112 : decode cL_law 1112 = .ok (.iaload, 1) := by decide +kernel
theorem dL_law_1113 : decode cL_law 1113 = .ok (.aload_n 0, 1) := by decide +kernel
theorem dL_law_1114 : decode cL_law 1114 = .ok (.iload 4, 2) := by decide +kernel
theorem dL_law_1116 : decode cL_law 1116 = .ok (.iconst 2, 1) := by decide +kernel
theorem dL_law_1117 : decode cL_law 1117 = .ok (.iadd, 1) := by decide +kernel
theorem dL_law_1118 : decode cL_law 1118 = .ok (.iaload, 1) := by decide +kernel
theorem dL_law_1119 : decode cL_law 1119 = .ok (.ifCond .eq 7, 3) := by decide +kernel
theorem dL_law_1122 : decode cL_law 1122 = .ok (.iconst 1, 1) := by decide +kernel
theorem dL_law_1123 : decode cL_law 1123 = .ok (.goto 4, 3) := by decide +kernel
theorem dL_law_1126 : decode cL_law 1126 = .ok (.iconst 0, 1) := by decide +kernel
theorem dL_law_1127 : decode cL_law 1127 = .ok (.aload_n 0, 1) := by decide +kernel
theorem dL_law_1128 : decode cL_law 1128 = .ok (.iload 4, 2) := by decide +kernel
theorem dL_law_1130 : decode cL_law 1130 = .ok (.iconst 3, 1) := by decide +kernel
theorem dL_law_1131 : decode cL_law 1131 = .ok (.iadd, 1) := by decide +kernel
theorem dL_law_1132 : decode cL_law 1132 = .ok (.iaload, 1) := by decide +kernel
theorem dL_law_1133 : decode cL_law 1133 = .ok (.aload_n 3, 1) := by decide +kernel
theorem dL_law_1134 : decode cL_law 1134 = .ok (.invokestatic 134, 3) := by decide +kernel
theorem dL_law_1137 : decode cL_law 1137 = .ok (.istore 5, 2) := by decide +kernel
theorem dL_law_1139 : decode cL_law 1139 = .ok (.aload_n 2, 1) := by decide +kernel
theorem dL_law_1140 : decode cL_law 1140 = .ok (.aload_n 0, 1) := by decide +kernel
theorem dL_law_1141 : decode cL_law 1141 = .ok (.iload 4, 2) := by decide +kernel
theorem dL_law_1143 : decode cL_law 1143 = .ok (.iconst 1, 1) := by decide +kernel
theorem dL_law_1144 : decode cL_law 1144 = .ok (.iadd, 1) := by decide +kernel
theorem dL_law_1145 : decode cL_law 1145 = .ok (.iaload, 1) := by decide +kernel
theorem dL_law_1146 : decode cL_law 1146 = .ok (.aload_n 0, 1) := by decide +kernel
theorem dL_law_1147 : decode cL_law 1147 = .ok (.iload 4, 2) := by decide +kernel
theorem dL_law_1149 : decode cL_law 1149 = .ok (.iconst 2, 1) := by decide +kernel
theorem dL_law_1150 : decode cL_law 1150 = .ok (.iadd, 1) := by decide +kernel
theorem dL_law_1151 : decode cL_law 1151 = .ok (.iaload, 1) := by decide +kernel
theorem dL_law_1152 : decode cL_law 1152 = .ok (.ifCond .eq 7, 3) := by decide +kernel
theorem dL_law_1155 : decode cL_law 1155 = .ok (.iconst 1, 1) := by decide +kernel
theorem dL_law_1156 : decode cL_law 1156 = .ok (.goto 4, 3) := by decide +kernel
theorem dL_law_1159 : decode cL_law 1159 = .ok (.iconst 0, 1) := by decide +kernel
theorem dL_law_1160 : decode cL_law 1160 = .ok (.aload_n 0, 1) := by decide +kernel
theorem dL_law_1161 : decode cL_law 1161 = .ok (.iload 4, 2) := by decide +kernel
theorem dL_law_1163 : decode cL_law 1163 = .ok (.iconst 3, 1) := by decide +kernel
theorem dL_law_1164 : decode cL_law 1164 = .ok (.iadd, 1) := by decide +kernel
theorem dL_law_1165 : decode cL_law 1165 = .ok (.iaload, 1) := by decide +kernel
theorem dL_law_1166 : decode cL_law 1166 = .ok (.invokevirtual 137, 3) := by decide +kernel
theorem dL_law_1169 : decode cL_law 1169 = .ok (.istore 6, 2) := by decide +kernel
theorem dL_law_1171 : decode cL_law 1171 = .ok (.aload_n 2, 1) := by decide +kernel
theorem dL_law_1172 : decode cL_law 1172 = .ok (.invokevirtual 86, 3) := by decide +kernel
theorem dL_law_1175 : decode cL_law 1175 = .ok (.iload 5, 2) := by decide +kernel
theorem dL_law_1177 : decode cL_law 1177 = .ok (.if_icmp .eq 5, 3) := by decide +kernel
theorem dL_law_1180 : decode cL_law 1180 = .ok (.iconst 0, 1) := by decide +kernel
theorem dL_law_1181 : decode cL_law 1181 = .ok (.ireturn, 1) := by decide +kernel
theorem dL_law_1182 : decode cL_law 1182 = .ok (.iload 5, 2) := by decide +kernel
theorem dL_law_1184 : decode cL_law 1184 = .ok (.ifCond .ne 15, 3) := by decide +kernel
theorem dL_law_1187 : decode cL_law 1187 = .ok (.aload_n 3, 1) := by decide +kernel
theorem dL_law_1188 : decode cL_law 1188 = .ok (.iconst 0, 1) := by decide +kernel
theorem dL_law_1189 : decode cL_law 1189 = .ok (.laload, 1) := by decide +kernel
theorem dL_law_1190 : decode cL_law 1190 = .ok (.iload 6, 2) := by decide +kernel
theorem dL_law_1192 : decode cL_law 1192 = .ok (.i2l, 1) := by decide +kernel
theorem dL_law_1193 : decode cL_law 1193 = .ok (.lcmp, 1) := by decide +kernel
theorem dL_law_1194 : decode cL_law 1194 = .ok (.ifCond .eq 5, 3) := by decide +kernel
theorem dL_law_1197 : decode cL_law 1197 = .ok (.iconst 0, 1) := by decide +kernel
theorem dL_law_1198 : decode cL_law 1198 = .ok (.ireturn, 1) := by decide +kernel
theorem dL_law_1199 : decode cL_law 1199 = .ok (.goto 410, 3) := by decide +kernel
theorem dL_law_1202 : decode cL_law 1202 = .ok (.aload_n 1, 1) := by decide +kernel
theorem dL_law_1203 : decode cL_law 1203 = .ok (.aload_n 0, 1) := by decide +kernel
theorem dL_law_1204 : decode cL_law 1204 = .ok (.iload 4, 2) := by decide +kernel
theorem dL_law_1206 : decode cL_law 1206 = .ok (.iconst 1, 1) := by decide +kernel
theorem dL_law_1207 : decode cL_law 1207 = .ok (.iadd, 1) := by decide +kernel
theorem dL_law_1208 : decode cL_law 1208 = .ok (.iaload, 1) := by decide +kernel
theorem dL_law_1209 : decode cL_law 1209 = .ok (.aload_n 3, 1) := by decide +kernel
theorem dL_law_1210 : decode cL_law 1210 = .ok (.invokestatic 138, 3) := by decide +kernel
theorem dL_law_1213 : decode cL_law 1213 = .ok (.istore 5, 2) := by decide +kernel
theorem dL_law_1215 : decode cL_law 1215 = .ok (.aload_n 2, 1) := by decide +kernel
theorem dL_law_1216 : decode cL_law 1216 = .ok (.aload_n 0, 1) := by decide +kernel
theorem dL_law_1217 : decode cL_law 1217 = .ok (.iload 4, 2) := by decide +kernel
theorem dL_law_1219 : decode cL_law 1219 = .ok (.iconst 1, 1) := by decide +kernel
theorem dL_law_1220 : decode cL_law 1220 = .ok (.iadd, 1) := by decide +kernel
theorem dL_law_1221 : decode cL_law 1221 = .ok (.iaload, 1) := by decide +kernel
theorem dL_law_1222 : decode cL_law 1222 = .ok (.invokevirtual 140, 3) := by decide +kernel
theorem dL_law_1225 : decode cL_law 1225 = .ok (.istore 6, 2) := by decide +kernel
theorem dL_law_1227 : decode cL_law 1227 = .ok (.aload_n 2, 1) := by decide +kernel
theorem dL_law_1228 : decode cL_law 1228 = .ok (.invokevirtual 86, 3) := by decide +kernel
theorem dL_law_1231 : decode cL_law 1231 = .ok (.iload 5, 2) := by decide +kernel
theorem dL_law_1233 : decode cL_law 1233 = .ok (.if_icmp .eq 5, 3) := by decide +kernel
theorem dL_law_1236 : decode cL_law 1236 = .ok (.iconst 0, 1) := by decide +kernel
theorem dL_law_1237 : decode cL_law 1237 = .ok (.ireturn, 1) := by decide +kernel
theorem dL_law_1238 : decode cL_law 1238 = .ok (.iload 5, 2) := by decide +kernel
theorem dL_law_1240 : decode cL_law 1240 = .ok (.ifCond .ne 15, 3) := by decide +kernel
theorem dL_law_1243 : decode cL_law 1243 = .ok (.aload_n 3, 1) := by decide +kernel
theorem dL_law_1244 : decode cL_law 1244 = .ok (.iconst 0, 1) := by decide +kernel
theorem dL_law_1245 : decode cL_law 1245 = .ok (.laload, 1) := by decide +kernel
theorem dL_law_1246 : decode cL_law 1246 = .ok (.iload 6, 2) := by decide +kernel
theorem dL_law_1248 : decode cL_law 1248 = .ok (.i2l, 1) := by decide +kernel
theorem dL_law_1249 : decode cL_law 1249 = .ok (.lcmp, 1) := by decide +kernel
theorem dL_law_1250 : decode cL_law 1250 = .ok (.ifCond .eq 5, 3) := by decide +kernel
theorem dL_law_1253 : decode cL_law 1253 = .ok (.iconst 0, 1) := by decide +kernel
theorem dL_law_1254 : decode cL_law 1254 = .ok (.ireturn, 1) := by decide +kernel
theorem dL_law_1255 : decode cL_law 1255 = .ok (.goto 354, 3) := by decide +kernel
theorem dL_law_1258 : decode cL_law 1258 = .ok (.aload_n 1, 1) := by decide +kernel
theorem dL_law_1259 : decode cL_law 1259 = .ok (.aload_n 0, 1) := by decide +kernel
theorem dL_law_1260 : decode cL_law 1260 = .ok (.iload 4, 2) := by decide +kernel
theorem dL_law_1262 : decode cL_law 1262 = .ok (.iconst 1, 1) := by decide +kernel
theorem dL_law_1263 : decode cL_law 1263 = .ok (.iadd, 1) := by decide +kernel
theorem dL_law_1264 : decode cL_law 1264 = .ok (.iaload, 1) := by decide +kernel
theorem dL_law_1265 : decode cL_law 1265 = .ok (.aload_n 3, 1) := by decide +kernel
theorem dL_law_1266 : decode cL_law 1266 = .ok (.invokestatic 141, 3) := by decide +kernel
theorem dL_law_1269 : decode cL_law 1269 = .ok (.istore 5, 2) := by decide +kernel
theorem dL_law_1271 : decode cL_law 1271 = .ok (.aload_n 2, 1) := by decide +kernel
theorem dL_law_1272 : decode cL_law 1272 = .ok (.aload_n 0, 1) := by decide +kernel
theorem dL_law_1273 : decode cL_law 1273 = .ok (.iload 4, 2) := by decide +kernel
theorem dL_law_1275 : decode cL_law 1275 = .ok (.iconst 1, 1) := by decide +kernel
theorem dL_law_1276 : decode cL_law 1276 = .ok (.iadd, 1) := by decide +kernel
theorem dL_law_1277 : decode cL_law 1277 = .ok (.iaload, 1) := by decide +kernel
theorem dL_law_1278 : decode cL_law 1278 = .ok (.invokevirtual 143, 3) := by decide +kernel
theorem dL_law_1281 : decode cL_law 1281 = .ok (.istore 6, 2) := by decide +kernel
theorem dL_law_1283 : decode cL_law 1283 = .ok (.aload_n 2, 1) := by decide +kernel
theorem dL_law_1284 : decode cL_law 1284 = .ok (.invokevirtual 86, 3) := by decide +kernel
theorem dL_law_1287 : decode cL_law 1287 = .ok (.iload 5, 2) := by decide +kernel
theorem dL_law_1289 : decode cL_law 1289 = .ok (.if_icmp .eq 5, 3) := by decide +kernel
theorem dL_law_1292 : decode cL_law 1292 = .ok (.iconst 0, 1) := by decide +kernel
theorem dL_law_1293 : decode cL_law 1293 = .ok (.ireturn, 1) := by decide +kernel
theorem dL_law_1294 : decode cL_law 1294 = .ok (.iload 5, 2) := by decide +kernel
theorem dL_law_1296 : decode cL_law 1296 = .ok (.ifCond .ne 15, 3) := by decide +kernel
theorem dL_law_1299 : decode cL_law 1299 = .ok (.aload_n 3, 1) := by decide +kernel
theorem dL_law_1300 : decode cL_law 1300 = .ok (.iconst 0, 1) := by decide +kernel
theorem dL_law_1301 : decode cL_law 1301 = .ok (.laload, 1) := by decide +kernel
theorem dL_law_1302 : decode cL_law 1302 = .ok (.iload 6, 2) := by decide +kernel
theorem dL_law_1304 : decode cL_law 1304 = .ok (.i2l, 1) := by decide +kernel
theorem dL_law_1305 : decode cL_law 1305 = .ok (.lcmp, 1) := by decide +kernel
theorem dL_law_1306 : decode cL_law 1306 = .ok (.ifCond .eq 5, 3) := by decide +kernel
theorem dL_law_1309 : decode cL_law 1309 = .ok (.iconst 0, 1) := by decide +kernel
theorem dL_law_1310 : decode cL_law 1310 = .ok (.ireturn, 1) := by decide +kernel
theorem dL_law_1311 : decode cL_law 1311 = .ok (.goto 298, 3) := by decide +kernel
theorem dL_law_1314 : decode cL_law 1314 = .ok (.aload_n 1, 1) := by decide +kernel
theorem dL_law_1315 : decode cL_law 1315 = .ok (.aload_n 0, 1) := by decide +kernel
theorem dL_law_1316 : decode cL_law 1316 = .ok (.iload 4, 2) := by decide +kernel
theorem dL_law_1318 : decode cL_law 1318 = .ok (.iconst 1, 1) := by decide +kernel
theorem dL_law_1319 : decode cL_law 1319 = .ok (.iadd, 1) := by decide +kernel
theorem dL_law_1320 : decode cL_law 1320 = .ok (.iaload, 1) := by decide +kernel
theorem dL_law_1321 : decode cL_law 1321 = .ok (.aload_n 0, 1) := by decide +kernel
theorem dL_law_1322 : decode cL_law 1322 = .ok (.iload 4, 2) := by decide +kernel
theorem dL_law_1324 : decode cL_law 1324 = .ok (.iconst 2, 1) := by decide +kernel
theorem dL_law_1325 : decode cL_law 1325 = .ok (.iadd, 1) := by decide +kernel
theorem dL_law_1326 : decode cL_law 1326 = .ok (.iaload, 1) := by decide +kernel
theorem dL_law_1327 : decode cL_law 1327 = .ok (.aload_n 0, 1) := by decide +kernel
theorem dL_law_1328 : decode cL_law 1328 = .ok (.iload 4, 2) := by decide +kernel
theorem dL_law_1330 : decode cL_law 1330 = .ok (.iconst 3, 1) := by decide +kernel
theorem dL_law_1331 : decode cL_law 1331 = .ok (.iadd, 1) := by decide +kernel
theorem dL_law_1332 : decode cL_law 1332 = .ok (.iaload, 1) := by decide +kernel
theorem dL_law_1333 : decode cL_law 1333 = .ok (.aload_n 0, 1) := by decide +kernel
theorem dL_law_1334 : decode cL_law 1334 = .ok (.iload 4, 2) := by decide +kernel
theorem dL_law_1336 : decode cL_law 1336 = .ok (.iconst 4, 1) := by decide +kernel
theorem dL_law_1337 : decode cL_law 1337 = .ok (.iadd, 1) := by decide +kernel
theorem dL_law_1338 : decode cL_law 1338 = .ok (.iaload, 1) := by decide +kernel
theorem dL_law_1339 : decode cL_law 1339 = .ok (.aload_n 0, 1) := by decide +kernel
theorem dL_law_1340 : decode cL_law 1340 = .ok (.iload 4, 2) := by decide +kernel
theorem dL_law_1342 : decode cL_law 1342 = .ok (.iconst 5, 1) := by decide +kernel
theorem dL_law_1343 : decode cL_law 1343 = .ok (.iadd, 1) := by decide +kernel
theorem dL_law_1344 : decode cL_law 1344 = .ok (.iaload, 1) := by decide +kernel
theorem dL_law_1345 : decode cL_law 1345 = .ok (.aload_n 3, 1) := by decide +kernel
theorem dL_law_1346 : decode cL_law 1346 = .ok (.invokestatic 144, 3) := by decide +kernel
theorem dL_law_1349 : decode cL_law 1349 = .ok (.istore 5, 2) := by decide +kernel
theorem dL_law_1351 : decode cL_law 1351 = .ok (.aload_n 2, 1) := by decide +kernel
theorem dL_law_1352 : decode cL_law 1352 = .ok (.aload_n 0, 1) := by decide +kernel
theorem dL_law_1353 : decode cL_law 1353 = .ok (.iload 4, 2) := by decide +kernel
theorem dL_law_1355 : decode cL_law 1355 = .ok (.iconst 1, 1) := by decide +kernel
theorem dL_law_1356 : decode cL_law 1356 = .ok (.iadd, 1) := by decide +kernel
theorem dL_law_1357 : decode cL_law 1357 = .ok (.iaload, 1) := by decide +kernel
theorem dL_law_1358 : decode cL_law 1358 = .ok (.aload_n 0, 1) := by decide +kernel
theorem dL_law_1359 : decode cL_law 1359 = .ok (.iload 4, 2) := by decide +kernel
theorem dL_law_1361 : decode cL_law 1361 = .ok (.iconst 2, 1) := by decide +kernel
theorem dL_law_1362 : decode cL_law 1362 = .ok (.iadd, 1) := by decide +kernel
theorem dL_law_1363 : decode cL_law 1363 = .ok (.iaload, 1) := by decide +kernel
theorem dL_law_1364 : decode cL_law 1364 = .ok (.aload_n 0, 1) := by decide +kernel
theorem dL_law_1365 : decode cL_law 1365 = .ok (.iload 4, 2) := by decide +kernel
theorem dL_law_1367 : decode cL_law 1367 = .ok (.iconst 3, 1) := by decide +kernel
theorem dL_law_1368 : decode cL_law 1368 = .ok (.iadd, 1) := by decide +kernel
theorem dL_law_1369 : decode cL_law 1369 = .ok (.iaload, 1) := by decide +kernel
theorem dL_law_1370 : decode cL_law 1370 = .ok (.aload_n 0, 1) := by decide +kernel
theorem dL_law_1371 : decode cL_law 1371 = .ok (.iload 4, 2) := by decide +kernel
theorem dL_law_1373 : decode cL_law 1373 = .ok (.iconst 4, 1) := by decide +kernel
theorem dL_law_1374 : decode cL_law 1374 = .ok (.iadd, 1) := by decide +kernel
theorem dL_law_1375 : decode cL_law 1375 = .ok (.iaload, 1) := by decide +kernel
theorem dL_law_1376 : decode cL_law 1376 = .ok (.aload_n 0, 1) := by decide +kernel
theorem dL_law_1377 : decode cL_law 1377 = .ok (.iload 4, 2) := by decide +kernel
theorem dL_law_1379 : decode cL_law 1379 = .ok (.iconst 5, 1) := by decide +kernel
theorem dL_law_1380 : decode cL_law 1380 = .ok (.iadd, 1) := by decide +kernel
theorem dL_law_1381 : decode cL_law 1381 = .ok (.iaload, 1) := by decide +kernel
theorem dL_law_1382 : decode cL_law 1382 = .ok (.invokevirtual 146, 3) := by decide +kernel
theorem dL_law_1385 : decode cL_law 1385 = .ok (.istore 6, 2) := by decide +kernel
theorem dL_law_1387 : decode cL_law 1387 = .ok (.aload_n 2, 1) := by decide +kernel
theorem dL_law_1388 : decode cL_law 1388 = .ok (.invokevirtual 86, 3) := by decide +kernel
theorem dL_law_1391 : decode cL_law 1391 = .ok (.iload 5, 2) := by decide +kernel
theorem dL_law_1393 : decode cL_law 1393 = .ok (.if_icmp .eq 5, 3) := by decide +kernel
theorem dL_law_1396 : decode cL_law 1396 = .ok (.iconst 0, 1) := by decide +kernel
theorem dL_law_1397 : decode cL_law 1397 = .ok (.ireturn, 1) := by decide +kernel
theorem dL_law_1398 : decode cL_law 1398 = .ok (.iload 5, 2) := by decide +kernel
theorem dL_law_1400 : decode cL_law 1400 = .ok (.ifCond .ne 15, 3) := by decide +kernel
theorem dL_law_1403 : decode cL_law 1403 = .ok (.aload_n 3, 1) := by decide +kernel
theorem dL_law_1404 : decode cL_law 1404 = .ok (.iconst 0, 1) := by decide +kernel
theorem dL_law_1405 : decode cL_law 1405 = .ok (.laload, 1) := by decide +kernel
theorem dL_law_1406 : decode cL_law 1406 = .ok (.iload 6, 2) := by decide +kernel
theorem dL_law_1408 : decode cL_law 1408 = .ok (.i2l, 1) := by decide +kernel
theorem dL_law_1409 : decode cL_law 1409 = .ok (.lcmp, 1) := by decide +kernel
theorem dL_law_1410 : decode cL_law 1410 = .ok (.ifCond .eq 5, 3) := by decide +kernel
theorem dL_law_1413 : decode cL_law 1413 = .ok (.iconst 0, 1) := by decide +kernel
theorem dL_law_1414 : decode cL_law 1414 = .ok (.ireturn, 1) := by decide +kernel
theorem dL_law_1415 : decode cL_law 1415 = .ok (.goto 194, 3) := by decide +kernel
theorem dL_law_1418 : decode cL_law 1418 = .ok (.aload_n 1, 1) := by decide +kernel
theorem dL_law_1419 : decode cL_law 1419 = .ok (.aload_n 0, 1) := by decide +kernel
theorem dL_law_1420 : decode cL_law 1420 = .ok (.iload 4, 2) := by decide +kernel
theorem dL_law_1422 : decode cL_law 1422 = .ok (.iconst 1, 1) := by decide +kernel
theorem dL_law_1423 : decode cL_law 1423 = .ok (.iadd, 1) := by decide +kernel
theorem dL_law_1424 : decode cL_law 1424 = .ok (.iaload, 1) := by decide +kernel
theorem dL_law_1425 : decode cL_law 1425 = .ok (.aload_n 0, 1) := by decide +kernel
theorem dL_law_1426 : decode cL_law 1426 = .ok (.iload 4, 2) := by decide +kernel
theorem dL_law_1428 : decode cL_law 1428 = .ok (.iconst 2, 1) := by decide +kernel
theorem dL_law_1429 : decode cL_law 1429 = .ok (.iadd, 1) := by decide +kernel
theorem dL_law_1430 : decode cL_law 1430 = .ok (.iaload, 1) := by decide +kernel
theorem dL_law_1431 : decode cL_law 1431 = .ok (.aload_n 0, 1) := by decide +kernel
theorem dL_law_1432 : decode cL_law 1432 = .ok (.iload 4, 2) := by decide +kernel
theorem dL_law_1434 : decode cL_law 1434 = .ok (.iconst 3, 1) := by decide +kernel
theorem dL_law_1435 : decode cL_law 1435 = .ok (.iadd, 1) := by decide +kernel
theorem dL_law_1436 : decode cL_law 1436 = .ok (.iaload, 1) := by decide +kernel
theorem dL_law_1437 : decode cL_law 1437 = .ok (.aload_n 3, 1) := by decide +kernel
theorem dL_law_1438 : decode cL_law 1438 = .ok (.invokestatic 147, 3) := by decide +kernel
theorem dL_law_1441 : decode cL_law 1441 = .ok (.istore 5, 2) := by decide +kernel
theorem dL_law_1443 : decode cL_law 1443 = .ok (.aload_n 2, 1) := by decide +kernel
theorem dL_law_1444 : decode cL_law 1444 = .ok (.aload_n 0, 1) := by decide +kernel
theorem dL_law_1445 : decode cL_law 1445 = .ok (.iload 4, 2) := by decide +kernel
theorem dL_law_1447 : decode cL_law 1447 = .ok (.iconst 1, 1) := by decide +kernel
theorem dL_law_1448 : decode cL_law 1448 = .ok (.iadd, 1) := by decide +kernel
theorem dL_law_1449 : decode cL_law 1449 = .ok (.iaload, 1) := by decide +kernel
theorem dL_law_1450 : decode cL_law 1450 = .ok (.aload_n 0, 1) := by decide +kernel
theorem dL_law_1451 : decode cL_law 1451 = .ok (.iload 4, 2) := by decide +kernel
theorem dL_law_1453 : decode cL_law 1453 = .ok (.iconst 2, 1) := by decide +kernel
theorem dL_law_1454 : decode cL_law 1454 = .ok (.iadd, 1) := by decide +kernel
theorem dL_law_1455 : decode cL_law 1455 = .ok (.iaload, 1) := by decide +kernel
theorem dL_law_1456 : decode cL_law 1456 = .ok (.aload_n 0, 1) := by decide +kernel
theorem dL_law_1457 : decode cL_law 1457 = .ok (.iload 4, 2) := by decide +kernel
theorem dL_law_1459 : decode cL_law 1459 = .ok (.iconst 3, 1) := by decide +kernel
theorem dL_law_1460 : decode cL_law 1460 = .ok (.iadd, 1) := by decide +kernel
theorem dL_law_1461 : decode cL_law 1461 = .ok (.iaload, 1) := by decide +kernel
theorem dL_law_1462 : decode cL_law 1462 = .ok (.invokevirtual 150, 3) := by decide +kernel
theorem dL_law_1465 : decode cL_law 1465 = .ok (.istore 6, 2) := by decide +kernel
theorem dL_law_1467 : decode cL_law 1467 = .ok (.aload_n 2, 1) := by decide +kernel
theorem dL_law_1468 : decode cL_law 1468 = .ok (.invokevirtual 86, 3) := by decide +kernel
theorem dL_law_1471 : decode cL_law 1471 = .ok (.iload 5, 2) := by decide +kernel
theorem dL_law_1473 : decode cL_law 1473 = .ok (.if_icmp .eq 5, 3) := by decide +kernel
theorem dL_law_1476 : decode cL_law 1476 = .ok (.iconst 0, 1) := by decide +kernel
theorem dL_law_1477 : decode cL_law 1477 = .ok (.ireturn, 1) := by decide +kernel
theorem dL_law_1478 : decode cL_law 1478 = .ok (.iload 5, 2) := by decide +kernel
theorem dL_law_1480 : decode cL_law 1480 = .ok (.ifCond .ne 15, 3) := by decide +kernel
theorem dL_law_1483 : decode cL_law 1483 = .ok (.aload_n 3, 1) := by decide +kernel
theorem dL_law_1484 : decode cL_law 1484 = .ok (.iconst 0, 1) := by decide +kernel
theorem dL_law_1485 : decode cL_law 1485 = .ok (.laload, 1) := by decide +kernel
theorem dL_law_1486 : decode cL_law 1486 = .ok (.iload 6, 2) := by decide +kernel
theorem dL_law_1488 : decode cL_law 1488 = .ok (.i2l, 1) := by decide +kernel
theorem dL_law_1489 : decode cL_law 1489 = .ok (.lcmp, 1) := by decide +kernel
theorem dL_law_1490 : decode cL_law 1490 = .ok (.ifCond .eq 5, 3) := by decide +kernel
theorem dL_law_1493 : decode cL_law 1493 = .ok (.iconst 0, 1) := by decide +kernel
theorem dL_law_1494 : decode cL_law 1494 = .ok (.ireturn, 1) := by decide +kernel
theorem dL_law_1495 : decode cL_law 1495 = .ok (.goto 114, 3) := by decide +kernel
theorem dL_law_1498 : decode cL_law 1498 = .ok (.aload_n 1, 1) := by decide +kernel
theorem dL_law_1499 : decode cL_law 1499 = .ok (.aload_n 0, 1) := by decide +kernel
theorem dL_law_1500 : decode cL_law 1500 = .ok (.iload 4, 2) := by decide +kernel
theorem dL_law_1502 : decode cL_law 1502 = .ok (.iconst 1, 1) := by decide +kernel
theorem dL_law_1503 : decode cL_law 1503 = .ok (.iadd, 1) := by decide +kernel
theorem dL_law_1504 : decode cL_law 1504 = .ok (.iaload, 1) := by decide +kernel
theorem dL_law_1505 : decode cL_law 1505 = .ok (.aload_n 3, 1) := by decide +kernel
theorem dL_law_1506 : decode cL_law 1506 = .ok (.invokestatic 151, 3) := by decide +kernel
theorem dL_law_1509 : decode cL_law 1509 = .ok (.istore 5, 2) := by decide +kernel
theorem dL_law_1511 : decode cL_law 1511 = .ok (.aload_n 2, 1) := by decide +kernel
theorem dL_law_1512 : decode cL_law 1512 = .ok (.aload_n 0, 1) := by decide +kernel
theorem dL_law_1513 : decode cL_law 1513 = .ok (.iload 4, 2) := by decide +kernel
theorem dL_law_1515 : decode cL_law 1515 = .ok (.iconst 1, 1) := by decide +kernel
theorem dL_law_1516 : decode cL_law 1516 = .ok (.iadd, 1) := by decide +kernel
theorem dL_law_1517 : decode cL_law 1517 = .ok (.iaload, 1) := by decide +kernel
theorem dL_law_1518 : decode cL_law 1518 = .ok (.invokevirtual 153, 3) := by decide +kernel
theorem dL_law_1521 : decode cL_law 1521 = .ok (.istore 6, 2) := by decide +kernel
theorem dL_law_1523 : decode cL_law 1523 = .ok (.aload_n 2, 1) := by decide +kernel
theorem dL_law_1524 : decode cL_law 1524 = .ok (.invokevirtual 86, 3) := by decide +kernel
theorem dL_law_1527 : decode cL_law 1527 = .ok (.iload 5, 2) := by decide +kernel
theorem dL_law_1529 : decode cL_law 1529 = .ok (.if_icmp .eq 5, 3) := by decide +kernel
theorem dL_law_1532 : decode cL_law 1532 = .ok (.iconst 0, 1) := by decide +kernel
theorem dL_law_1533 : decode cL_law 1533 = .ok (.ireturn, 1) := by decide +kernel
theorem dL_law_1534 : decode cL_law 1534 = .ok (.iload 5, 2) := by decide +kernel
theorem dL_law_1536 : decode cL_law 1536 = .ok (.ifCond .ne 15, 3) := by decide +kernel
theorem dL_law_1539 : decode cL_law 1539 = .ok (.aload_n 3, 1) := by decide +kernel
theorem dL_law_1540 : decode cL_law 1540 = .ok (.iconst 0, 1) := by decide +kernel
theorem dL_law_1541 : decode cL_law 1541 = .ok (.laload, 1) := by decide +kernel
theorem dL_law_1542 : decode cL_law 1542 = .ok (.iload 6, 2) := by decide +kernel
theorem dL_law_1544 : decode cL_law 1544 = .ok (.i2l, 1) := by decide +kernel
theorem dL_law_1545 : decode cL_law 1545 = .ok (.lcmp, 1) := by decide +kernel
theorem dL_law_1546 : decode cL_law 1546 = .ok (.ifCond .eq 5, 3) := by decide +kernel
theorem dL_law_1549 : decode cL_law 1549 = .ok (.iconst 0, 1) := by decide +kernel
theorem dL_law_1550 : decode cL_law 1550 = .ok (.ireturn, 1) := by decide +kernel
theorem dL_law_1551 : decode cL_law 1551 = .ok (.goto 58, 3) := by decide +kernel
theorem dL_law_1554 : decode cL_law 1554 = .ok (.aload_n 1, 1) := by decide +kernel
theorem dL_law_1555 : decode cL_law 1555 = .ok (.invokevirtual 154, 3) := by decide +kernel
theorem dL_law_1558 : decode cL_law 1558 = .ok (.dstore 5, 2) := by decide +kernel
theorem dL_law_1560 : decode cL_law 1560 = .ok (.aload_n 2, 1) := by decide +kernel
theorem dL_law_1561 : decode cL_law 1561 = .ok (.invokevirtual 158, 3) := by decide +kernel
theorem dL_law_1564 : decode cL_law 1564 = .ok (.dstore 7, 2) := by decide +kernel
theorem dL_law_1566 : decode cL_law 1566 = .ok (.dload 5, 2) := by decide +kernel
theorem dL_law_1568 : decode cL_law 1568 = .ok (.dload 7, 2) := by decide +kernel
theorem dL_law_1570 : decode cL_law 1570 = .ok (.dcmp .l, 1) := by decide +kernel
theorem dL_law_1571 : decode cL_law 1571 = .ok (.ifCond .eq 21, 3) := by decide +kernel
theorem dL_law_1574 : decode cL_law 1574 = .ok (.dload 5, 2) := by decide +kernel
theorem dL_law_1576 : decode cL_law 1576 = .ok (.dload 5, 2) := by decide +kernel
theorem dL_law_1578 : decode cL_law 1578 = .ok (.dcmp .l, 1) := by decide +kernel
theorem dL_law_1579 : decode cL_law 1579 = .ok (.ifCond .eq 11, 3) := by decide +kernel
theorem dL_law_1582 : decode cL_law 1582 = .ok (.dload 7, 2) := by decide +kernel
theorem dL_law_1584 : decode cL_law 1584 = .ok (.dload 7, 2) := by decide +kernel
theorem dL_law_1586 : decode cL_law 1586 = .ok (.dcmp .l, 1) := by decide +kernel
theorem dL_law_1587 : decode cL_law 1587 = .ok (.ifCond .ne 5, 3) := by decide +kernel
theorem dL_law_1590 : decode cL_law 1590 = .ok (.iconst 0, 1) := by decide +kernel
theorem dL_law_1591 : decode cL_law 1591 = .ok (.ireturn, 1) := by decide +kernel
theorem dL_law_1592 : decode cL_law 1592 = .ok (.goto 17, 3) := by decide +kernel
theorem dL_law_1595 : decode cL_law 1595 = .ok (.aload_n 1, 1) := by decide +kernel
theorem dL_law_1596 : decode cL_law 1596 = .ok (.invokevirtual 159, 3) := by decide +kernel
theorem dL_law_1599 : decode cL_law 1599 = .ok (.aload_n 2, 1) := by decide +kernel
theorem dL_law_1600 : decode cL_law 1600 = .ok (.invokevirtual 163, 3) := by decide +kernel
theorem dL_law_1603 : decode cL_law 1603 = .ok (.lcmp, 1) := by decide +kernel
theorem dL_law_1604 : decode cL_law 1604 = .ok (.ifCond .eq 5, 3) := by decide +kernel
theorem dL_law_1607 : decode cL_law 1607 = .ok (.iconst 0, 1) := by decide +kernel
theorem dL_law_1608 : decode cL_law 1608 = .ok (.ireturn, 1) := by decide +kernel
theorem dL_law_1609 : decode cL_law 1609 = .ok (.iinc 4 6, 3) := by decide +kernel
theorem dL_law_1612 : decode cL_law 1612 = .ok (.goto (-1589), 3) := by decide +kernel
theorem dL_law_1615 : decode cL_law 1615 = .ok (.iconst 1, 1) := by decide +kernel
theorem dL_law_1616 : decode cL_law 1616 = .ok (.ireturn, 1) := by decide +kernel

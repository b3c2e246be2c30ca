theorem dX0_init_0 : decode cX0_init 0 = .ok (.aload_n 0, 1) := by decide +kernel
theorem dX0_init_1 : decode cX0_init 1 = .ok (.invokespecial 3, 3) := by decide +kernel
theorem dX0_init_4 : decode cX0_init 4 = .ok (.aload_n 0, 1) := by decide +kernel
theorem dX0_init_5 : decode cX0_init 5 = .ok (.bipush 6, 2) := by decide +kernel
theorem dX0_init_7 : decode cX0_init 7 = .ok (.anewarray 9, 3) := by decide +kernel
theorem dX0_init_10 : decode cX0_init 10 = .ok (.putfield 11, 3) := by decide +kernel
theorem dX0_init_13 : decode cX0_init 13 = .ok (.iconst 0, 1) := by decide +kernel
theorem dX0_init_14 : decode cX0_init 14 = .ok (.istore_n 1, 1) := by decide +kernel
theorem dX0_init_15 : decode cX0_init 15 = .ok (.iload_n 1, 1) := by decide +kernel
theorem dX0_init_16 : decode cX0_init 16 = .ok (.aload_n 0, 1) := by decide +kernel
theorem dX0_init_17 : decode cX0_init 17 = .ok (.getfield 11, 3) := by decide +kernel
theorem dX0_init_20 : decode cX0_init 20 = .ok (.arraylength, 1) := by decide +kernel
theorem dX0_init_21 : decode cX0_init 21 = .ok (.if_icmp .ge 22, 3) := by decide +kernel
theorem dX0_init_24 : decode cX0_init 24 = .ok (.aload_n 0, 1) := by decide +kernel
theorem dX0_init_25 : decode cX0_init 25 = .ok (.getfield 11, 3) := by decide +kernel
theorem dX0_init_28 : decode cX0_init 28 = .ok (.iload_n 1, 1) := by decide +kernel
theorem dX0_init_29 : decode cX0_init 29 = .ok (.new 9, 3) := by decide +kernel
theorem dX0_init_32 : decode cX0_init 32 = .ok (.dup, 1) := by decide +kernel
theorem dX0_init_33 : decode cX0_init 33 = .ok (.invokespecial 17, 3) := by decide +kernel
theorem dX0_init_36 : decode cX0_init 36 = .ok (.aastore, 1) := by decide +kernel
theorem dX0_init_37 : decode cX0_init 37 = .ok (.iinc 1 1, 3) := by decide +kernel
theorem dX0_init_40 : decode cX0_init 40 = .ok (.goto (-25), 3) := by decide +kernel
theorem dX0_init_43 : decode cX0_init 43 = .ok (.return_, 1) := by decide +kernel
theorem dX0_save_0 : decode cX0_save 0 = .ok (.aload_n 0, 1) := by decide +kernel
theorem dX0_save_1 : decode cX0_save 1 = .ok (.getfield 18, 3) := by decide +kernel
theorem dX0_save_4 : decode cX0_save 4 = .ok (.bipush 6, 2) := by decide +kernel
theorem dX0_save_6 : decode cX0_save 6 = .ok (.if_icmp .lt 21, 3) := by decide +kernel
theorem dX0_save_9 : decode cX0_save 9 = .ok (.aload_n 0, 1) := by decide +kernel
theorem dX0_save_10 : decode cX0_save 10 = .ok (.aload_n 0, 1) := by decide +kernel
theorem dX0_save_11 : decode cX0_save 11 = .ok (.getfield 22, 3) := by decide +kernel
theorem dX0_save_14 : decode cX0_save 14 = .ok (.iconst 1, 1) := by decide +kernel
theorem dX0_save_15 : decode cX0_save 15 = .ok (.iadd, 1) := by decide +kernel
theorem dX0_save_16 : decode cX0_save 16 = .ok (.bipush 6, 2) := by decide +kernel
theorem dX0_save_18 : decode cX0_save 18 = .ok (.irem, 1) := by decide +kernel
theorem dX0_save_19 : decode cX0_save 19 = .ok (.putfield 22, 3) := by decide +kernel
theorem dX0_save_22 : decode cX0_save 22 = .ok (.aload_n 0, 1) := by decide +kernel
theorem dX0_save_23 : decode cX0_save 23 = .ok (.iconst 5, 1) := by decide +kernel
theorem dX0_save_24 : decode cX0_save 24 = .ok (.putfield 18, 3) := by decide +kernel
theorem dX0_save_27 : decode cX0_save 27 = .ok (.aload_n 0, 1) := by decide +kernel
theorem dX0_save_28 : decode cX0_save 28 = .ok (.aload_n 0, 1) := by decide +kernel
theorem dX0_save_29 : decode cX0_save 29 = .ok (.getfield 18, 3) := by decide +kernel
theorem dX0_save_32 : decode cX0_save 32 = .ok (.invokevirtual 25, 3) := by decide +kernel
theorem dX0_save_35 : decode cX0_save 35 = .ok (.astore_n 2, 1) := by decide +kernel
theorem dX0_save_36 : decode cX0_save 36 = .ok (.aload_n 2, 1) := by decide +kernel
theorem dX0_save_37 : decode cX0_save 37 = .ok (.ifnull 8, 3) := by decide +kernel
theorem dX0_save_40 : decode cX0_save 40 = .ok (.aload_n 2, 1) := by decide +kernel
theorem dX0_save_41 : decode cX0_save 41 = .ok (.aload_n 1, 1) := by decide +kernel
theorem dX0_save_42 : decode cX0_save 42 = .ok (.invokevirtual 29, 3) := by decide +kernel
theorem dX0_save_45 : decode cX0_save 45 = .ok (.aload_n 0, 1) := by decide +kernel
theorem dX0_save_46 : decode cX0_save 46 = .ok (.dup, 1) := by decide +kernel
theorem dX0_save_47 : decode cX0_save 47 = .ok (.getfield 18, 3) := by decide +kernel
theorem dX0_save_50 : decode cX0_save 50 = .ok (.iconst 1, 1) := by decide +kernel
theorem dX0_save_51 : decode cX0_save 51 = .ok (.iadd, 1) := by decide +kernel
theorem dX0_save_52 : decode cX0_save 52 = .ok (.putfield 18, 3) := by decide +kernel
theorem dX0_save_55 : decode cX0_save 55 = .ok (.return_, 1) := by decide +kernel
theorem dX0_takeBack_0 : decode cX0_takeBack 0 = .ok (.aload_n 0, 1) := by decide +kernel
theorem dX0_takeBack_1 : decode cX0_takeBack 1 = .ok (.dup, 1) := by decide +kernel
theorem dX0_takeBack_2 : decode cX0_takeBack 2 = .ok (.getfield 18, 3) := by decide +kernel
theorem dX0_takeBack_5 : decode cX0_takeBack 5 = .ok (.iconst 1, 1) := by decide +kernel
theorem dX0_takeBack_6 : decode cX0_takeBack 6 = .ok (.isub, 1) := by decide +kernel
theorem dX0_takeBack_7 : decode cX0_takeBack 7 = .ok (.putfield 18, 3) := by decide +kernel
theorem dX0_takeBack_10 : decode cX0_takeBack 10 = .ok (.aload_n 0, 1) := by decide +kernel
theorem dX0_takeBack_11 : decode cX0_takeBack 11 = .ok (.aload_n 0, 1) := by decide +kernel
theorem dX0_takeBack_12 : decode cX0_takeBack 12 = .ok (.getfield 18, 3) := by decide +kernel
theorem dX0_takeBack_15 : decode cX0_takeBack 15 = .ok (.invokevirtual 25, 3) := by decide +kernel
theorem dX0_takeBack_18 : decode cX0_takeBack 18 = .ok (.astore_n 2, 1) := by decide +kernel
theorem dX0_takeBack_19 : decode cX0_takeBack 19 = .ok (.aload_n 2, 1) := by decide +kernel
theorem dX0_takeBack_20 : decode cX0_takeBack 20 = .ok (.ifnull 8, 3) := by decide +kernel
theorem dX0_takeBack_23 : decode cX0_takeBack 23 = .ok (.aload_n 1, 1) := by decide +kernel
theorem dX0_takeBack_24 : decode cX0_takeBack 24 = .ok (.aload_n 2, 1) := by decide +kernel
theorem dX0_takeBack_25 : decode cX0_takeBack 25 = .ok (.invokevirtual 29, 3) := by decide +kernel
theorem dX0_takeBack_28 : decode cX0_takeBack 28 = .ok (.return_, 1) := by decide +kernel
theorem dX0_sheetAt_0 : decode cX0_sheetAt 0 = .ok (.aload_n 0, 1) := by decide +kernel
theorem dX0_sheetAt_1 : decode cX0_sheetAt 1 = .ok (.getfield 22, 3) := by decide +kernel
theorem dX0_sheetAt_4 : decode cX0_sheetAt 4 = .ok (.iload_n 1, 1) := by decide +kernel
theorem dX0_sheetAt_5 : decode cX0_sheetAt 5 = .ok (.iadd, 1) := by decide +kernel
theorem dX0_sheetAt_6 : decode cX0_sheetAt 6 = .ok (.bipush 6, 2) := by decide +kernel
theorem dX0_sheetAt_8 : decode cX0_sheetAt 8 = .ok (.irem, 1) := by decide +kernel
theorem dX0_sheetAt_9 : decode cX0_sheetAt 9 = .ok (.istore_n 2, 1) := by decide +kernel
theorem dX0_sheetAt_10 : decode cX0_sheetAt 10 = .ok (.iload_n 2, 1) := by decide +kernel
theorem dX0_sheetAt_11 : decode cX0_sheetAt 11 = .ok (.ifCond .lt 21, 3) := by decide +kernel
theorem dX0_sheetAt_14 : decode cX0_sheetAt 14 = .ok (.iload_n 2, 1) := by decide +kernel
theorem dX0_sheetAt_15 : decode cX0_sheetAt 15 = .ok (.aload_n 0, 1) := by decide +kernel
theorem dX0_sheetAt_16 : decode cX0_sheetAt 16 = .ok (.getfield 11, 3) := by decide +kernel
theorem dX0_sheetAt_19 : decode cX0_sheetAt 19 = .ok (.arraylength, 1) := by decide +kernel
theorem dX0_sheetAt_20 : decode cX0_sheetAt 20 = .ok (.if_icmp .ge 12, 3) := by decide +kernel
theorem dX0_sheetAt_23 : decode cX0_sheetAt 23 = .ok (.aload_n 0, 1) := by decide +kernel
theorem dX0_sheetAt_24 : decode cX0_sheetAt 24 = .ok (.getfield 11, 3) := by decide +kernel
theorem dX0_sheetAt_27 : decode cX0_sheetAt 27 = .ok (.iload_n 2, 1) := by decide +kernel
theorem dX0_sheetAt_28 : decode cX0_sheetAt 28 = .ok (.aaload, 1) := by decide +kernel
theorem dX0_sheetAt_29 : decode cX0_sheetAt 29 = .ok (.goto 4, 3) := by decide +kernel
theorem dX0_sheetAt_32 : decode cX0_sheetAt 32 = .ok (.aconst_null, 1) := by decide +kernel
theorem dX0_sheetAt_33 : decode cX0_sheetAt 33 = .ok (.areturn, 1) := by decide +kernel
theorem dX2_init_0 : decode cX2_init 0 = .ok (.aload_n 0, 1) := by decide +kernel
theorem dX2_init_1 : decode cX2_init 1 = .ok (.invokespecial 1, 3) := by decide +kernel
theorem dX2_init_4 : decode cX2_init 4 = .ok (.aload_n 0, 1) := by decide +kernel
theorem dX2_init_5 : decode cX2_init 5 = .ok (.iconst 0, 1) := by decide +kernel
theorem dX2_init_6 : decode cX2_init 6 = .ok (.iload_n 1, 1) := by decide +kernel
theorem dX2_init_7 : decode cX2_init 7 = .ok (.invokestatic 7, 3) := by decide +kernel
theorem dX2_init_10 : decode cX2_init 10 = .ok (.newarray .int, 2) := by decide +kernel
theorem dX2_init_12 : decode cX2_init 12 = .ok (.putfield 13, 3) := by decide +kernel
theorem dX2_init_15 : decode cX2_init 15 = .ok (.return_, 1) := by decide +kernel
theorem dX2_at_0 : decode cX2_at 0 = .ok (.iload_n 1, 1) := by decide +kernel
theorem dX2_at_1 : decode cX2_at 1 = .ok (.ifCond .lt 21, 3) := by decide +kernel
theorem dX2_at_4 : decode cX2_at 4 = .ok (.iload_n 1, 1) := by decide +kernel
theorem dX2_at_5 : decode cX2_at 5 = .ok (.aload_n 0, 1) := by decide +kernel
theorem dX2_at_6 : decode cX2_at 6 = .ok (.getfield 13, 3) := by decide +kernel
theorem dX2_at_9 : decode cX2_at 9 = .ok (.arraylength, 1) := by decide +kernel
theorem dX2_at_10 : decode cX2_at 10 = .ok (.if_icmp .ge 12, 3) := by decide +kernel
theorem dX2_at_13 : decode cX2_at 13 = .ok (.aload_n 0, 1) := by decide +kernel
theorem dX2_at_14 : decode cX2_at 14 = .ok (.getfield 13, 3) := by decide +kernel
theorem dX2_at_17 : decode cX2_at 17 = .ok (.iload_n 1, 1) := by decide +kernel
theorem dX2_at_18 : decode cX2_at 18 = .ok (.iaload, 1) := by decide +kernel
theorem dX2_at_19 : decode cX2_at 19 = .ok (.goto 4, 3) := by decide +kernel
theorem dX2_at_22 : decode cX2_at 22 = .ok (.iconst 0, 1) := by decide +kernel
theorem dX2_at_23 : decode cX2_at 23 = .ok (.ireturn, 1) := by decide +kernel
theorem dX2_store_0 : decode cX2_store 0 = .ok (.iload_n 1, 1) := by decide +kernel
theorem dX2_store_1 : decode cX2_store 1 = .ok (.ifCond .lt 19, 3) := by decide +kernel
theorem dX2_store_4 : decode cX2_store 4 = .ok (.iload_n 1, 1) := by decide +kernel
theorem dX2_store_5 : decode cX2_store 5 = .ok (.aload_n 0, 1) := by decide +kernel
theorem dX2_store_6 : decode cX2_store 6 = .ok (.getfield 13, 3) := by decide +kernel
theorem dX2_store_9 : decode cX2_store 9 = .ok (.arraylength, 1) := by decide +kernel
theorem dX2_store_10 : decode cX2_store 10 = .ok (.if_icmp .ge 10, 3) := by decide +kernel
theorem dX2_store_13 : decode cX2_store 13 = .ok (.aload_n 0, 1) := by decide +kernel
theorem dX2_store_14 : decode cX2_store 14 = .ok (.getfield 13, 3) := by decide +kernel
theorem dX2_store_17 : decode cX2_store 17 = .ok (.iload_n 1, 1) := by decide +kernel
theorem dX2_store_18 : decode cX2_store 18 = .ok (.iload_n 2, 1) := by decide +kernel
theorem dX2_store_19 : decode cX2_store 19 = .ok (.iastore, 1) := by decide +kernel
theorem dX2_store_20 : decode cX2_store 20 = .ok (.return_, 1) := by decide +kernel
theorem dX2_copyFrom_0 : decode cX2_copyFrom 0 = .ok (.aload_n 1, 1) := by decide +kernel
theorem dX2_copyFrom_1 : decode cX2_copyFrom 1 = .ok (.getfield 13, 3) := by decide +kernel
theorem dX2_copyFrom_4 : decode cX2_copyFrom 4 = .ok (.iconst 0, 1) := by decide +kernel
theorem dX2_copyFrom_5 : decode cX2_copyFrom 5 = .ok (.aload_n 0, 1) := by decide +kernel
theorem dX2_copyFrom_6 : decode cX2_copyFrom 6 = .ok (.getfield 13, 3) := by decide +kernel
theorem dX2_copyFrom_9 : decode cX2_copyFrom 9 = .ok (.iconst 0, 1) := by decide +kernel
theorem dX2_copyFrom_10 : decode cX2_copyFrom 10 = .ok (.aload_n 0, 1) := by decide +kernel
theorem dX2_copyFrom_11 : decode cX2_copyFrom 11 = .ok (.getfield 13, 3) := by decide +kernel
theorem dX2_copyFrom_14 : decode cX2_copyFrom 14 = .ok (.arraylength, 1) := by decide +kernel
theorem dX2_copyFrom_15 : decode cX2_copyFrom 15 = .ok (.aload_n 1, 1) := by decide +kernel
theorem dX2_copyFrom_16 : decode cX2_copyFrom 16 = .ok (.getfield 13, 3) := by decide +kernel
theorem dX2_copyFrom_19 : decode cX2_copyFrom 19 = .ok (.arraylength, 1) := by decide +kernel
theorem dX2_copyFrom_20 : decode cX2_copyFrom 20 = .ok (.invokestatic 19, 3) := by decide +kernel
theorem dX2_copyFrom_23 : decode cX2_copyFrom 23 = .ok (.invokestatic 22, 3) := by decide +kernel
theorem dX2_copyFrom_26 : decode cX2_copyFrom 26 = .ok (.return_, 1) := by decide +kernel
theorem dX2_clear_0 : decode cX2_clear 0 = .ok (.aload_n 0, 1) := by decide +kernel
theorem dX2_clear_1 : decode cX2_clear 1 = .ok (.getfield 13, 3) := by decide +kernel
theorem dX2_clear_4 : decode cX2_clear 4 = .ok (.iconst 0, 1) := by decide +kernel
theorem dX2_clear_5 : decode cX2_clear 5 = .ok (.invokestatic 28, 3) := by decide +kernel
theorem dX2_clear_8 : decode cX2_clear 8 = .ok (.return_, 1) := by decide +kernel
theorem dX3_init_0 : decode cX3_init 0 = .ok (.aload_n 0, 1) := by decide +kernel
theorem dX3_init_1 : decode cX3_init 1 = .ok (.invokespecial 3, 3) := by decide +kernel
theorem dX3_init_4 : decode cX3_init 4 = .ok (.aload_n 0, 1) := by decide +kernel
theorem dX3_init_5 : decode cX3_init 5 = .ok (.new 9, 3) := by decide +kernel
theorem dX3_init_8 : decode cX3_init 8 = .ok (.dup, 1) := by decide +kernel
theorem dX3_init_9 : decode cX3_init 9 = .ok (.bipush 60, 2) := by decide +kernel
theorem dX3_init_11 : decode cX3_init 11 = .ok (.invokespecial 11, 3) := by decide +kernel
theorem dX3_init_14 : decode cX3_init 14 = .ok (.putfield 14, 3) := by decide +kernel
theorem dX3_init_17 : decode cX3_init 17 = .ok (.return_, 1) := by decide +kernel
theorem dJ9_max_7cf53_0 : decode cJ9_max_7cf53 0 = .ok (.iload_n 0, 1) := by decide +kernel
theorem dJ9_max_7cf53_1 : decode cJ9_max_7cf53 1 = .ok (.iload_n 1, 1) := by decide +kernel
theorem dJ9_max_7cf53_2 : decode cJ9_max_7cf53 2 = .ok (.if_icmp .lt 7, 3) := by decide +kernel
theorem dJ9_max_7cf53_5 : decode cJ9_max_7cf53 5 = .ok (.iload_n 0, 1) := by decide +kernel
theorem dJ9_max_7cf53_6 : decode cJ9_max_7cf53 6 = .ok (.goto 4, 3) := by decide +kernel
theorem dJ9_max_7cf53_9 : decode cJ9_max_7cf53 9 = .ok (.iload_n 1, 1) := by decide +kernel
theorem dJ9_max_7cf53_10 : decode cJ9_max_7cf53 10 = .ok (.ireturn, 1) := by decide +kernel
theorem dJ9_min_7cf53_0 : decode cJ9_min_7cf53 0 = .ok (.iload_n 0, 1) := by decide +kernel
theorem dJ9_min_7cf53_1 : decode cJ9_min_7cf53 1 = .ok (.iload_n 1, 1) := by decide +kernel
theorem dJ9_min_7cf53_2 : decode cJ9_min_7cf53 2 = .ok (.if_icmp .gt 7, 3) := by decide +kernel
theorem dJ9_min_7cf53_5 : decode cJ9_min_7cf53 5 = .ok (.iload_n 0, 1) := by decide +kernel
theorem dJ9_min_7cf53_6 : decode cJ9_min_7cf53 6 = .ok (.goto 4, 3) := by decide +kernel
theorem dJ9_min_7cf53_9 : decode cJ9_min_7cf53 9 = .ok (.iload_n 1, 1) := by decide +kernel
theorem dJ9_min_7cf53_10 : decode cJ9_min_7cf53 10 = .ok (.ireturn, 1) := by decide +kernel
theorem dJ7_fill_53178_0 : decode cJ7_fill_53178 0 = .ok (.iconst 0, 1) := by decide +kernel
theorem dJ7_fill_53178_1 : decode cJ7_fill_53178 1 = .ok (.istore_n 2, 1) := by decide +kernel
theorem dJ7_fill_53178_2 : decode cJ7_fill_53178 2 = .ok (.aload_n 0, 1) := by decide +kernel
theorem dJ7_fill_53178_3 : decode cJ7_fill_53178 3 = .ok (.arraylength, 1) := by decide +kernel
theorem dJ7_fill_53178_4 : decode cJ7_fill_53178 4 = .ok (.istore_n 3, 1) := by decide +kernel
theorem dJ7_fill_53178_5 : decode cJ7_fill_53178 5 = .ok (.iload_n 2, 1) := by decide +kernel
theorem dJ7_fill_53178_6 : decode cJ7_fill_53178 6 = .ok (.iload_n 3, 1) := by decide +kernel
theorem dJ7_fill_53178_7 : decode cJ7_fill_53178 7 = .ok (.if_icmp .ge 13, 3) := by decide +kernel
theorem dJ7_fill_53178_10 : decode cJ7_fill_53178 10 = .ok (.aload_n 0, 1) := by decide +kernel
theorem dJ7_fill_53178_11 : decode cJ7_fill_53178 11 = .ok (.iload_n 2, 1) := by decide +kernel
theorem dJ7_fill_53178_12 : decode cJ7_fill_53178 12 = .ok (.iload_n 1, 1) := by decide +kernel
theorem dJ7_fill_53178_13 : decode cJ7_fill_53178 13 = .ok (.iastore, 1) := by decide +kernel
theorem dJ7_fill_53178_14 : decode cJ7_fill_53178 14 = .ok (.iinc 2 1, 3) := by decide +kernel
theorem dJ7_fill_53178_17 : decode cJ7_fill_53178 17 = .ok (.goto (-12), 3) := by decide +kernel
theorem dJ7_fill_53178_20 : decode cJ7_fill_53178 20 = .ok (.return_, 1) := by decide +kernel
theorem dX1_init_0 : decode cX1_init 0 = .ok (.aload_n 0, 1) := by decide +kernel
theorem dX1_init_1 : decode cX1_init 1 = .ok (.invokespecial 3, 3) := by decide +kernel
theorem dX1_init_4 : decode cX1_init 4 = .ok (.aload_n 0, 1) := by decide +kernel
theorem dX1_init_5 : decode cX1_init 5 = .ok (.new 9, 3) := by decide +kernel
theorem dX1_init_8 : decode cX1_init 8 = .ok (.dup, 1) := by decide +kernel
theorem dX1_init_9 : decode cX1_init 9 = .ok (.invokespecial 11, 3) := by decide +kernel
theorem dX1_init_12 : decode cX1_init 12 = .ok (.putfield 12, 3) := by decide +kernel
theorem dX1_init_15 : decode cX1_init 15 = .ok (.aload_n 0, 1) := by decide +kernel
theorem dX1_init_16 : decode cX1_init 16 = .ok (.new 18, 3) := by decide +kernel
theorem dX1_init_19 : decode cX1_init 19 = .ok (.dup, 1) := by decide +kernel
theorem dX1_init_20 : decode cX1_init 20 = .ok (.bipush 125, 2) := by decide +kernel
theorem dX1_init_22 : decode cX1_init 22 = .ok (.invokespecial 20, 3) := by decide +kernel
theorem dX1_init_25 : decode cX1_init 25 = .ok (.putfield 23, 3) := by decide +kernel
theorem dX1_init_28 : decode cX1_init 28 = .ok (.aload_n 0, 1) := by decide +kernel
theorem dX1_init_29 : decode cX1_init 29 = .ok (.new 18, 3) := by decide +kernel
theorem dX1_init_32 : decode cX1_init 32 = .ok (.dup, 1) := by decide +kernel
theorem dX1_init_33 : decode cX1_init 33 = .ok (.bipush 125, 2) := by decide +kernel
theorem dX1_init_35 : decode cX1_init 35 = .ok (.invokespecial 20, 3) := by decide +kernel
theorem dX1_init_38 : decode cX1_init 38 = .ok (.putfield 27, 3) := by decide +kernel
theorem dX1_init_41 : decode cX1_init 41 = .ok (.aload_n 0, 1) := by decide +kernel
theorem dX1_init_42 : decode cX1_init 42 = .ok (.new 18, 3) := by decide +kernel
theorem dX1_init_45 : decode cX1_init 45 = .ok (.dup, 1) := by decide +kernel
theorem dX1_init_46 : decode cX1_init 46 = .ok (.bipush 125, 2) := by decide +kernel
theorem dX1_init_48 : decode cX1_init 48 = .ok (.invokespecial 20, 3) := by decide +kernel
theorem dX1_init_51 : decode cX1_init 51 = .ok (.putfield 30, 3) := by decide +kernel
theorem dX1_init_54 : decode cX1_init 54 = .ok (.aload_n 0, 1) := by decide +kernel
theorem dX1_init_55 : decode cX1_init 55 = .ok (.new 18, 3) := by decide +kernel
theorem dX1_init_58 : decode cX1_init 58 = .ok (.dup, 1) := by decide +kernel
theorem dX1_init_59 : decode cX1_init 59 = .ok (.sipush 250, 3) := by decide +kernel
theorem dX1_init_62 : decode cX1_init 62 = .ok (.invokespecial 20, 3) := by decide +kernel
theorem dX1_init_65 : decode cX1_init 65 = .ok (.putfield 33, 3) := by decide +kernel
theorem dX1_init_68 : decode cX1_init 68 = .ok (.aload_n 0, 1) := by decide +kernel
theorem dX1_init_69 : decode cX1_init 69 = .ok (.new 18, 3) := by decide +kernel
theorem dX1_init_72 : decode cX1_init 72 = .ok (.dup, 1) := by decide +kernel
theorem dX1_init_73 : decode cX1_init 73 = .ok (.sipush 500, 3) := by decide +kernel
theorem dX1_init_76 : decode cX1_init 76 = .ok (.invokespecial 20, 3) := by decide +kernel
theorem dX1_init_79 : decode cX1_init 79 = .ok (.putfield 36, 3) := by decide +kernel
theorem dX1_init_82 : decode cX1_init 82 = .ok (.aload_n 0, 1) := by decide +kernel
theorem dX1_init_83 : decode cX1_init 83 = .ok (.new 18, 3) := by decide +kernel
theorem dX1_init_86 : decode cX1_init 86 = .ok (.dup, 1) := by decide +kernel
theorem dX1_init_87 : decode cX1_init 87 = .ok (.sipush 500, 3) := by decide +kernel
theorem dX1_init_90 : decode cX1_init 90 = .ok (.invokespecial 20, 3) := by decide +kernel
theorem dX1_init_93 : decode cX1_init 93 = .ok (.putfield 39, 3) := by decide +kernel
theorem dX1_init_96 : decode cX1_init 96 = .ok (.aload_n 0, 1) := by decide +kernel
theorem dX1_init_97 : decode cX1_init 97 = .ok (.new 18, 3) := by decide +kernel
theorem dX1_init_100 : decode cX1_init 100 = .ok (.dup, 1) := by decide +kernel
theorem dX1_init_101 : decode cX1_init 101 = .ok (.bipush 50, 2) := by decide +kernel
theorem dX1_init_103 : decode cX1_init 103 = .ok (.invokespecial 20, 3) := by decide +kernel
theorem dX1_init_106 : decode cX1_init 106 = .ok (.putfield 42, 3) := by decide +kernel
theorem dX1_init_109 : decode cX1_init 109 = .ok (.aload_n 0, 1) := by decide +kernel
theorem dX1_init_110 : decode cX1_init 110 = .ok (.new 18, 3) := by decide +kernel
theorem dX1_init_113 : decode cX1_init 113 = .ok (.dup, 1) := by decide +kernel
theorem dX1_init_114 : decode cX1_init 114 = .ok (.bipush 10, 2) := by decide +kernel
theorem dX1_init_116 : decode cX1_init 116 = .ok (.invokespecial 20, 3) := by decide +kernel
theorem dX1_init_119 : decode cX1_init 119 = .ok (.putfield 45, 3) := by decide +kernel
theorem dX1_init_122 : decode cX1_init 122 = .ok (.aload_n 0, 1) := by decide +kernel
theorem dX1_init_123 : decode cX1_init 123 = .ok (.new 18, 3) := by decide +kernel
theorem dX1_init_126 : decode cX1_init 126 = .ok (.dup, 1) := by decide +kernel
theorem dX1_init_127 : decode cX1_init 127 = .ok (.bipush 10, 2) := by decide +kernel
theorem dX1_init_129 : decode cX1_init 129 = .ok (.invokespecial 20, 3) := by decide +kernel
theorem dX1_init_132 : decode cX1_init 132 = .ok (.putfield 48, 3) := by decide +kernel
theorem dX1_init_135 : decode cX1_init 135 = .ok (.aload_n 0, 1) := by decide +kernel
theorem dX1_init_136 : decode cX1_init 136 = .ok (.new 18, 3) := by decide +kernel
theorem dX1_init_139 : decode cX1_init 139 = .ok (.dup, 1) := by decide +kernel
theorem dX1_init_140 : decode cX1_init 140 = .ok (.iconst 5, 1) := by decide +kernel
theorem dX1_init_141 : decode cX1_init 141 = .ok (.invokespecial 20, 3) := by decide +kernel
theorem dX1_init_144 : decode cX1_init 144 = .ok (.putfield 51, 3) := by decide +kernel
theorem dX1_init_147 : decode cX1_init 147 = .ok (.return_, 1) := by decide +kernel
theorem dX1_sizeOf_0 : decode cX1_sizeOf 0 = .ok (.aload_n 0, 1) := by decide +kernel
theorem dX1_sizeOf_1 : decode cX1_sizeOf 1 = .ok (.getfield 42, 3) := by decide +kernel
theorem dX1_sizeOf_4 : decode cX1_sizeOf 4 = .ok (.iload_n 1, 1) := by decide +kernel
theorem dX1_sizeOf_5 : decode cX1_sizeOf 5 = .ok (.iload_n 2, 1) := by decide +kernel
theorem dX1_sizeOf_6 : decode cX1_sizeOf 6 = .ok (.iload_n 3, 1) := by decide +kernel
theorem dX1_sizeOf_7 : decode cX1_sizeOf 7 = .ok (.invokestatic 54, 3) := by decide +kernel
theorem dX1_sizeOf_10 : decode cX1_sizeOf 10 = .ok (.invokevirtual 58, 3) := by decide +kernel
theorem dX1_sizeOf_13 : decode cX1_sizeOf 13 = .ok (.ireturn, 1) := by decide +kernel
theorem dX1_sizePlace_0 : decode cX1_sizePlace 0 = .ok (.iload_n 0, 1) := by decide +kernel
theorem dX1_sizePlace_1 : decode cX1_sizePlace 1 = .ok (.iconst 2, 1) := by decide +kernel
theorem dX1_sizePlace_2 : decode cX1_sizePlace 2 = .ok (.imul, 1) := by decide +kernel
theorem dX1_sizePlace_3 : decode cX1_sizePlace 3 = .ok (.iload_n 1, 1) := by decide +kernel
theorem dX1_sizePlace_4 : decode cX1_sizePlace 4 = .ok (.iadd, 1) := by decide +kernel
theorem dX1_sizePlace_5 : decode cX1_sizePlace 5 = .ok (.iconst 5, 1) := by decide +kernel
theorem dX1_sizePlace_6 : decode cX1_sizePlace 6 = .ok (.imul, 1) := by decide +kernel
theorem dX1_sizePlace_7 : decode cX1_sizePlace 7 = .ok (.iload_n 2, 1) := by decide +kernel
theorem dX1_sizePlace_8 : decode cX1_sizePlace 8 = .ok (.iadd, 1) := by decide +kernel
theorem dX1_sizePlace_9 : decode cX1_sizePlace 9 = .ok (.ireturn, 1) := by decide +kernel
theorem dX1_squaresEndOf_0 : decode cX1_squaresEndOf 0 = .ok (.iload_n 0, 1) := by decide +kernel
theorem dX1_squaresEndOf_1 : decode cX1_squaresEndOf 1 = .ok (.iconst 1, 1) := by decide +kernel
theorem dX1_squaresEndOf_2 : decode cX1_squaresEndOf 2 = .ok (.iadd, 1) := by decide +kernel
theorem dX1_squaresEndOf_3 : decode cX1_squaresEndOf 3 = .ok (.bipush 25, 2) := by decide +kernel
theorem dX1_squaresEndOf_5 : decode cX1_squaresEndOf 5 = .ok (.imul, 1) := by decide +kernel
theorem dX1_squaresEndOf_6 : decode cX1_squaresEndOf 6 = .ok (.ireturn, 1) := by decide +kernel
theorem dX1_measure_0 : decode cX1_measure 0 = .ok (.aload_n 0, 1) := by decide +kernel
theorem dX1_measure_1 : decode cX1_measure 1 = .ok (.getfield 42, 3) := by decide +kernel
theorem dX1_measure_4 : decode cX1_measure 4 = .ok (.invokevirtual 62, 3) := by decide +kernel
theorem dX1_measure_7 : decode cX1_measure 7 = .ok (.aload_n 0, 1) := by decide +kernel
theorem dX1_measure_8 : decode cX1_measure 8 = .ok (.getfield 12, 3) := by decide +kernel
theorem dX1_measure_11 : decode cX1_measure 11 = .ok (.getfield 65, 3) := by decide +kernel
theorem dX1_measure_14 : decode cX1_measure 14 = .ok (.iconst 1, 1) := by decide +kernel
theorem dX1_measure_15 : decode cX1_measure 15 = .ok (.isub, 1) := by decide +kernel
theorem dX1_measure_16 : decode cX1_measure 16 = .ok (.istore_n 1, 1) := by decide +kernel
theorem dX1_measure_17 : decode cX1_measure 17 = .ok (.iload_n 1, 1) := by decide +kernel
theorem dX1_measure_18 : decode cX1_measure 18 = .ok (.ifCond .lt 66, 3) := by decide +kernel
theorem dX1_measure_21 : decode cX1_measure 21 = .ok (.aload_n 0, 1) := by decide +kernel
theorem dX1_measure_22 : decode cX1_measure 22 = .ok (.iload_n 1, 1) := by decide +kernel
theorem dX1_measure_23 : decode cX1_measure 23 = .ok (.invokevirtual 69, 3) := by decide +kernel
theorem dX1_measure_26 : decode cX1_measure 26 = .ok (.aload_n 0, 1) := by decide +kernel
theorem dX1_measure_27 : decode cX1_measure 27 = .ok (.iload_n 1, 1) := by decide +kernel
theorem dX1_measure_28 : decode cX1_measure 28 = .ok (.invokevirtual 72, 3) := by decide +kernel
theorem dX1_measure_31 : decode cX1_measure 31 = .ok (.aload_n 0, 1) := by decide +kernel
theorem dX1_measure_32 : decode cX1_measure 32 = .ok (.iload_n 1, 1) := by decide +kernel
theorem dX1_measure_33 : decode cX1_measure 33 = .ok (.invokevirtual 75, 3) := by decide +kernel
theorem dX1_measure_36 : decode cX1_measure 36 = .ok (.aload_n 0, 1) := by decide +kernel
theorem dX1_measure_37 : decode cX1_measure 37 = .ok (.iload_n 1, 1) := by decide +kernel
theorem dX1_measure_38 : decode cX1_measure 38 = .ok (.invokevirtual 78, 3) := by decide +kernel
theorem dX1_measure_41 : decode cX1_measure 41 = .ok (.iconst 0, 1) := by decide +kernel
theorem dX1_measure_42 : decode cX1_measure 42 = .ok (.istore_n 2, 1) := by decide +kernel
theorem dX1_measure_43 : decode cX1_measure 43 = .ok (.iload_n 2, 1) := by decide +kernel
theorem dX1_measure_44 : decode cX1_measure 44 = .ok (.iconst 1, 1) := by decide +kernel
theorem dX1_measure_45 : decode cX1_measure 45 = .ok (.if_icmp .gt 33, 3) := by decide +kernel
theorem dX1_measure_48 : decode cX1_measure 48 = .ok (.aload_n 0, 1) := by decide +kernel
theorem dX1_measure_49 : decode cX1_measure 49 = .ok (.iload_n 1, 1) := by decide +kernel
theorem dX1_measure_50 : decode cX1_measure 50 = .ok (.iload_n 2, 1) := by decide +kernel
theorem dX1_measure_51 : decode cX1_measure 51 = .ok (.invokevirtual 81, 3) := by decide +kernel
theorem dX1_measure_54 : decode cX1_measure 54 = .ok (.aload_n 0, 1) := by decide +kernel
theorem dX1_measure_55 : decode cX1_measure 55 = .ok (.iload_n 1, 1) := by decide +kernel
theorem dX1_measure_56 : decode cX1_measure 56 = .ok (.iload_n 2, 1) := by decide +kernel
theorem dX1_measure_57 : decode cX1_measure 57 = .ok (.invokevirtual 85, 3) := by decide +kernel
theorem dX1_measure_60 : decode cX1_measure 60 = .ok (.aload_n 0, 1) := by decide +kernel
theorem dX1_measure_61 : decode cX1_measure 61 = .ok (.iload_n 1, 1) := by decide +kernel
theorem dX1_measure_62 : decode cX1_measure 62 = .ok (.iload_n 2, 1) := by decide +kernel
theorem dX1_measure_63 : decode cX1_measure 63 = .ok (.invokevirtual 88, 3) := by decide +kernel
theorem dX1_measure_66 : decode cX1_measure 66 = .ok (.aload_n 0, 1) := by decide +kernel
theorem dX1_measure_67 : decode cX1_measure 67 = .ok (.iload_n 1, 1) := by decide +kernel
theorem dX1_measure_68 : decode cX1_measure 68 = .ok (.iload_n 2, 1) := by decide +kernel
theorem dX1_measure_69 : decode cX1_measure 69 = .ok (.invokevirtual 91, 3) := by decide +kernel
theorem dX1_measure_72 : decode cX1_measure 72 = .ok (.iinc 2 1, 3) := by decide +kernel
theorem dX1_measure_75 : decode cX1_measure 75 = .ok (.goto (-32), 3) := by decide +kernel
theorem dX1_measure_78 : decode cX1_measure 78 = .ok (.iinc 1 (-1), 3) := by decide +kernel
theorem dX1_measure_81 : decode cX1_measure 81 = .ok (.goto (-64), 3) := by decide +kernel
theorem dX1_measure_84 : decode cX1_measure 84 = .ok (.return_, 1) := by decide +kernel
theorem dX1_valueCells_0 : decode cX1_valueCells 0 = .ok (.iconst 0, 1) := by decide +kernel
theorem dX1_valueCells_1 : decode cX1_valueCells 1 = .ok (.istore_n 2, 1) := by decide +kernel
theorem dX1_valueCells_2 : decode cX1_valueCells 2 = .ok (.iload_n 1, 1) := by decide +kernel
theorem dX1_valueCells_3 : decode cX1_valueCells 3 = .ok (.bipush 25, 2) := by decide +kernel
theorem dX1_valueCells_5 : decode cX1_valueCells 5 = .ok (.imul, 1) := by decide +kernel
theorem dX1_valueCells_6 : decode cX1_valueCells 6 = .ok (.istore_n 3, 1) := by decide +kernel
theorem dX1_valueCells_7 : decode cX1_valueCells 7 = .ok (.iload_n 3, 1) := by decide +kernel
theorem dX1_valueCells_8 : decode cX1_valueCells 8 = .ok (.iload_n 1, 1) := by decide +kernel
theorem dX1_valueCells_9 : decode cX1_valueCells 9 = .ok (.invokestatic 94, 3) := by decide +kernel
theorem dX1_valueCells_12 : decode cX1_valueCells 12 = .ok (.if_icmp .ge 46, 3) := by decide +kernel
theorem dX1_valueCells_15 : decode cX1_valueCells 15 = .ok (.aload_n 0, 1) := by decide +kernel
theorem dX1_valueCells_16 : decode cX1_valueCells 16 = .ok (.getfield 12, 3) := by decide +kernel
theorem dX1_valueCells_19 : decode cX1_valueCells 19 = .ok (.iload_n 3, 1) := by decide +kernel
theorem dX1_valueCells_20 : decode cX1_valueCells 20 = .ok (.invokevirtual 97, 3) := by decide +kernel
theorem dX1_valueCells_23 : decode cX1_valueCells 23 = .ok (.ifCond .eq 11, 3) := by decide +kernel
theorem dX1_valueCells_26 : decode cX1_valueCells 26 = .ok (.aload_n 0, 1) := by decide +kernel
theorem dX1_valueCells_27 : decode cX1_valueCells 27 = .ok (.iload_n 3, 1) := by decide +kernel
theorem dX1_valueCells_28 : decode cX1_valueCells 28 = .ok (.invokevirtual 101, 3) := by decide +kernel
theorem dX1_valueCells_31 : decode cX1_valueCells 31 = .ok (.goto 4, 3) := by decide +kernel
theorem dX1_valueCells_34 : decode cX1_valueCells 34 = .ok (.iconst 0, 1) := by decide +kernel
theorem dX1_valueCells_35 : decode cX1_valueCells 35 = .ok (.istore 4, 2) := by decide +kernel
theorem dX1_valueCells_37 : decode cX1_valueCells 37 = .ok (.aload_n 0, 1) := by decide +kernel
theorem dX1_valueCells_38 : decode cX1_valueCells 38 = .ok (.getfield 23, 3) := by decide +kernel
theorem dX1_valueCells_41 : decode cX1_valueCells 41 = .ok (.iload_n 3, 1) := by decide +kernel
theorem dX1_valueCells_42 : decode cX1_valueCells 42 = .ok (.iload 4, 2) := by decide +kernel
theorem dX1_valueCells_44 : decode cX1_valueCells 44 = .ok (.invokevirtual 104, 3) := by decide +kernel
theorem dX1_valueCells_47 : decode cX1_valueCells 47 = .ok (.iload_n 2, 1) := by decide +kernel
theorem dX1_valueCells_48 : decode cX1_valueCells 48 = .ok (.iload 4, 2) := by decide +kernel
theorem dX1_valueCells_50 : decode cX1_valueCells 50 = .ok (.iadd, 1) := by decide +kernel
theorem dX1_valueCells_51 : decode cX1_valueCells 51 = .ok (.istore_n 2, 1) := by decide +kernel
theorem dX1_valueCells_52 : decode cX1_valueCells 52 = .ok (.iinc 3 1, 3) := by decide +kernel
theorem dX1_valueCells_55 : decode cX1_valueCells 55 = .ok (.goto (-48), 3) := by decide +kernel
theorem dX1_valueCells_58 : decode cX1_valueCells 58 = .ok (.aload_n 0, 1) := by decide +kernel
theorem dX1_valueCells_59 : decode cX1_valueCells 59 = .ok (.getfield 51, 3) := by decide +kernel
theorem dX1_valueCells_62 : decode cX1_valueCells 62 = .ok (.iload_n 1, 1) := by decide +kernel
theorem dX1_valueCells_63 : decode cX1_valueCells 63 = .ok (.iload_n 2, 1) := by decide +kernel
theorem dX1_valueCells_64 : decode cX1_valueCells 64 = .ok (.invokevirtual 104, 3) := by decide +kernel
theorem dX1_valueCells_67 : decode cX1_valueCells 67 = .ok (.return_, 1) := by decide +kernel
theorem dX1_valueOf_0 : decode cX1_valueOf 0 = .ok (.aload_n 0, 1) := by decide +kernel
theorem dX1_valueOf_1 : decode cX1_valueOf 1 = .ok (.getfield 12, 3) := by decide +kernel
theorem dX1_valueOf_4 : decode cX1_valueOf 4 = .ok (.getfield 107, 3) := by decide +kernel
theorem dX1_valueOf_7 : decode cX1_valueOf 7 = .ok (.iload_n 1, 1) := by decide +kernel
theorem dX1_valueOf_8 : decode cX1_valueOf 8 = .ok (.invokevirtual 58, 3) := by decide +kernel
theorem dX1_valueOf_11 : decode cX1_valueOf 11 = .ok (.lookupswitch 56 #[(1, 25), (3, 37)], 25) := by decide +kernel
theorem dX1_valueOf_36 : decode cX1_valueOf 36 = .ok (.aload_n 0, 1) := by decide +kernel
theorem dX1_valueOf_37 : decode cX1_valueOf 37 = .ok (.getfield 12, 3) := by decide +kernel
theorem dX1_valueOf_40 : decode cX1_valueOf 40 = .ok (.getfield 110, 3) := by decide +kernel
theorem dX1_valueOf_43 : decode cX1_valueOf 43 = .ok (.iload_n 1, 1) := by decide +kernel
theorem dX1_valueOf_44 : decode cX1_valueOf 44 = .ok (.invokevirtual 58, 3) := by decide +kernel
theorem dX1_valueOf_47 : decode cX1_valueOf 47 = .ok (.ireturn, 1) := by decide +kernel
theorem dX1_valueOf_48 : decode cX1_valueOf 48 = .ok (.aload_n 0, 1) := by decide +kernel
theorem dX1_valueOf_49 : decode cX1_valueOf 49 = .ok (.getfield 51, 3) := by decide +kernel
theorem dX1_valueOf_52 : decode cX1_valueOf 52 = .ok (.aload_n 0, 1) := by decide +kernel
theorem dX1_valueOf_53 : decode cX1_valueOf 53 = .ok (.getfield 12, 3) := by decide +kernel
theorem dX1_valueOf_56 : decode cX1_valueOf 56 = .ok (.getfield 110, 3) := by decide +kernel
theorem dX1_valueOf_59 : decode cX1_valueOf 59 = .ok (.iload_n 1, 1) := by decide +kernel
theorem dX1_valueOf_60 : decode cX1_valueOf 60 = .ok (.invokevirtual 58, 3) := by decide +kernel
theorem dX1_valueOf_63 : decode cX1_valueOf 63 = .ok (.invokevirtual 58, 3) := by decide +kernel
theorem dX1_valueOf_66 : decode cX1_valueOf 66 = .ok (.ireturn, 1) := by decide +kernel
theorem dX1_valueOf_67 : decode cX1_valueOf 67 = .ok (.iconst 0, 1) := by decide +kernel
theorem dX1_valueOf_68 : decode cX1_valueOf 68 = .ok (.ireturn, 1) := by decide +kernel
theorem dX1_showNumbers_0 : decode cX1_showNumbers 0 = .ok (.iload_n 1, 1) := by decide +kernel
theorem dX1_showNumbers_1 : decode cX1_showNumbers 1 = .ok (.bipush 25, 2) := by decide +kernel
theorem dX1_showNumbers_3 : decode cX1_showNumbers 3 = .ok (.imul, 1) := by decide +kernel
theorem dX1_showNumbers_4 : decode cX1_showNumbers 4 = .ok (.istore_n 2, 1) := by decide +kernel
theorem dX1_showNumbers_5 : decode cX1_showNumbers 5 = .ok (.iload_n 2, 1) := by decide +kernel
theorem dX1_showNumbers_6 : decode cX1_showNumbers 6 = .ok (.iload_n 1, 1) := by decide +kernel
theorem dX1_showNumbers_7 : decode cX1_showNumbers 7 = .ok (.invokestatic 94, 3) := by decide +kernel
theorem dX1_showNumbers_10 : decode cX1_showNumbers 10 = .ok (.if_icmp .ge 66, 3) := by decide +kernel
theorem dX1_showNumbers_13 : decode cX1_showNumbers 13 = .ok (.aload_n 0, 1) := by decide +kernel
theorem dX1_showNumbers_14 : decode cX1_showNumbers 14 = .ok (.getfield 23, 3) := by decide +kernel
theorem dX1_showNumbers_17 : decode cX1_showNumbers 17 = .ok (.iload_n 2, 1) := by decide +kernel
theorem dX1_showNumbers_18 : decode cX1_showNumbers 18 = .ok (.invokevirtual 58, 3) := by decide +kernel
theorem dX1_showNumbers_21 : decode cX1_showNumbers 21 = .ok (.istore_n 3, 1) := by decide +kernel
theorem dX1_showNumbers_22 : decode cX1_showNumbers 22 = .ok (.aload_n 0, 1) := by decide +kernel
theorem dX1_showNumbers_23 : decode cX1_showNumbers 23 = .ok (.getfield 12, 3) := by decide +kernel
theorem dX1_showNumbers_26 : decode cX1_showNumbers 26 = .ok (.iload_n 2, 1) := by decide +kernel
theorem dX1_showNumbers_27 : decode cX1_showNumbers 27 = .ok (.invokevirtual 97, 3) := by decide +kernel
theorem dX1_showNumbers_30 : decode cX1_showNumbers 30 = .ok (.ifCond .eq 31, 3) := by decide +kernel
theorem dX1_showNumbers_33 : decode cX1_showNumbers 33 = .ok (.aload_n 0, 1) := by decide +kernel
theorem dX1_showNumbers_34 : decode cX1_showNumbers 34 = .ok (.getfield 12, 3) := by decide +kernel
theorem dX1_showNumbers_37 : decode cX1_showNumbers 37 = .ok (.getfield 107, 3) := by decide +kernel
theorem dX1_showNumbers_40 : decode cX1_showNumbers 40 = .ok (.iload_n 2, 1) := by decide +kernel
theorem dX1_showNumbers_41 : decode cX1_showNumbers 41 = .ok (.invokevirtual 58, 3) := by decide +kernel
theorem dX1_showNumbers_44 : decode cX1_showNumbers 44 = .ok (.invokestatic 113, 3) := by decide +kernel
theorem dX1_showNumbers_47 : decode cX1_showNumbers 47 = .ok (.ifCond .eq 14, 3) := by decide +kernel
theorem dX1_showNumbers_50 : decode cX1_showNumbers 50 = .ok (.aload_n 0, 1) := by decide +kernel
theorem dX1_showNumbers_51 : decode cX1_showNumbers 51 = .ok (.iload_n 2, 1) := by decide +kernel
theorem dX1_showNumbers_52 : decode cX1_showNumbers 52 = .ok (.invokevirtual 116, 3) := by decide +kernel
theorem dX1_showNumbers_55 : decode cX1_showNumbers 55 = .ok (.aload_n 0, 1) := by decide +kernel
theorem dX1_showNumbers_56 : decode cX1_showNumbers 56 = .ok (.iload_n 2, 1) := by decide +kernel
theorem dX1_showNumbers_57 : decode cX1_showNumbers 57 = .ok (.invokevirtual 119, 3) := by decide +kernel
theorem dX1_showNumbers_60 : decode cX1_showNumbers 60 = .ok (.istore_n 3, 1) := by decide +kernel
theorem dX1_showNumbers_61 : decode cX1_showNumbers 61 = .ok (.aload_n 0, 1) := by decide +kernel
theorem dX1_showNumbers_62 : decode cX1_showNumbers 62 = .ok (.getfield 27, 3) := by decide +kernel
theorem dX1_showNumbers_65 : decode cX1_showNumbers 65 = .ok (.iload_n 2, 1) := by decide +kernel
theorem dX1_showNumbers_66 : decode cX1_showNumbers 66 = .ok (.iload_n 3, 1) := by decide +kernel
theorem dX1_showNumbers_67 : decode cX1_showNumbers 67 = .ok (.invokevirtual 104, 3) := by decide +kernel
theorem dX1_showNumbers_70 : decode cX1_showNumbers 70 = .ok (.iinc 2 1, 3) := by decide +kernel
theorem dX1_showNumbers_73 : decode cX1_showNumbers 73 = .ok (.goto (-68), 3) := by decide +kernel
theorem dX1_showNumbers_76 : decode cX1_showNumbers 76 = .ok (.return_, 1) := by decide +kernel
theorem dX1_startSum_0 : decode cX1_startSum 0 = .ok (.aload_n 0, 1) := by decide +kernel
theorem dX1_startSum_1 : decode cX1_startSum 1 = .ok (.getfield 30, 3) := by decide +kernel
theorem dX1_startSum_4 : decode cX1_startSum 4 = .ok (.iload_n 1, 1) := by decide +kernel
theorem dX1_startSum_5 : decode cX1_startSum 5 = .ok (.iconst 0, 1) := by decide +kernel
theorem dX1_startSum_6 : decode cX1_startSum 6 = .ok (.invokevirtual 104, 3) := by decide +kernel
theorem dX1_startSum_9 : decode cX1_startSum 9 = .ok (.aload_n 0, 1) := by decide +kernel
theorem dX1_startSum_10 : decode cX1_startSum 10 = .ok (.getfield 12, 3) := by decide +kernel
theorem dX1_startSum_13 : decode cX1_startSum 13 = .ok (.getfield 107, 3) := by decide +kernel
theorem dX1_startSum_16 : decode cX1_startSum 16 = .ok (.iload_n 1, 1) := by decide +kernel
theorem dX1_startSum_17 : decode cX1_startSum 17 = .ok (.invokevirtual 58, 3) := by decide +kernel
theorem dX1_startSum_20 : decode cX1_startSum 20 = .ok (.istore_n 2, 1) := by decide +kernel
theorem dX1_startSum_21 : decode cX1_startSum 21 = .ok (.iconst 0, 1) := by decide +kernel
theorem dX1_startSum_22 : decode cX1_startSum 22 = .ok (.istore_n 3, 1) := by decide +kernel
theorem dX1_startSum_23 : decode cX1_startSum 23 = .ok (.iload_n 1, 1) := by decide +kernel
theorem dX1_startSum_24 : decode cX1_startSum 24 = .ok (.invokestatic 122, 3) := by decide +kernel
theorem dX1_startSum_27 : decode cX1_startSum 27 = .ok (.istore 4, 2) := by decide +kernel
theorem dX1_startSum_29 : decode cX1_startSum 29 = .ok (.iload 4, 2) := by decide +kernel
theorem dX1_startSum_31 : decode cX1_startSum 31 = .ok (.bipush 25, 2) := by decide +kernel
theorem dX1_startSum_33 : decode cX1_startSum 33 = .ok (.imul, 1) := by decide +kernel
theorem dX1_startSum_34 : decode cX1_startSum 34 = .ok (.istore 5, 2) := by decide +kernel
theorem dX1_startSum_36 : decode cX1_startSum 36 = .ok (.iload 5, 2) := by decide +kernel
theorem dX1_startSum_38 : decode cX1_startSum 38 = .ok (.iload 4, 2) := by decide +kernel
theorem dX1_startSum_40 : decode cX1_startSum 40 = .ok (.invokestatic 94, 3) := by decide +kernel
theorem dX1_startSum_43 : decode cX1_startSum 43 = .ok (.if_icmp .ge 67, 3) := by decide +kernel
theorem dX1_startSum_46 : decode cX1_startSum 46 = .ok (.aload_n 0, 1) := by decide +kernel
theorem dX1_startSum_47 : decode cX1_startSum 47 = .ok (.getfield 12, 3) := by decide +kernel
theorem dX1_startSum_50 : decode cX1_startSum 50 = .ok (.iload 5, 2) := by decide +kernel
theorem dX1_startSum_52 : decode cX1_startSum 52 = .ok (.invokevirtual 97, 3) := by decide +kernel
theorem dX1_startSum_55 : decode cX1_startSum 55 = .ok (.ifCond .eq 49, 3) := by decide +kernel
theorem dX1_startSum_58 : decode cX1_startSum 58 = .ok (.aload_n 0, 1) := by decide +kernel
theorem dX1_startSum_59 : decode cX1_startSum 59 = .ok (.getfield 12, 3) := by decide +kernel
theorem dX1_startSum_62 : decode cX1_startSum 62 = .ok (.getfield 107, 3) := by decide +kernel
theorem dX1_startSum_65 : decode cX1_startSum 65 = .ok (.iload 5, 2) := by decide +kernel
theorem dX1_startSum_67 : decode cX1_startSum 67 = .ok (.invokevirtual 58, 3) := by decide +kernel
theorem dX1_startSum_70 : decode cX1_startSum 70 = .ok (.iload_n 2, 1) := by decide +kernel
theorem dX1_startSum_71 : decode cX1_startSum 71 = .ok (.if_icmp .ne 33, 3) := by decide +kernel
theorem dX1_startSum_74 : decode cX1_startSum 74 = .ok (.aload_n 0, 1) := by decide +kernel
theorem dX1_startSum_75 : decode cX1_startSum 75 = .ok (.iload_n 1, 1) := by decide +kernel
theorem dX1_startSum_76 : decode cX1_startSum 76 = .ok (.iload 5, 2) := by decide +kernel
theorem dX1_startSum_78 : decode cX1_startSum 78 = .ok (.invokevirtual 125, 3) := by decide +kernel
theorem dX1_startSum_81 : decode cX1_startSum 81 = .ok (.ifCond .eq 23, 3) := by decide +kernel
theorem dX1_startSum_84 : decode cX1_startSum 84 = .ok (.iload_n 3, 1) := by decide +kernel
theorem dX1_startSum_85 : decode cX1_startSum 85 = .ok (.iload 5, 2) := by decide +kernel
theorem dX1_startSum_87 : decode cX1_startSum 87 = .ok (.iload_n 2, 1) := by decide +kernel
theorem dX1_startSum_88 : decode cX1_startSum 88 = .ok (.iconst 4, 1) := by decide +kernel
theorem dX1_startSum_89 : decode cX1_startSum 89 = .ok (.if_icmp .ne 7, 3) := by decide +kernel
theorem dX1_startSum_92 : decode cX1_startSum 92 = .ok (.iconst 1, 1) := by decide +kernel
theorem dX1_startSum_93 : decode cX1_startSum 93 = .ok (.goto 4, 3) := by decide +kernel
theorem dX1_startSum_96 : decode cX1_startSum 96 = .ok (.iconst 0, 1) := by decide +kernel
theorem dX1_startSum_97 : decode cX1_startSum 97 = .ok (.invokestatic 129, 3) := by decide +kernel
theorem dX1_startSum_100 : decode cX1_startSum 100 = .ok (.invokestatic 133, 3) := by decide +kernel
theorem dX1_startSum_103 : decode cX1_startSum 103 = .ok (.istore_n 3, 1) := by decide +kernel
theorem dX1_startSum_104 : decode cX1_startSum 104 = .ok (.iinc 5 1, 3) := by decide +kernel
theorem dX1_startSum_107 : decode cX1_startSum 107 = .ok (.goto (-71), 3) := by decide +kernel
theorem dX1_startSum_110 : decode cX1_startSum 110 = .ok (.aload_n 0, 1) := by decide +kernel
theorem dX1_startSum_111 : decode cX1_startSum 111 = .ok (.getfield 30, 3) := by decide +kernel
theorem dX1_startSum_114 : decode cX1_startSum 114 = .ok (.iload_n 1, 1) := by decide +kernel
theorem dX1_startSum_115 : decode cX1_startSum 115 = .ok (.iload_n 3, 1) := by decide +kernel
theorem dX1_startSum_116 : decode cX1_startSum 116 = .ok (.invokevirtual 104, 3) := by decide +kernel
theorem dX1_startSum_119 : decode cX1_startSum 119 = .ok (.return_, 1) := by decide +kernel
theorem dX1_sumOf_0 : decode cX1_sumOf 0 = .ok (.iconst 0, 1) := by decide +kernel
theorem dX1_sumOf_1 : decode cX1_sumOf 1 = .ok (.istore_n 2, 1) := by decide +kernel
theorem dX1_sumOf_2 : decode cX1_sumOf 2 = .ok (.iload_n 1, 1) := by decide +kernel
theorem dX1_sumOf_3 : decode cX1_sumOf 3 = .ok (.invokestatic 122, 3) := by decide +kernel
theorem dX1_sumOf_6 : decode cX1_sumOf 6 = .ok (.istore_n 3, 1) := by decide +kernel
theorem dX1_sumOf_7 : decode cX1_sumOf 7 = .ok (.iload_n 3, 1) := by decide +kernel
theorem dX1_sumOf_8 : decode cX1_sumOf 8 = .ok (.bipush 25, 2) := by decide +kernel
theorem dX1_sumOf_10 : decode cX1_sumOf 10 = .ok (.imul, 1) := by decide +kernel
theorem dX1_sumOf_11 : decode cX1_sumOf 11 = .ok (.istore 4, 2) := by decide +kernel
theorem dX1_sumOf_13 : decode cX1_sumOf 13 = .ok (.iload 4, 2) := by decide +kernel
theorem dX1_sumOf_15 : decode cX1_sumOf 15 = .ok (.iload_n 3, 1) := by decide +kernel
theorem dX1_sumOf_16 : decode cX1_sumOf 16 = .ok (.invokestatic 94, 3) := by decide +kernel
theorem dX1_sumOf_19 : decode cX1_sumOf 19 = .ok (.if_icmp .ge 43, 3) := by decide +kernel
theorem dX1_sumOf_22 : decode cX1_sumOf 22 = .ok (.aload_n 0, 1) := by decide +kernel
theorem dX1_sumOf_23 : decode cX1_sumOf 23 = .ok (.getfield 23, 3) := by decide +kernel
theorem dX1_sumOf_26 : decode cX1_sumOf 26 = .ok (.iload 4, 2) := by decide +kernel
theorem dX1_sumOf_28 : decode cX1_sumOf 28 = .ok (.invokevirtual 58, 3) := by decide +kernel
theorem dX1_sumOf_31 : decode cX1_sumOf 31 = .ok (.ifCond .eq 25, 3) := by decide +kernel
theorem dX1_sumOf_34 : decode cX1_sumOf 34 = .ok (.aload_n 0, 1) := by decide +kernel
theorem dX1_sumOf_35 : decode cX1_sumOf 35 = .ok (.iload_n 1, 1) := by decide +kernel
theorem dX1_sumOf_36 : decode cX1_sumOf 36 = .ok (.iload 4, 2) := by decide +kernel
theorem dX1_sumOf_38 : decode cX1_sumOf 38 = .ok (.invokevirtual 125, 3) := by decide +kernel
theorem dX1_sumOf_41 : decode cX1_sumOf 41 = .ok (.ifCond .eq 15, 3) := by decide +kernel
theorem dX1_sumOf_44 : decode cX1_sumOf 44 = .ok (.iload_n 2, 1) := by decide +kernel
theorem dX1_sumOf_45 : decode cX1_sumOf 45 = .ok (.aload_n 0, 1) := by decide +kernel
theorem dX1_sumOf_46 : decode cX1_sumOf 46 = .ok (.getfield 23, 3) := by decide +kernel
theorem dX1_sumOf_49 : decode cX1_sumOf 49 = .ok (.iload 4, 2) := by decide +kernel
theorem dX1_sumOf_51 : decode cX1_sumOf 51 = .ok (.invokevirtual 58, 3) := by decide +kernel
theorem dX1_sumOf_54 : decode cX1_sumOf 54 = .ok (.iadd, 1) := by decide +kernel
theorem dX1_sumOf_55 : decode cX1_sumOf 55 = .ok (.istore_n 2, 1) := by decide +kernel
theorem dX1_sumOf_56 : decode cX1_sumOf 56 = .ok (.iinc 4 1, 3) := by decide +kernel
theorem dX1_sumOf_59 : decode cX1_sumOf 59 = .ok (.goto (-46), 3) := by decide +kernel
theorem dX1_sumOf_62 : decode cX1_sumOf 62 = .ok (.iload_n 2, 1) := by decide +kernel
theorem dX1_sumOf_63 : decode cX1_sumOf 63 = .ok (.ireturn, 1) := by decide +kernel
theorem dX1_isCounted_0 : decode cX1_isCounted 0 = .ok (.aload_n 0, 1) := by decide +kernel
theorem dX1_isCounted_1 : decode cX1_isCounted 1 = .ok (.getfield 12, 3) := by decide +kernel
theorem dX1_isCounted_4 : decode cX1_isCounted 4 = .ok (.getfield 107, 3) := by decide +kernel
theorem dX1_isCounted_7 : decode cX1_isCounted 7 = .ok (.iload_n 1, 1) := by decide +kernel
theorem dX1_isCounted_8 : decode cX1_isCounted 8 = .ok (.invokevirtual 58, 3) := by decide +kernel
theorem dX1_isCounted_11 : decode cX1_isCounted 11 = .ok (.istore_n 3, 1) := by decide +kernel
theorem dX1_isCounted_12 : decode cX1_isCounted 12 = .ok (.iload_n 3, 1) := by decide +kernel
theorem dX1_isCounted_13 : decode cX1_isCounted 13 = .ok (.bipush 6, 2) := by decide +kernel
theorem dX1_isCounted_15 : decode cX1_isCounted 15 = .ok (.if_icmp .ne 5, 3) := by decide +kernel
theorem dX1_isCounted_18 : decode cX1_isCounted 18 = .ok (.iconst 1, 1) := by decide +kernel
theorem dX1_isCounted_19 : decode cX1_isCounted 19 = .ok (.ireturn, 1) := by decide +kernel
theorem dX1_isCounted_20 : decode cX1_isCounted 20 = .ok (.iload_n 3, 1) := by decide +kernel
theorem dX1_isCounted_21 : decode cX1_isCounted 21 = .ok (.iconst 4, 1) := by decide +kernel
theorem dX1_isCounted_22 : decode cX1_isCounted 22 = .ok (.if_icmp .ne 7, 3) := by decide +kernel
theorem dX1_isCounted_25 : decode cX1_isCounted 25 = .ok (.iconst 1, 1) := by decide +kernel
theorem dX1_isCounted_26 : decode cX1_isCounted 26 = .ok (.goto 4, 3) := by decide +kernel
theorem dX1_isCounted_29 : decode cX1_isCounted 29 = .ok (.iconst 0, 1) := by decide +kernel
theorem dX1_isCounted_30 : decode cX1_isCounted 30 = .ok (.istore 4, 2) := by decide +kernel
theorem dX1_isCounted_32 : decode cX1_isCounted 32 = .ok (.iload_n 3, 1) := by decide +kernel
theorem dX1_isCounted_33 : decode cX1_isCounted 33 = .ok (.iconst 4, 1) := by decide +kernel
theorem dX1_isCounted_34 : decode cX1_isCounted 34 = .ok (.if_icmp .ne 7, 3) := by decide +kernel
theorem dX1_isCounted_37 : decode cX1_isCounted 37 = .ok (.iconst 0, 1) := by decide +kernel
theorem dX1_isCounted_38 : decode cX1_isCounted 38 = .ok (.goto 4, 3) := by decide +kernel
theorem dX1_isCounted_41 : decode cX1_isCounted 41 = .ok (.iconst 1, 1) := by decide +kernel
theorem dX1_isCounted_42 : decode cX1_isCounted 42 = .ok (.istore 5, 2) := by decide +kernel
theorem dX1_isCounted_44 : decode cX1_isCounted 44 = .ok (.iload_n 2, 1) := by decide +kernel
theorem dX1_isCounted_45 : decode cX1_isCounted 45 = .ok (.iload 4, 2) := by decide +kernel
theorem dX1_isCounted_47 : decode cX1_isCounted 47 = .ok (.invokestatic 129, 3) := by decide +kernel
theorem dX1_isCounted_50 : decode cX1_isCounted 50 = .ok (.istore 6, 2) := by decide +kernel
theorem dX1_isCounted_52 : decode cX1_isCounted 52 = .ok (.iload_n 1, 1) := by decide +kernel
theorem dX1_isCounted_53 : decode cX1_isCounted 53 = .ok (.iload 5, 2) := by decide +kernel
theorem dX1_isCounted_55 : decode cX1_isCounted 55 = .ok (.invokestatic 129, 3) := by decide +kernel
theorem dX1_isCounted_58 : decode cX1_isCounted 58 = .ok (.istore 7, 2) := by decide +kernel
theorem dX1_isCounted_60 : decode cX1_isCounted 60 = .ok (.iload_n 2, 1) := by decide +kernel
theorem dX1_isCounted_61 : decode cX1_isCounted 61 = .ok (.iload 5, 2) := by decide +kernel
theorem dX1_isCounted_63 : decode cX1_isCounted 63 = .ok (.invokestatic 129, 3) := by decide +kernel
theorem dX1_isCounted_66 : decode cX1_isCounted 66 = .ok (.istore 8, 2) := by decide +kernel
theorem dX1_isCounted_68 : decode cX1_isCounted 68 = .ok (.iload 6, 2) := by decide +kernel
theorem dX1_isCounted_70 : decode cX1_isCounted 70 = .ok (.aload_n 0, 1) := by decide +kernel
theorem dX1_isCounted_71 : decode cX1_isCounted 71 = .ok (.getfield 30, 3) := by decide +kernel
theorem dX1_isCounted_74 : decode cX1_isCounted 74 = .ok (.iload_n 1, 1) := by decide +kernel
theorem dX1_isCounted_75 : decode cX1_isCounted 75 = .ok (.invokevirtual 58, 3) := by decide +kernel
theorem dX1_isCounted_78 : decode cX1_isCounted 78 = .ok (.if_icmp .lt 66, 3) := by decide +kernel
theorem dX1_isCounted_81 : decode cX1_isCounted 81 = .ok (.iload 6, 2) := by decide +kernel
theorem dX1_isCounted_83 : decode cX1_isCounted 83 = .ok (.iload_n 1, 1) := by decide +kernel
theorem dX1_isCounted_84 : decode cX1_isCounted 84 = .ok (.iload 4, 2) := by decide +kernel
theorem dX1_isCounted_86 : decode cX1_isCounted 86 = .ok (.invokestatic 129, 3) := by decide +kernel
theorem dX1_isCounted_89 : decode cX1_isCounted 89 = .ok (.if_icmp .ge 55, 3) := by decide +kernel
theorem dX1_isCounted_92 : decode cX1_isCounted 92 = .ok (.iload 8, 2) := by decide +kernel
theorem dX1_isCounted_94 : decode cX1_isCounted 94 = .ok (.iload 7, 2) := by decide +kernel
theorem dX1_isCounted_96 : decode cX1_isCounted 96 = .ok (.aload_n 0, 1) := by decide +kernel
theorem dX1_isCounted_97 : decode cX1_isCounted 97 = .ok (.getfield 12, 3) := by decide +kernel
theorem dX1_isCounted_100 : decode cX1_isCounted 100 = .ok (.getfield 138, 3) := by decide +kernel
theorem dX1_isCounted_103 : decode cX1_isCounted 103 = .ok (.iload_n 1, 1) := by decide +kernel
theorem dX1_isCounted_104 : decode cX1_isCounted 104 = .ok (.iconst 2, 1) := by decide +kernel
theorem dX1_isCounted_105 : decode cX1_isCounted 105 = .ok (.imul, 1) := by decide +kernel
theorem dX1_isCounted_106 : decode cX1_isCounted 106 = .ok (.iload 5, 2) := by decide +kernel
theorem dX1_isCounted_108 : decode cX1_isCounted 108 = .ok (.iadd, 1) := by decide +kernel
theorem dX1_isCounted_109 : decode cX1_isCounted 109 = .ok (.invokevirtual 58, 3) := by decide +kernel
theorem dX1_isCounted_112 : decode cX1_isCounted 112 = .ok (.iadd, 1) := by decide +kernel
theorem dX1_isCounted_113 : decode cX1_isCounted 113 = .ok (.if_icmp .ge 31, 3) := by decide +kernel
theorem dX1_isCounted_116 : decode cX1_isCounted 116 = .ok (.iload 7, 2) := by decide +kernel
theorem dX1_isCounted_118 : decode cX1_isCounted 118 = .ok (.iload 8, 2) := by decide +kernel
theorem dX1_isCounted_120 : decode cX1_isCounted 120 = .ok (.aload_n 0, 1) := by decide +kernel
theorem dX1_isCounted_121 : decode cX1_isCounted 121 = .ok (.getfield 12, 3) := by decide +kernel
theorem dX1_isCounted_124 : decode cX1_isCounted 124 = .ok (.getfield 138, 3) := by decide +kernel
theorem dX1_isCounted_127 : decode cX1_isCounted 127 = .ok (.iload_n 2, 1) := by decide +kernel
theorem dX1_isCounted_128 : decode cX1_isCounted 128 = .ok (.iconst 2, 1) := by decide +kernel
theorem dX1_isCounted_129 : decode cX1_isCounted 129 = .ok (.imul, 1) := by decide +kernel
theorem dX1_isCounted_130 : decode cX1_isCounted 130 = .ok (.iload 5, 2) := by decide +kernel
theorem dX1_isCounted_132 : decode cX1_isCounted 132 = .ok (.iadd, 1) := by decide +kernel
theorem dX1_isCounted_133 : decode cX1_isCounted 133 = .ok (.invokevirtual 58, 3) := by decide +kernel
theorem dX1_isCounted_136 : decode cX1_isCounted 136 = .ok (.iadd, 1) := by decide +kernel
theorem dX1_isCounted_137 : decode cX1_isCounted 137 = .ok (.if_icmp .ge 7, 3) := by decide +kernel
theorem dX1_isCounted_140 : decode cX1_isCounted 140 = .ok (.iconst 1, 1) := by decide +kernel
theorem dX1_isCounted_141 : decode cX1_isCounted 141 = .ok (.goto 4, 3) := by decide +kernel
theorem dX1_isCounted_144 : decode cX1_isCounted 144 = .ok (.iconst 0, 1) := by decide +kernel
theorem dX1_isCounted_145 : decode cX1_isCounted 145 = .ok (.ireturn, 1) := by decide +kernel
theorem dX1_countSumsOf_0 : decode cX1_countSumsOf 0 = .ok (.iconst 0, 1) := by decide +kernel
theorem dX1_countSumsOf_1 : decode cX1_countSumsOf 1 = .ok (.istore_n 2, 1) := by decide +kernel
theorem dX1_countSumsOf_2 : decode cX1_countSumsOf 2 = .ok (.iload_n 1, 1) := by decide +kernel
theorem dX1_countSumsOf_3 : decode cX1_countSumsOf 3 = .ok (.invokestatic 122, 3) := by decide +kernel
theorem dX1_countSumsOf_6 : decode cX1_countSumsOf 6 = .ok (.istore_n 3, 1) := by decide +kernel
theorem dX1_countSumsOf_7 : decode cX1_countSumsOf 7 = .ok (.iload_n 3, 1) := by decide +kernel
theorem dX1_countSumsOf_8 : decode cX1_countSumsOf 8 = .ok (.bipush 25, 2) := by decide +kernel
theorem dX1_countSumsOf_10 : decode cX1_countSumsOf 10 = .ok (.imul, 1) := by decide +kernel
theorem dX1_countSumsOf_11 : decode cX1_countSumsOf 11 = .ok (.istore 4, 2) := by decide +kernel
theorem dX1_countSumsOf_13 : decode cX1_countSumsOf 13 = .ok (.iload 4, 2) := by decide +kernel
theorem dX1_countSumsOf_15 : decode cX1_countSumsOf 15 = .ok (.iload_n 3, 1) := by decide +kernel
theorem dX1_countSumsOf_16 : decode cX1_countSumsOf 16 = .ok (.invokestatic 94, 3) := by decide +kernel
theorem dX1_countSumsOf_19 : decode cX1_countSumsOf 19 = .ok (.if_icmp .ge 52, 3) := by decide +kernel
theorem dX1_countSumsOf_22 : decode cX1_countSumsOf 22 = .ok (.aload_n 0, 1) := by decide +kernel
theorem dX1_countSumsOf_23 : decode cX1_countSumsOf 23 = .ok (.getfield 12, 3) := by decide +kernel
theorem dX1_countSumsOf_26 : decode cX1_countSumsOf 26 = .ok (.iload 4, 2) := by decide +kernel
theorem dX1_countSumsOf_28 : decode cX1_countSumsOf 28 = .ok (.invokevirtual 97, 3) := by decide +kernel
theorem dX1_countSumsOf_31 : decode cX1_countSumsOf 31 = .ok (.ifCond .eq 34, 3) := by decide +kernel
theorem dX1_countSumsOf_34 : decode cX1_countSumsOf 34 = .ok (.aload_n 0, 1) := by decide +kernel
theorem dX1_countSumsOf_35 : decode cX1_countSumsOf 35 = .ok (.getfield 12, 3) := by decide +kernel
theorem dX1_countSumsOf_38 : decode cX1_countSumsOf 38 = .ok (.getfield 107, 3) := by decide +kernel
theorem dX1_countSumsOf_41 : decode cX1_countSumsOf 41 = .ok (.iload 4, 2) := by decide +kernel
theorem dX1_countSumsOf_43 : decode cX1_countSumsOf 43 = .ok (.invokevirtual 58, 3) := by decide +kernel
theorem dX1_countSumsOf_46 : decode cX1_countSumsOf 46 = .ok (.invokestatic 113, 3) := by decide +kernel
theorem dX1_countSumsOf_49 : decode cX1_countSumsOf 49 = .ok (.ifCond .eq 16, 3) := by decide +kernel
theorem dX1_countSumsOf_52 : decode cX1_countSumsOf 52 = .ok (.aload_n 0, 1) := by decide +kernel
theorem dX1_countSumsOf_53 : decode cX1_countSumsOf 53 = .ok (.iload 4, 2) := by decide +kernel
theorem dX1_countSumsOf_55 : decode cX1_countSumsOf 55 = .ok (.iload_n 1, 1) := by decide +kernel
theorem dX1_countSumsOf_56 : decode cX1_countSumsOf 56 = .ok (.invokevirtual 125, 3) := by decide +kernel
theorem dX1_countSumsOf_59 : decode cX1_countSumsOf 59 = .ok (.ifCond .eq 6, 3) := by decide +kernel
theorem dX1_countSumsOf_62 : decode cX1_countSumsOf 62 = .ok (.iinc 2 1, 3) := by decide +kernel
theorem dX1_countSumsOf_65 : decode cX1_countSumsOf 65 = .ok (.iinc 4 1, 3) := by decide +kernel
theorem dX1_countSumsOf_68 : decode cX1_countSumsOf 68 = .ok (.goto (-55), 3) := by decide +kernel
theorem dX1_countSumsOf_71 : decode cX1_countSumsOf 71 = .ok (.iload_n 2, 1) := by decide +kernel
theorem dX1_countSumsOf_72 : decode cX1_countSumsOf 72 = .ok (.ireturn, 1) := by decide +kernel
theorem dX1_ruleCells_0 : decode cX1_ruleCells 0 = .ok (.iload_n 1, 1) := by decide +kernel
theorem dX1_ruleCells_1 : decode cX1_ruleCells 1 = .ok (.bipush 25, 2) := by decide +kernel
theorem dX1_ruleCells_3 : decode cX1_ruleCells 3 = .ok (.imul, 1) := by decide +kernel
theorem dX1_ruleCells_4 : decode cX1_ruleCells 4 = .ok (.istore_n 2, 1) := by decide +kernel
theorem dX1_ruleCells_5 : decode cX1_ruleCells 5 = .ok (.iload_n 2, 1) := by decide +kernel
theorem dX1_ruleCells_6 : decode cX1_ruleCells 6 = .ok (.iload_n 1, 1) := by decide +kernel
theorem dX1_ruleCells_7 : decode cX1_ruleCells 7 = .ok (.invokestatic 94, 3) := by decide +kernel
theorem dX1_ruleCells_10 : decode cX1_ruleCells 10 = .ok (.if_icmp .ge 100, 3) := by decide +kernel
theorem dX1_ruleCells_13 : decode cX1_ruleCells 13 = .ok (.aload_n 0, 1) := by decide +kernel
theorem dX1_ruleCells_14 : decode cX1_ruleCells 14 = .ok (.getfield 12, 3) := by decide +kernel
theorem dX1_ruleCells_17 : decode cX1_ruleCells 17 = .ok (.iload_n 2, 1) := by decide +kernel
theorem dX1_ruleCells_18 : decode cX1_ruleCells 18 = .ok (.invokevirtual 97, 3) := by decide +kernel
theorem dX1_ruleCells_21 : decode cX1_ruleCells 21 = .ok (.ifCond .eq 14, 3) := by decide +kernel
theorem dX1_ruleCells_24 : decode cX1_ruleCells 24 = .ok (.aload_n 0, 1) := by decide +kernel
theorem dX1_ruleCells_25 : decode cX1_ruleCells 25 = .ok (.getfield 12, 3) := by decide +kernel
theorem dX1_ruleCells_28 : decode cX1_ruleCells 28 = .ok (.iload_n 2, 1) := by decide +kernel
theorem dX1_ruleCells_29 : decode cX1_ruleCells 29 = .ok (.invokevirtual 141, 3) := by decide +kernel
theorem dX1_ruleCells_32 : decode cX1_ruleCells 32 = .ok (.goto 4, 3) := by decide +kernel
theorem dX1_ruleCells_35 : decode cX1_ruleCells 35 = .ok (.iconst (-1), 1) := by decide +kernel
theorem dX1_ruleCells_36 : decode cX1_ruleCells 36 = .ok (.istore_n 3, 1) := by decide +kernel
theorem dX1_ruleCells_37 : decode cX1_ruleCells 37 = .ok (.iconst 0, 1) := by decide +kernel
theorem dX1_ruleCells_38 : decode cX1_ruleCells 38 = .ok (.istore 4, 2) := by decide +kernel
theorem dX1_ruleCells_40 : decode cX1_ruleCells 40 = .ok (.iload 4, 2) := by decide +kernel
theorem dX1_ruleCells_42 : decode cX1_ruleCells 42 = .ok (.iconst 4, 1) := by decide +kernel
theorem dX1_ruleCells_43 : decode cX1_ruleCells 43 = .ok (.if_icmp .ge 61, 3) := by decide +kernel
theorem dX1_ruleCells_46 : decode cX1_ruleCells 46 = .ok (.iload_n 2, 1) := by decide +kernel
theorem dX1_ruleCells_47 : decode cX1_ruleCells 47 = .ok (.iconst 4, 1) := by decide +kernel
theorem dX1_ruleCells_48 : decode cX1_ruleCells 48 = .ok (.imul, 1) := by decide +kernel
theorem dX1_ruleCells_49 : decode cX1_ruleCells 49 = .ok (.iload 4, 2) := by decide +kernel
theorem dX1_ruleCells_51 : decode cX1_ruleCells 51 = .ok (.iadd, 1) := by decide +kernel
theorem dX1_ruleCells_52 : decode cX1_ruleCells 52 = .ok (.istore 5, 2) := by decide +kernel
theorem dX1_ruleCells_54 : decode cX1_ruleCells 54 = .ok (.iload_n 3, 1) := by decide +kernel
theorem dX1_ruleCells_55 : decode cX1_ruleCells 55 = .ok (.iconst (-1), 1) := by decide +kernel
theorem dX1_ruleCells_56 : decode cX1_ruleCells 56 = .ok (.if_icmp .ne 7, 3) := by decide +kernel
theorem dX1_ruleCells_59 : decode cX1_ruleCells 59 = .ok (.iconst 0, 1) := by decide +kernel
theorem dX1_ruleCells_60 : decode cX1_ruleCells 60 = .ok (.goto 10, 3) := by decide +kernel
theorem dX1_ruleCells_63 : decode cX1_ruleCells 63 = .ok (.aload_n 0, 1) := by decide +kernel
theorem dX1_ruleCells_64 : decode cX1_ruleCells 64 = .ok (.iload_n 3, 1) := by decide +kernel
theorem dX1_ruleCells_65 : decode cX1_ruleCells 65 = .ok (.iload 4, 2) := by decide +kernel
theorem dX1_ruleCells_67 : decode cX1_ruleCells 67 = .ok (.invokevirtual 144, 3) := by decide +kernel
theorem dX1_ruleCells_70 : decode cX1_ruleCells 70 = .ok (.istore 6, 2) := by decide +kernel
theorem dX1_ruleCells_72 : decode cX1_ruleCells 72 = .ok (.aload_n 0, 1) := by decide +kernel
theorem dX1_ruleCells_73 : decode cX1_ruleCells 73 = .ok (.getfield 36, 3) := by decide +kernel
theorem dX1_ruleCells_76 : decode cX1_ruleCells 76 = .ok (.iload 5, 2) := by decide +kernel
theorem dX1_ruleCells_78 : decode cX1_ruleCells 78 = .ok (.aload_n 0, 1) := by decide +kernel
theorem dX1_ruleCells_79 : decode cX1_ruleCells 79 = .ok (.getfield 12, 3) := by decide +kernel
theorem dX1_ruleCells_82 : decode cX1_ruleCells 82 = .ok (.getfield 147, 3) := by decide +kernel
theorem dX1_ruleCells_85 : decode cX1_ruleCells 85 = .ok (.iload 5, 2) := by decide +kernel
theorem dX1_ruleCells_87 : decode cX1_ruleCells 87 = .ok (.invokevirtual 58, 3) := by decide +kernel
theorem dX1_ruleCells_90 : decode cX1_ruleCells 90 = .ok (.iload 6, 2) := by decide +kernel
theorem dX1_ruleCells_92 : decode cX1_ruleCells 92 = .ok (.invokestatic 133, 3) := by decide +kernel
theorem dX1_ruleCells_95 : decode cX1_ruleCells 95 = .ok (.invokevirtual 104, 3) := by decide +kernel
theorem dX1_ruleCells_98 : decode cX1_ruleCells 98 = .ok (.iinc 4 1, 3) := by decide +kernel
theorem dX1_ruleCells_101 : decode cX1_ruleCells 101 = .ok (.goto (-61), 3) := by decide +kernel
theorem dX1_ruleCells_104 : decode cX1_ruleCells 104 = .ok (.iinc 2 1, 3) := by decide +kernel
theorem dX1_ruleCells_107 : decode cX1_ruleCells 107 = .ok (.goto (-102), 3) := by decide +kernel
theorem dX1_ruleCells_110 : decode cX1_ruleCells 110 = .ok (.return_, 1) := by decide +kernel
theorem dX1_borderRule_0 : decode cX1_borderRule 0 = .ok (.iload_n 2, 1) := by decide +kernel
theorem dX1_borderRule_1 : decode cX1_borderRule 1 = .ok (.ifCond .eq 8, 3) := by decide +kernel
theorem dX1_borderRule_4 : decode cX1_borderRule 4 = .ok (.iload_n 2, 1) := by decide +kernel
theorem dX1_borderRule_5 : decode cX1_borderRule 5 = .ok (.iconst 2, 1) := by decide +kernel
theorem dX1_borderRule_6 : decode cX1_borderRule 6 = .ok (.if_icmp .ne 7, 3) := by decide +kernel
theorem dX1_borderRule_9 : decode cX1_borderRule 9 = .ok (.iconst 1, 1) := by decide +kernel
theorem dX1_borderRule_10 : decode cX1_borderRule 10 = .ok (.goto 4, 3) := by decide +kernel
theorem dX1_borderRule_13 : decode cX1_borderRule 13 = .ok (.iconst 0, 1) := by decide +kernel
theorem dX1_borderRule_14 : decode cX1_borderRule 14 = .ok (.istore_n 3, 1) := by decide +kernel
theorem dX1_borderRule_15 : decode cX1_borderRule 15 = .ok (.iload_n 2, 1) := by decide +kernel
theorem dX1_borderRule_16 : decode cX1_borderRule 16 = .ok (.ifCond .eq 8, 3) := by decide +kernel
theorem dX1_borderRule_19 : decode cX1_borderRule 19 = .ok (.iload_n 2, 1) := by decide +kernel
theorem dX1_borderRule_20 : decode cX1_borderRule 20 = .ok (.iconst 3, 1) := by decide +kernel
theorem dX1_borderRule_21 : decode cX1_borderRule 21 = .ok (.if_icmp .ne 7, 3) := by decide +kernel
theorem dX1_borderRule_24 : decode cX1_borderRule 24 = .ok (.iconst 0, 1) := by decide +kernel
theorem dX1_borderRule_25 : decode cX1_borderRule 25 = .ok (.goto 14, 3) := by decide +kernel
theorem dX1_borderRule_28 : decode cX1_borderRule 28 = .ok (.aload_n 0, 1) := by decide +kernel
theorem dX1_borderRule_29 : decode cX1_borderRule 29 = .ok (.getfield 12, 3) := by decide +kernel
theorem dX1_borderRule_32 : decode cX1_borderRule 32 = .ok (.iload_n 1, 1) := by decide +kernel
theorem dX1_borderRule_33 : decode cX1_borderRule 33 = .ok (.iload_n 3, 1) := by decide +kernel
theorem dX1_borderRule_34 : decode cX1_borderRule 34 = .ok (.invokevirtual 148, 3) := by decide +kernel
theorem dX1_borderRule_37 : decode cX1_borderRule 37 = .ok (.iconst 1, 1) := by decide +kernel
theorem dX1_borderRule_38 : decode cX1_borderRule 38 = .ok (.isub, 1) := by decide +kernel
theorem dX1_borderRule_39 : decode cX1_borderRule 39 = .ok (.istore 4, 2) := by decide +kernel
theorem dX1_borderRule_41 : decode cX1_borderRule 41 = .ok (.aload_n 0, 1) := by decide +kernel
theorem dX1_borderRule_42 : decode cX1_borderRule 42 = .ok (.iload_n 1, 1) := by decide +kernel
theorem dX1_borderRule_43 : decode cX1_borderRule 43 = .ok (.iload_n 3, 1) := by decide +kernel
theorem dX1_borderRule_44 : decode cX1_borderRule 44 = .ok (.iload 4, 2) := by decide +kernel
theorem dX1_borderRule_46 : decode cX1_borderRule 46 = .ok (.iload_n 2, 1) := by decide +kernel
theorem dX1_borderRule_47 : decode cX1_borderRule 47 = .ok (.invokevirtual 151, 3) := by decide +kernel
theorem dX1_borderRule_50 : decode cX1_borderRule 50 = .ok (.ireturn, 1) := by decide +kernel
theorem dX1_greatestRule_0 : decode cX1_greatestRule 0 = .ok (.iconst 0, 1) := by decide +kernel
theorem dX1_greatestRule_1 : decode cX1_greatestRule 1 = .ok (.istore 5, 2) := by decide +kernel
theorem dX1_greatestRule_3 : decode cX1_greatestRule 3 = .ok (.iload_n 1, 1) := by decide +kernel
theorem dX1_greatestRule_4 : decode cX1_greatestRule 4 = .ok (.bipush 25, 2) := by decide +kernel
theorem dX1_greatestRule_6 : decode cX1_greatestRule 6 = .ok (.imul, 1) := by decide +kernel
theorem dX1_greatestRule_7 : decode cX1_greatestRule 7 = .ok (.istore 6, 2) := by decide +kernel
theorem dX1_greatestRule_9 : decode cX1_greatestRule 9 = .ok (.iload 6, 2) := by decide +kernel
theorem dX1_greatestRule_11 : decode cX1_greatestRule 11 = .ok (.iload_n 1, 1) := by decide +kernel
theorem dX1_greatestRule_12 : decode cX1_greatestRule 12 = .ok (.invokestatic 94, 3) := by decide +kernel
theorem dX1_greatestRule_15 : decode cX1_greatestRule 15 = .ok (.if_icmp .ge 40, 3) := by decide +kernel
theorem dX1_greatestRule_18 : decode cX1_greatestRule 18 = .ok (.iload 6, 2) := by decide +kernel
theorem dX1_greatestRule_20 : decode cX1_greatestRule 20 = .ok (.iload_n 2, 1) := by decide +kernel
theorem dX1_greatestRule_21 : decode cX1_greatestRule 21 = .ok (.invokestatic 129, 3) := by decide +kernel
theorem dX1_greatestRule_24 : decode cX1_greatestRule 24 = .ok (.iload_n 3, 1) := by decide +kernel
theorem dX1_greatestRule_25 : decode cX1_greatestRule 25 = .ok (.if_icmp .ne 24, 3) := by decide +kernel
theorem dX1_greatestRule_28 : decode cX1_greatestRule 28 = .ok (.iload 5, 2) := by decide +kernel
theorem dX1_greatestRule_30 : decode cX1_greatestRule 30 = .ok (.aload_n 0, 1) := by decide +kernel
theorem dX1_greatestRule_31 : decode cX1_greatestRule 31 = .ok (.getfield 39, 3) := by decide +kernel
theorem dX1_greatestRule_34 : decode cX1_greatestRule 34 = .ok (.iload 6, 2) := by decide +kernel
theorem dX1_greatestRule_36 : decode cX1_greatestRule 36 = .ok (.iconst 4, 1) := by decide +kernel
theorem dX1_greatestRule_37 : decode cX1_greatestRule 37 = .ok (.imul, 1) := by decide +kernel
theorem dX1_greatestRule_38 : decode cX1_greatestRule 38 = .ok (.iload 4, 2) := by decide +kernel
theorem dX1_greatestRule_40 : decode cX1_greatestRule 40 = .ok (.iadd, 1) := by decide +kernel
theorem dX1_greatestRule_41 : decode cX1_greatestRule 41 = .ok (.invokevirtual 58, 3) := by decide +kernel
theorem dX1_greatestRule_44 : decode cX1_greatestRule 44 = .ok (.invokestatic 133, 3) := by decide +kernel
theorem dX1_greatestRule_47 : decode cX1_greatestRule 47 = .ok (.istore 5, 2) := by decide +kernel
theorem dX1_greatestRule_49 : decode cX1_greatestRule 49 = .ok (.iinc 6 1, 3) := by decide +kernel
theorem dX1_greatestRule_52 : decode cX1_greatestRule 52 = .ok (.goto (-43), 3) := by decide +kernel
theorem dX1_greatestRule_55 : decode cX1_greatestRule 55 = .ok (.iload 5, 2) := by decide +kernel
theorem dX1_greatestRule_57 : decode cX1_greatestRule 57 = .ok (.ireturn, 1) := by decide +kernel
theorem dX1_ruleEdges_0 : decode cX1_ruleEdges 0 = .ok (.iload_n 1, 1) := by decide +kernel
theorem dX1_ruleEdges_1 : decode cX1_ruleEdges 1 = .ok (.bipush 25, 2) := by decide +kernel
theorem dX1_ruleEdges_3 : decode cX1_ruleEdges 3 = .ok (.imul, 1) := by decide +kernel
theorem dX1_ruleEdges_4 : decode cX1_ruleEdges 4 = .ok (.istore_n 2, 1) := by decide +kernel
theorem dX1_ruleEdges_5 : decode cX1_ruleEdges 5 = .ok (.iload_n 2, 1) := by decide +kernel
theorem dX1_ruleEdges_6 : decode cX1_ruleEdges 6 = .ok (.iload_n 1, 1) := by decide +kernel
theorem dX1_ruleEdges_7 : decode cX1_ruleEdges 7 = .ok (.invokestatic 94, 3) := by decide +kernel
theorem dX1_ruleEdges_10 : decode cX1_ruleEdges 10 = .ok (.if_icmp .ge 40, 3) := by decide +kernel
theorem dX1_ruleEdges_13 : decode cX1_ruleEdges 13 = .ok (.iconst 0, 1) := by decide +kernel
theorem dX1_ruleEdges_14 : decode cX1_ruleEdges 14 = .ok (.istore_n 3, 1) := by decide +kernel
theorem dX1_ruleEdges_15 : decode cX1_ruleEdges 15 = .ok (.iload_n 3, 1) := by decide +kernel
theorem dX1_ruleEdges_16 : decode cX1_ruleEdges 16 = .ok (.iconst 4, 1) := by decide +kernel
theorem dX1_ruleEdges_17 : decode cX1_ruleEdges 17 = .ok (.if_icmp .ge 27, 3) := by decide +kernel
theorem dX1_ruleEdges_20 : decode cX1_ruleEdges 20 = .ok (.aload_n 0, 1) := by decide +kernel
theorem dX1_ruleEdges_21 : decode cX1_ruleEdges 21 = .ok (.getfield 39, 3) := by decide +kernel
theorem dX1_ruleEdges_24 : decode cX1_ruleEdges 24 = .ok (.iload_n 2, 1) := by decide +kernel
theorem dX1_ruleEdges_25 : decode cX1_ruleEdges 25 = .ok (.iconst 4, 1) := by decide +kernel
theorem dX1_ruleEdges_26 : decode cX1_ruleEdges 26 = .ok (.imul, 1) := by decide +kernel
theorem dX1_ruleEdges_27 : decode cX1_ruleEdges 27 = .ok (.iload_n 3, 1) := by decide +kernel
theorem dX1_ruleEdges_28 : decode cX1_ruleEdges 28 = .ok (.iadd, 1) := by decide +kernel
theorem dX1_ruleEdges_29 : decode cX1_ruleEdges 29 = .ok (.aload_n 0, 1) := by decide +kernel
theorem dX1_ruleEdges_30 : decode cX1_ruleEdges 30 = .ok (.iload_n 2, 1) := by decide +kernel
theorem dX1_ruleEdges_31 : decode cX1_ruleEdges 31 = .ok (.iload_n 3, 1) := by decide +kernel
theorem dX1_ruleEdges_32 : decode cX1_ruleEdges 32 = .ok (.invokevirtual 155, 3) := by decide +kernel
theorem dX1_ruleEdges_35 : decode cX1_ruleEdges 35 = .ok (.invokevirtual 104, 3) := by decide +kernel
theorem dX1_ruleEdges_38 : decode cX1_ruleEdges 38 = .ok (.iinc 3 1, 3) := by decide +kernel
theorem dX1_ruleEdges_41 : decode cX1_ruleEdges 41 = .ok (.goto (-26), 3) := by decide +kernel
theorem dX1_ruleEdges_44 : decode cX1_ruleEdges 44 = .ok (.iinc 2 1, 3) := by decide +kernel
theorem dX1_ruleEdges_47 : decode cX1_ruleEdges 47 = .ok (.goto (-42), 3) := by decide +kernel
theorem dX1_ruleEdges_50 : decode cX1_ruleEdges 50 = .ok (.return_, 1) := by decide +kernel
theorem dX1_edgeRule_0 : decode cX1_edgeRule 0 = .ok (.aload_n 0, 1) := by decide +kernel
theorem dX1_edgeRule_1 : decode cX1_edgeRule 1 = .ok (.getfield 12, 3) := by decide +kernel
theorem dX1_edgeRule_4 : decode cX1_edgeRule 4 = .ok (.getfield 158, 3) := by decide +kernel
theorem dX1_edgeRule_7 : decode cX1_edgeRule 7 = .ok (.iload_n 1, 1) := by decide +kernel
theorem dX1_edgeRule_8 : decode cX1_edgeRule 8 = .ok (.invokevirtual 58, 3) := by decide +kernel
theorem dX1_edgeRule_11 : decode cX1_edgeRule 11 = .ok (.istore_n 3, 1) := by decide +kernel
theorem dX1_edgeRule_12 : decode cX1_edgeRule 12 = .ok (.iload_n 3, 1) := by decide +kernel
theorem dX1_edgeRule_13 : decode cX1_edgeRule 13 = .ok (.iconst (-1), 1) := by decide +kernel
theorem dX1_edgeRule_14 : decode cX1_edgeRule 14 = .ok (.if_icmp .ne 5, 3) := by decide +kernel
theorem dX1_edgeRule_17 : decode cX1_edgeRule 17 = .ok (.iconst 0, 1) := by decide +kernel
theorem dX1_edgeRule_18 : decode cX1_edgeRule 18 = .ok (.ireturn, 1) := by decide +kernel
theorem dX1_edgeRule_19 : decode cX1_edgeRule 19 = .ok (.aload_n 0, 1) := by decide +kernel
theorem dX1_edgeRule_20 : decode cX1_edgeRule 20 = .ok (.getfield 36, 3) := by decide +kernel
theorem dX1_edgeRule_23 : decode cX1_edgeRule 23 = .ok (.iload_n 3, 1) := by decide +kernel
theorem dX1_edgeRule_24 : decode cX1_edgeRule 24 = .ok (.iconst 4, 1) := by decide +kernel
theorem dX1_edgeRule_25 : decode cX1_edgeRule 25 = .ok (.imul, 1) := by decide +kernel
theorem dX1_edgeRule_26 : decode cX1_edgeRule 26 = .ok (.iload_n 2, 1) := by decide +kernel
theorem dX1_edgeRule_27 : decode cX1_edgeRule 27 = .ok (.iadd, 1) := by decide +kernel
theorem dX1_edgeRule_28 : decode cX1_edgeRule 28 = .ok (.invokevirtual 58, 3) := by decide +kernel
theorem dX1_edgeRule_31 : decode cX1_edgeRule 31 = .ok (.istore 4, 2) := by decide +kernel
theorem dX1_edgeRule_33 : decode cX1_edgeRule 33 = .ok (.aload_n 0, 1) := by decide +kernel
theorem dX1_edgeRule_34 : decode cX1_edgeRule 34 = .ok (.getfield 12, 3) := by decide +kernel
theorem dX1_edgeRule_37 : decode cX1_edgeRule 37 = .ok (.iload_n 1, 1) := by decide +kernel
theorem dX1_edgeRule_38 : decode cX1_edgeRule 38 = .ok (.iload_n 2, 1) := by decide +kernel
theorem dX1_edgeRule_39 : decode cX1_edgeRule 39 = .ok (.invokevirtual 161, 3) := by decide +kernel
theorem dX1_edgeRule_42 : decode cX1_edgeRule 42 = .ok (.istore 5, 2) := by decide +kernel
theorem dX1_edgeRule_44 : decode cX1_edgeRule 44 = .ok (.iload 5, 2) := by decide +kernel
theorem dX1_edgeRule_46 : decode cX1_edgeRule 46 = .ok (.iconst (-1), 1) := by decide +kernel
theorem dX1_edgeRule_47 : decode cX1_edgeRule 47 = .ok (.if_icmp .ne 6, 3) := by decide +kernel
theorem dX1_edgeRule_50 : decode cX1_edgeRule 50 = .ok (.iload 4, 2) := by decide +kernel
theorem dX1_edgeRule_52 : decode cX1_edgeRule 52 = .ok (.ireturn, 1) := by decide +kernel
theorem dX1_edgeRule_53 : decode cX1_edgeRule 53 = .ok (.iload_n 2, 1) := by decide +kernel
theorem dX1_edgeRule_54 : decode cX1_edgeRule 54 = .ok (.iconst 2, 1) := by decide +kernel
theorem dX1_edgeRule_55 : decode cX1_edgeRule 55 = .ok (.iadd, 1) := by decide +kernel
theorem dX1_edgeRule_56 : decode cX1_edgeRule 56 = .ok (.iconst 4, 1) := by decide +kernel
theorem dX1_edgeRule_57 : decode cX1_edgeRule 57 = .ok (.irem, 1) := by decide +kernel
theorem dX1_edgeRule_58 : decode cX1_edgeRule 58 = .ok (.istore 6, 2) := by decide +kernel
theorem dX1_edgeRule_60 : decode cX1_edgeRule 60 = .ok (.iload 5, 2) := by decide +kernel
theorem dX1_edgeRule_62 : decode cX1_edgeRule 62 = .ok (.iload_n 3, 1) := by decide +kernel
theorem dX1_edgeRule_63 : decode cX1_edgeRule 63 = .ok (.if_icmp .ne 7, 3) := by decide +kernel
theorem dX1_edgeRule_66 : decode cX1_edgeRule 66 = .ok (.iconst 0, 1) := by decide +kernel
theorem dX1_edgeRule_67 : decode cX1_edgeRule 67 = .ok (.goto 22, 3) := by decide +kernel
theorem dX1_edgeRule_70 : decode cX1_edgeRule 70 = .ok (.iload 4, 2) := by decide +kernel
theorem dX1_edgeRule_72 : decode cX1_edgeRule 72 = .ok (.aload_n 0, 1) := by decide +kernel
theorem dX1_edgeRule_73 : decode cX1_edgeRule 73 = .ok (.getfield 36, 3) := by decide +kernel
theorem dX1_edgeRule_76 : decode cX1_edgeRule 76 = .ok (.iload 5, 2) := by decide +kernel
theorem dX1_edgeRule_78 : decode cX1_edgeRule 78 = .ok (.iconst 4, 1) := by decide +kernel
theorem dX1_edgeRule_79 : decode cX1_edgeRule 79 = .ok (.imul, 1) := by decide +kernel
theorem dX1_edgeRule_80 : decode cX1_edgeRule 80 = .ok (.iload 6, 2) := by decide +kernel
theorem dX1_edgeRule_82 : decode cX1_edgeRule 82 = .ok (.iadd, 1) := by decide +kernel
theorem dX1_edgeRule_83 : decode cX1_edgeRule 83 = .ok (.invokevirtual 58, 3) := by decide +kernel
theorem dX1_edgeRule_86 : decode cX1_edgeRule 86 = .ok (.invokestatic 133, 3) := by decide +kernel
theorem dX1_edgeRule_89 : decode cX1_edgeRule 89 = .ok (.ireturn, 1) := by decide +kernel
theorem dX1_wantSizes_0 : decode cX1_wantSizes 0 = .ok (.iload_n 1, 1) := by decide +kernel
theorem dX1_wantSizes_1 : decode cX1_wantSizes 1 = .ok (.bipush 25, 2) := by decide +kernel
theorem dX1_wantSizes_3 : decode cX1_wantSizes 3 = .ok (.imul, 1) := by decide +kernel
theorem dX1_wantSizes_4 : decode cX1_wantSizes 4 = .ok (.istore_n 3, 1) := by decide +kernel
theorem dX1_wantSizes_5 : decode cX1_wantSizes 5 = .ok (.iload_n 3, 1) := by decide +kernel
theorem dX1_wantSizes_6 : decode cX1_wantSizes 6 = .ok (.iload_n 1, 1) := by decide +kernel
theorem dX1_wantSizes_7 : decode cX1_wantSizes 7 = .ok (.invokestatic 94, 3) := by decide +kernel
theorem dX1_wantSizes_10 : decode cX1_wantSizes 10 = .ok (.if_icmp .ge 42, 3) := by decide +kernel
theorem dX1_wantSizes_13 : decode cX1_wantSizes 13 = .ok (.aload_n 0, 1) := by decide +kernel
theorem dX1_wantSizes_14 : decode cX1_wantSizes 14 = .ok (.getfield 33, 3) := by decide +kernel
theorem dX1_wantSizes_17 : decode cX1_wantSizes 17 = .ok (.iload_n 3, 1) := by decide +kernel
theorem dX1_wantSizes_18 : decode cX1_wantSizes 18 = .ok (.iconst 2, 1) := by decide +kernel
theorem dX1_wantSizes_19 : decode cX1_wantSizes 19 = .ok (.imul, 1) := by decide +kernel
theorem dX1_wantSizes_20 : decode cX1_wantSizes 20 = .ok (.iload_n 2, 1) := by decide +kernel
theorem dX1_wantSizes_21 : decode cX1_wantSizes 21 = .ok (.iadd, 1) := by decide +kernel
theorem dX1_wantSizes_22 : decode cX1_wantSizes 22 = .ok (.aload_n 0, 1) := by decide +kernel
theorem dX1_wantSizes_23 : decode cX1_wantSizes 23 = .ok (.getfield 12, 3) := by decide +kernel
theorem dX1_wantSizes_26 : decode cX1_wantSizes 26 = .ok (.iload_n 3, 1) := by decide +kernel
theorem dX1_wantSizes_27 : decode cX1_wantSizes 27 = .ok (.invokevirtual 97, 3) := by decide +kernel
theorem dX1_wantSizes_30 : decode cX1_wantSizes 30 = .ok (.ifCond .eq 12, 3) := by decide +kernel
theorem dX1_wantSizes_33 : decode cX1_wantSizes 33 = .ok (.aload_n 0, 1) := by decide +kernel
theorem dX1_wantSizes_34 : decode cX1_wantSizes 34 = .ok (.iload_n 3, 1) := by decide +kernel
theorem dX1_wantSizes_35 : decode cX1_wantSizes 35 = .ok (.iload_n 2, 1) := by decide +kernel
theorem dX1_wantSizes_36 : decode cX1_wantSizes 36 = .ok (.invokevirtual 164, 3) := by decide +kernel
theorem dX1_wantSizes_39 : decode cX1_wantSizes 39 = .ok (.goto 4, 3) := by decide +kernel
theorem dX1_wantSizes_42 : decode cX1_wantSizes 42 = .ok (.iconst 0, 1) := by decide +kernel
theorem dX1_wantSizes_43 : decode cX1_wantSizes 43 = .ok (.invokevirtual 104, 3) := by decide +kernel
theorem dX1_wantSizes_46 : decode cX1_wantSizes 46 = .ok (.iinc 3 1, 3) := by decide +kernel
theorem dX1_wantSizes_49 : decode cX1_wantSizes 49 = .ok (.goto (-44), 3) := by decide +kernel
theorem dX1_wantSizes_52 : decode cX1_wantSizes 52 = .ok (.return_, 1) := by decide +kernel
theorem dX1_wantOf_0 : decode cX1_wantOf 0 = .ok (.aload_n 0, 1) := by decide +kernel
theorem dX1_wantOf_1 : decode cX1_wantOf 1 = .ok (.getfield 12, 3) := by decide +kernel
theorem dX1_wantOf_4 : decode cX1_wantOf 4 = .ok (.getfield 110, 3) := by decide +kernel
theorem dX1_wantOf_7 : decode cX1_wantOf 7 = .ok (.iload_n 1, 1) := by decide +kernel
theorem dX1_wantOf_8 : decode cX1_wantOf 8 = .ok (.invokevirtual 58, 3) := by decide +kernel
theorem dX1_wantOf_11 : decode cX1_wantOf 11 = .ok (.istore_n 3, 1) := by decide +kernel
theorem dX1_wantOf_12 : decode cX1_wantOf 12 = .ok (.aload_n 0, 1) := by decide +kernel
theorem dX1_wantOf_13 : decode cX1_wantOf 13 = .ok (.getfield 12, 3) := by decide +kernel
theorem dX1_wantOf_16 : decode cX1_wantOf 16 = .ok (.getfield 107, 3) := by decide +kernel
theorem dX1_wantOf_19 : decode cX1_wantOf 19 = .ok (.iload_n 1, 1) := by decide +kernel
theorem dX1_wantOf_20 : decode cX1_wantOf 20 = .ok (.invokevirtual 58, 3) := by decide +kernel
theorem dX1_wantOf_23 : decode cX1_wantOf 23 = .ok (.tableswitch 55 0 3 #[29, 55, 44, 31], 29) := by decide +kernel
theorem dX1_wantOf_52 : decode cX1_wantOf 52 = .ok (.iconst 0, 1) := by decide +kernel
theorem dX1_wantOf_53 : decode cX1_wantOf 53 = .ok (.ireturn, 1) := by decide +kernel
theorem dX1_wantOf_54 : decode cX1_wantOf 54 = .ok (.aload_n 0, 1) := by decide +kernel
theorem dX1_wantOf_55 : decode cX1_wantOf 55 = .ok (.getfield 48, 3) := by decide +kernel
theorem dX1_wantOf_58 : decode cX1_wantOf 58 = .ok (.iload_n 3, 1) := by decide +kernel
theorem dX1_wantOf_59 : decode cX1_wantOf 59 = .ok (.iconst 2, 1) := by decide +kernel
theorem dX1_wantOf_60 : decode cX1_wantOf 60 = .ok (.imul, 1) := by decide +kernel
theorem dX1_wantOf_61 : decode cX1_wantOf 61 = .ok (.iload_n 2, 1) := by decide +kernel
theorem dX1_wantOf_62 : decode cX1_wantOf 62 = .ok (.iadd, 1) := by decide +kernel
theorem dX1_wantOf_63 : decode cX1_wantOf 63 = .ok (.invokevirtual 58, 3) := by decide +kernel
theorem dX1_wantOf_66 : decode cX1_wantOf 66 = .ok (.ireturn, 1) := by decide +kernel
theorem dX1_wantOf_67 : decode cX1_wantOf 67 = .ok (.iload_n 2, 1) := by decide +kernel
theorem dX1_wantOf_68 : decode cX1_wantOf 68 = .ok (.iconst 1, 1) := by decide +kernel
theorem dX1_wantOf_69 : decode cX1_wantOf 69 = .ok (.if_icmp .ne 7, 3) := by decide +kernel
theorem dX1_wantOf_72 : decode cX1_wantOf 72 = .ok (.iconst 1, 1) := by decide +kernel
theorem dX1_wantOf_73 : decode cX1_wantOf 73 = .ok (.goto 4, 3) := by decide +kernel
theorem dX1_wantOf_76 : decode cX1_wantOf 76 = .ok (.iload_n 3, 1) := by decide +kernel
theorem dX1_wantOf_77 : decode cX1_wantOf 77 = .ok (.ireturn, 1) := by decide +kernel
theorem dX1_wantOf_78 : decode cX1_wantOf 78 = .ok (.iload_n 2, 1) := by decide +kernel
theorem dX1_wantOf_79 : decode cX1_wantOf 79 = .ok (.iconst 1, 1) := by decide +kernel
theorem dX1_wantOf_80 : decode cX1_wantOf 80 = .ok (.if_icmp .ne 7, 3) := by decide +kernel
theorem dX1_wantOf_83 : decode cX1_wantOf 83 = .ok (.iconst 1, 1) := by decide +kernel
theorem dX1_wantOf_84 : decode cX1_wantOf 84 = .ok (.goto 14, 3) := by decide +kernel
theorem dX1_wantOf_87 : decode cX1_wantOf 87 = .ok (.aload_n 0, 1) := by decide +kernel
theorem dX1_wantOf_88 : decode cX1_wantOf 88 = .ok (.getfield 27, 3) := by decide +kernel
theorem dX1_wantOf_91 : decode cX1_wantOf 91 = .ok (.iload_n 1, 1) := by decide +kernel
theorem dX1_wantOf_92 : decode cX1_wantOf 92 = .ok (.invokevirtual 58, 3) := by decide +kernel
theorem dX1_wantOf_95 : decode cX1_wantOf 95 = .ok (.invokestatic 167, 3) := by decide +kernel
theorem dX1_wantOf_98 : decode cX1_wantOf 98 = .ok (.ireturn, 1) := by decide +kernel
theorem dX1_sizeSingles_0 : decode cX1_sizeSingles 0 = .ok (.iload_n 1, 1) := by decide +kernel
theorem dX1_sizeSingles_1 : decode cX1_sizeSingles 1 = .ok (.bipush 25, 2) := by decide +kernel
theorem dX1_sizeSingles_3 : decode cX1_sizeSingles 3 = .ok (.imul, 1) := by decide +kernel
theorem dX1_sizeSingles_4 : decode cX1_sizeSingles 4 = .ok (.istore_n 3, 1) := by decide +kernel
theorem dX1_sizeSingles_5 : decode cX1_sizeSingles 5 = .ok (.iload_n 3, 1) := by decide +kernel
theorem dX1_sizeSingles_6 : decode cX1_sizeSingles 6 = .ok (.iload_n 1, 1) := by decide +kernel
theorem dX1_sizeSingles_7 : decode cX1_sizeSingles 7 = .ok (.invokestatic 94, 3) := by decide +kernel
theorem dX1_sizeSingles_10 : decode cX1_sizeSingles 10 = .ok (.if_icmp .ge 78, 3) := by decide +kernel
theorem dX1_sizeSingles_13 : decode cX1_sizeSingles 13 = .ok (.aload_n 0, 1) := by decide +kernel
theorem dX1_sizeSingles_14 : decode cX1_sizeSingles 14 = .ok (.getfield 12, 3) := by decide +kernel
theorem dX1_sizeSingles_17 : decode cX1_sizeSingles 17 = .ok (.iload_n 3, 1) := by decide +kernel
theorem dX1_sizeSingles_18 : decode cX1_sizeSingles 18 = .ok (.invokevirtual 97, 3) := by decide +kernel
theorem dX1_sizeSingles_21 : decode cX1_sizeSingles 21 = .ok (.ifCond .eq 61, 3) := by decide +kernel
theorem dX1_sizeSingles_24 : decode cX1_sizeSingles 24 = .ok (.aload_n 0, 1) := by decide +kernel
theorem dX1_sizeSingles_25 : decode cX1_sizeSingles 25 = .ok (.getfield 12, 3) := by decide +kernel
theorem dX1_sizeSingles_28 : decode cX1_sizeSingles 28 = .ok (.iload_n 3, 1) := by decide +kernel
theorem dX1_sizeSingles_29 : decode cX1_sizeSingles 29 = .ok (.iload_n 2, 1) := by decide +kernel
theorem dX1_sizeSingles_30 : decode cX1_sizeSingles 30 = .ok (.invokevirtual 170, 3) := by decide +kernel
theorem dX1_sizeSingles_33 : decode cX1_sizeSingles 33 = .ok (.iconst 1, 1) := by decide +kernel
theorem dX1_sizeSingles_34 : decode cX1_sizeSingles 34 = .ok (.if_icmp .ne 48, 3) := by decide +kernel
theorem dX1_sizeSingles_37 : decode cX1_sizeSingles 37 = .ok (.iload_n 1, 1) := by decide +kernel
theorem dX1_sizeSingles_38 : decode cX1_sizeSingles 38 = .ok (.iload_n 2, 1) := by decide +kernel
theorem dX1_sizeSingles_39 : decode cX1_sizeSingles 39 = .ok (.iload_n 3, 1) := by decide +kernel
theorem dX1_sizeSingles_40 : decode cX1_sizeSingles 40 = .ok (.iload_n 2, 1) := by decide +kernel
theorem dX1_sizeSingles_41 : decode cX1_sizeSingles 41 = .ok (.invokestatic 129, 3) := by decide +kernel
theorem dX1_sizeSingles_44 : decode cX1_sizeSingles 44 = .ok (.invokestatic 54, 3) := by decide +kernel
theorem dX1_sizeSingles_47 : decode cX1_sizeSingles 47 = .ok (.istore 4, 2) := by decide +kernel
theorem dX1_sizeSingles_49 : decode cX1_sizeSingles 49 = .ok (.aload_n 0, 1) := by decide +kernel
theorem dX1_sizeSingles_50 : decode cX1_sizeSingles 50 = .ok (.getfield 42, 3) := by decide +kernel
theorem dX1_sizeSingles_53 : decode cX1_sizeSingles 53 = .ok (.iload 4, 2) := by decide +kernel
theorem dX1_sizeSingles_55 : decode cX1_sizeSingles 55 = .ok (.aload_n 0, 1) := by decide +kernel
theorem dX1_sizeSingles_56 : decode cX1_sizeSingles 56 = .ok (.getfield 42, 3) := by decide +kernel
theorem dX1_sizeSingles_59 : decode cX1_sizeSingles 59 = .ok (.iload 4, 2) := by decide +kernel
theorem dX1_sizeSingles_61 : decode cX1_sizeSingles 61 = .ok (.invokevirtual 58, 3) := by decide +kernel
theorem dX1_sizeSingles_64 : decode cX1_sizeSingles 64 = .ok (.aload_n 0, 1) := by decide +kernel
theorem dX1_sizeSingles_65 : decode cX1_sizeSingles 65 = .ok (.getfield 33, 3) := by decide +kernel
theorem dX1_sizeSingles_68 : decode cX1_sizeSingles 68 = .ok (.iload_n 3, 1) := by decide +kernel
theorem dX1_sizeSingles_69 : decode cX1_sizeSingles 69 = .ok (.iconst 2, 1) := by decide +kernel
theorem dX1_sizeSingles_70 : decode cX1_sizeSingles 70 = .ok (.imul, 1) := by decide +kernel
theorem dX1_sizeSingles_71 : decode cX1_sizeSingles 71 = .ok (.iload_n 2, 1) := by decide +kernel
theorem dX1_sizeSingles_72 : decode cX1_sizeSingles 72 = .ok (.iadd, 1) := by decide +kernel
theorem dX1_sizeSingles_73 : decode cX1_sizeSingles 73 = .ok (.invokevirtual 58, 3) := by decide +kernel
theorem dX1_sizeSingles_76 : decode cX1_sizeSingles 76 = .ok (.invokestatic 133, 3) := by decide +kernel
theorem dX1_sizeSingles_79 : decode cX1_sizeSingles 79 = .ok (.invokevirtual 104, 3) := by decide +kernel
theorem dX1_sizeSingles_82 : decode cX1_sizeSingles 82 = .ok (.iinc 3 1, 3) := by decide +kernel
theorem dX1_sizeSingles_85 : decode cX1_sizeSingles 85 = .ok (.goto (-80), 3) := by decide +kernel
theorem dX1_sizeSingles_88 : decode cX1_sizeSingles 88 = .ok (.return_, 1) := by decide +kernel
theorem dX1_sizeSpans_0 : decode cX1_sizeSpans 0 = .ok (.iload_n 1, 1) := by decide +kernel
theorem dX1_sizeSpans_1 : decode cX1_sizeSpans 1 = .ok (.bipush 25, 2) := by decide +kernel
theorem dX1_sizeSpans_3 : decode cX1_sizeSpans 3 = .ok (.imul, 1) := by decide +kernel
theorem dX1_sizeSpans_4 : decode cX1_sizeSpans 4 = .ok (.istore_n 3, 1) := by decide +kernel
theorem dX1_sizeSpans_5 : decode cX1_sizeSpans 5 = .ok (.iload_n 3, 1) := by decide +kernel
theorem dX1_sizeSpans_6 : decode cX1_sizeSpans 6 = .ok (.iload_n 1, 1) := by decide +kernel
theorem dX1_sizeSpans_7 : decode cX1_sizeSpans 7 = .ok (.invokestatic 94, 3) := by decide +kernel
theorem dX1_sizeSpans_10 : decode cX1_sizeSpans 10 = .ok (.if_icmp .ge 115, 3) := by decide +kernel
theorem dX1_sizeSpans_13 : decode cX1_sizeSpans 13 = .ok (.aload_n 0, 1) := by decide +kernel
theorem dX1_sizeSpans_14 : decode cX1_sizeSpans 14 = .ok (.getfield 12, 3) := by decide +kernel
theorem dX1_sizeSpans_17 : decode cX1_sizeSpans 17 = .ok (.iload_n 3, 1) := by decide +kernel
theorem dX1_sizeSpans_18 : decode cX1_sizeSpans 18 = .ok (.invokevirtual 97, 3) := by decide +kernel
theorem dX1_sizeSpans_21 : decode cX1_sizeSpans 21 = .ok (.ifCond .eq 98, 3) := by decide +kernel
theorem dX1_sizeSpans_24 : decode cX1_sizeSpans 24 = .ok (.aload_n 0, 1) := by decide +kernel
theorem dX1_sizeSpans_25 : decode cX1_sizeSpans 25 = .ok (.getfield 12, 3) := by decide +kernel
theorem dX1_sizeSpans_28 : decode cX1_sizeSpans 28 = .ok (.iload_n 3, 1) := by decide +kernel
theorem dX1_sizeSpans_29 : decode cX1_sizeSpans 29 = .ok (.iload_n 2, 1) := by decide +kernel
theorem dX1_sizeSpans_30 : decode cX1_sizeSpans 30 = .ok (.invokevirtual 170, 3) := by decide +kernel
theorem dX1_sizeSpans_33 : decode cX1_sizeSpans 33 = .ok (.iconst 1, 1) := by decide +kernel
theorem dX1_sizeSpans_34 : decode cX1_sizeSpans 34 = .ok (.if_icmp .le 85, 3) := by decide +kernel
theorem dX1_sizeSpans_37 : decode cX1_sizeSpans 37 = .ok (.iload_n 3, 1) := by decide +kernel
theorem dX1_sizeSpans_38 : decode cX1_sizeSpans 38 = .ok (.iload_n 2, 1) := by decide +kernel
theorem dX1_sizeSpans_39 : decode cX1_sizeSpans 39 = .ok (.invokestatic 129, 3) := by decide +kernel
theorem dX1_sizeSpans_42 : decode cX1_sizeSpans 42 = .ok (.istore 4, 2) := by decide +kernel
theorem dX1_sizeSpans_44 : decode cX1_sizeSpans 44 = .ok (.iload 4, 2) := by decide +kernel
theorem dX1_sizeSpans_46 : decode cX1_sizeSpans 46 = .ok (.aload_n 0, 1) := by decide +kernel
theorem dX1_sizeSpans_47 : decode cX1_sizeSpans 47 = .ok (.getfield 12, 3) := by decide +kernel
theorem dX1_sizeSpans_50 : decode cX1_sizeSpans 50 = .ok (.iload_n 3, 1) := by decide +kernel
theorem dX1_sizeSpans_51 : decode cX1_sizeSpans 51 = .ok (.iload_n 2, 1) := by decide +kernel
theorem dX1_sizeSpans_52 : decode cX1_sizeSpans 52 = .ok (.invokevirtual 170, 3) := by decide +kernel
theorem dX1_sizeSpans_55 : decode cX1_sizeSpans 55 = .ok (.iadd, 1) := by decide +kernel
theorem dX1_sizeSpans_56 : decode cX1_sizeSpans 56 = .ok (.iconst 1, 1) := by decide +kernel
theorem dX1_sizeSpans_57 : decode cX1_sizeSpans 57 = .ok (.isub, 1) := by decide +kernel
theorem dX1_sizeSpans_58 : decode cX1_sizeSpans 58 = .ok (.istore 5, 2) := by decide +kernel
theorem dX1_sizeSpans_60 : decode cX1_sizeSpans 60 = .ok (.aload_n 0, 1) := by decide +kernel
theorem dX1_sizeSpans_61 : decode cX1_sizeSpans 61 = .ok (.getfield 33, 3) := by decide +kernel
theorem dX1_sizeSpans_64 : decode cX1_sizeSpans 64 = .ok (.iload_n 3, 1) := by decide +kernel
theorem dX1_sizeSpans_65 : decode cX1_sizeSpans 65 = .ok (.iconst 2, 1) := by decide +kernel
theorem dX1_sizeSpans_66 : decode cX1_sizeSpans 66 = .ok (.imul, 1) := by decide +kernel
theorem dX1_sizeSpans_67 : decode cX1_sizeSpans 67 = .ok (.iload_n 2, 1) := by decide +kernel
theorem dX1_sizeSpans_68 : decode cX1_sizeSpans 68 = .ok (.iadd, 1) := by decide +kernel
theorem dX1_sizeSpans_69 : decode cX1_sizeSpans 69 = .ok (.invokevirtual 58, 3) := by decide +kernel
theorem dX1_sizeSpans_72 : decode cX1_sizeSpans 72 = .ok (.aload_n 0, 1) := by decide +kernel
theorem dX1_sizeSpans_73 : decode cX1_sizeSpans 73 = .ok (.iload_n 1, 1) := by decide +kernel
theorem dX1_sizeSpans_74 : decode cX1_sizeSpans 74 = .ok (.iload_n 2, 1) := by decide +kernel
theorem dX1_sizeSpans_75 : decode cX1_sizeSpans 75 = .ok (.iload 4, 2) := by decide +kernel
theorem dX1_sizeSpans_77 : decode cX1_sizeSpans 77 = .ok (.iload 5, 2) := by decide +kernel
theorem dX1_sizeSpans_79 : decode cX1_sizeSpans 79 = .ok (.invokevirtual 173, 3) := by decide +kernel
theorem dX1_sizeSpans_82 : decode cX1_sizeSpans 82 = .ok (.isub, 1) := by decide +kernel
theorem dX1_sizeSpans_83 : decode cX1_sizeSpans 83 = .ok (.istore 6, 2) := by decide +kernel
theorem dX1_sizeSpans_85 : decode cX1_sizeSpans 85 = .ok (.iload_n 1, 1) := by decide +kernel
theorem dX1_sizeSpans_86 : decode cX1_sizeSpans 86 = .ok (.iload_n 2, 1) := by decide +kernel
theorem dX1_sizeSpans_87 : decode cX1_sizeSpans 87 = .ok (.iload 5, 2) := by decide +kernel
theorem dX1_sizeSpans_89 : decode cX1_sizeSpans 89 = .ok (.invokestatic 54, 3) := by decide +kernel
theorem dX1_sizeSpans_92 : decode cX1_sizeSpans 92 = .ok (.istore 7, 2) := by decide +kernel
theorem dX1_sizeSpans_94 : decode cX1_sizeSpans 94 = .ok (.aload_n 0, 1) := by decide +kernel
theorem dX1_sizeSpans_95 : decode cX1_sizeSpans 95 = .ok (.getfield 42, 3) := by decide +kernel
theorem dX1_sizeSpans_98 : decode cX1_sizeSpans 98 = .ok (.iload 7, 2) := by decide +kernel
theorem dX1_sizeSpans_100 : decode cX1_sizeSpans 100 = .ok (.aload_n 0, 1) := by decide +kernel
theorem dX1_sizeSpans_101 : decode cX1_sizeSpans 101 = .ok (.getfield 42, 3) := by decide +kernel
theorem dX1_sizeSpans_104 : decode cX1_sizeSpans 104 = .ok (.iload 7, 2) := by decide +kernel
theorem dX1_sizeSpans_106 : decode cX1_sizeSpans 106 = .ok (.invokevirtual 58, 3) := by decide +kernel
theorem dX1_sizeSpans_109 : decode cX1_sizeSpans 109 = .ok (.iconst 0, 1) := by decide +kernel
theorem dX1_sizeSpans_110 : decode cX1_sizeSpans 110 = .ok (.iload 6, 2) := by decide +kernel
theorem dX1_sizeSpans_112 : decode cX1_sizeSpans 112 = .ok (.invokestatic 133, 3) := by decide +kernel
theorem dX1_sizeSpans_115 : decode cX1_sizeSpans 115 = .ok (.iadd, 1) := by decide +kernel
theorem dX1_sizeSpans_116 : decode cX1_sizeSpans 116 = .ok (.invokevirtual 104, 3) := by decide +kernel
theorem dX1_sizeSpans_119 : decode cX1_sizeSpans 119 = .ok (.iinc 3 1, 3) := by decide +kernel
theorem dX1_sizeSpans_122 : decode cX1_sizeSpans 122 = .ok (.goto (-117), 3) := by decide +kernel
theorem dX1_sizeSpans_125 : decode cX1_sizeSpans 125 = .ok (.return_, 1) := by decide +kernel
theorem dX1_sizeTogether_0 : decode cX1_sizeTogether 0 = .ok (.iconst 0, 1) := by decide +kernel
theorem dX1_sizeTogether_1 : decode cX1_sizeTogether 1 = .ok (.istore 5, 2) := by decide +kernel
theorem dX1_sizeTogether_3 : decode cX1_sizeTogether 3 = .ok (.iload_n 3, 1) := by decide +kernel
theorem dX1_sizeTogether_4 : decode cX1_sizeTogether 4 = .ok (.istore 6, 2) := by decide +kernel
theorem dX1_sizeTogether_6 : decode cX1_sizeTogether 6 = .ok (.iload 6, 2) := by decide +kernel
theorem dX1_sizeTogether_8 : decode cX1_sizeTogether 8 = .ok (.iload 4, 2) := by decide +kernel
theorem dX1_sizeTogether_10 : decode cX1_sizeTogether 10 = .ok (.if_icmp .gt 22, 3) := by decide +kernel
theorem dX1_sizeTogether_13 : decode cX1_sizeTogether 13 = .ok (.iload 5, 2) := by decide +kernel
theorem dX1_sizeTogether_15 : decode cX1_sizeTogether 15 = .ok (.aload_n 0, 1) := by decide +kernel
theorem dX1_sizeTogether_16 : decode cX1_sizeTogether 16 = .ok (.iload_n 1, 1) := by decide +kernel
theorem dX1_sizeTogether_17 : decode cX1_sizeTogether 17 = .ok (.iload_n 2, 1) := by decide +kernel
theorem dX1_sizeTogether_18 : decode cX1_sizeTogether 18 = .ok (.iload 6, 2) := by decide +kernel
theorem dX1_sizeTogether_20 : decode cX1_sizeTogether 20 = .ok (.invokevirtual 176, 3) := by decide +kernel
theorem dX1_sizeTogether_23 : decode cX1_sizeTogether 23 = .ok (.iadd, 1) := by decide +kernel
theorem dX1_sizeTogether_24 : decode cX1_sizeTogether 24 = .ok (.istore 5, 2) := by decide +kernel
theorem dX1_sizeTogether_26 : decode cX1_sizeTogether 26 = .ok (.iinc 6 1, 3) := by decide +kernel
theorem dX1_sizeTogether_29 : decode cX1_sizeTogether 29 = .ok (.goto (-23), 3) := by decide +kernel
theorem dX1_sizeTogether_32 : decode cX1_sizeTogether 32 = .ok (.iload 5, 2) := by decide +kernel
theorem dX1_sizeTogether_34 : decode cX1_sizeTogether 34 = .ok (.ireturn, 1) := by decide +kernel
theorem dX1_sizeTable_0 : decode cX1_sizeTable 0 = .ok (.aload_n 0, 1) := by decide +kernel
theorem dX1_sizeTable_1 : decode cX1_sizeTable 1 = .ok (.getfield 12, 3) := by decide +kernel
theorem dX1_sizeTable_4 : decode cX1_sizeTable 4 = .ok (.iload_n 1, 1) := by decide +kernel
theorem dX1_sizeTable_5 : decode cX1_sizeTable 5 = .ok (.iload_n 2, 1) := by decide +kernel
theorem dX1_sizeTable_6 : decode cX1_sizeTable 6 = .ok (.invokevirtual 148, 3) := by decide +kernel
theorem dX1_sizeTable_9 : decode cX1_sizeTable 9 = .ok (.iconst 1, 1) := by decide +kernel
theorem dX1_sizeTable_10 : decode cX1_sizeTable 10 = .ok (.isub, 1) := by decide +kernel
theorem dX1_sizeTable_11 : decode cX1_sizeTable 11 = .ok (.istore_n 3, 1) := by decide +kernel
theorem dX1_sizeTable_12 : decode cX1_sizeTable 12 = .ok (.iload_n 2, 1) := by decide +kernel
theorem dX1_sizeTable_13 : decode cX1_sizeTable 13 = .ok (.iconst 1, 1) := by decide +kernel
theorem dX1_sizeTable_14 : decode cX1_sizeTable 14 = .ok (.if_icmp .ne 7, 3) := by decide +kernel
theorem dX1_sizeTable_17 : decode cX1_sizeTable 17 = .ok (.iconst 0, 1) := by decide +kernel
theorem dX1_sizeTable_18 : decode cX1_sizeTable 18 = .ok (.goto 4, 3) := by decide +kernel
theorem dX1_sizeTable_21 : decode cX1_sizeTable 21 = .ok (.iconst 3, 1) := by decide +kernel
theorem dX1_sizeTable_22 : decode cX1_sizeTable 22 = .ok (.istore 4, 2) := by decide +kernel
theorem dX1_sizeTable_24 : decode cX1_sizeTable 24 = .ok (.iload_n 2, 1) := by decide +kernel
theorem dX1_sizeTable_25 : decode cX1_sizeTable 25 = .ok (.iconst 1, 1) := by decide +kernel
theorem dX1_sizeTable_26 : decode cX1_sizeTable 26 = .ok (.if_icmp .ne 7, 3) := by decide +kernel
theorem dX1_sizeTable_29 : decode cX1_sizeTable 29 = .ok (.iconst 2, 1) := by decide +kernel
theorem dX1_sizeTable_30 : decode cX1_sizeTable 30 = .ok (.goto 4, 3) := by decide +kernel
theorem dX1_sizeTable_33 : decode cX1_sizeTable 33 = .ok (.iconst 1, 1) := by decide +kernel
theorem dX1_sizeTable_34 : decode cX1_sizeTable 34 = .ok (.istore 5, 2) := by decide +kernel
theorem dX1_sizeTable_36 : decode cX1_sizeTable 36 = .ok (.aload_n 0, 1) := by decide +kernel
theorem dX1_sizeTable_37 : decode cX1_sizeTable 37 = .ok (.iload_n 1, 1) := by decide +kernel
theorem dX1_sizeTable_38 : decode cX1_sizeTable 38 = .ok (.iload_n 2, 1) := by decide +kernel
theorem dX1_sizeTable_39 : decode cX1_sizeTable 39 = .ok (.iload_n 3, 1) := by decide +kernel
theorem dX1_sizeTable_40 : decode cX1_sizeTable 40 = .ok (.iload 5, 2) := by decide +kernel
theorem dX1_sizeTable_42 : decode cX1_sizeTable 42 = .ok (.invokevirtual 151, 3) := by decide +kernel
theorem dX1_sizeTable_45 : decode cX1_sizeTable 45 = .ok (.ifCond .le 7, 3) := by decide +kernel
theorem dX1_sizeTable_48 : decode cX1_sizeTable 48 = .ok (.iconst 1, 1) := by decide +kernel
theorem dX1_sizeTable_49 : decode cX1_sizeTable 49 = .ok (.goto 4, 3) := by decide +kernel
theorem dX1_sizeTable_52 : decode cX1_sizeTable 52 = .ok (.iconst 0, 1) := by decide +kernel
theorem dX1_sizeTable_53 : decode cX1_sizeTable 53 = .ok (.istore 6, 2) := by decide +kernel
theorem dX1_sizeTable_55 : decode cX1_sizeTable 55 = .ok (.iconst 0, 1) := by decide +kernel
theorem dX1_sizeTable_56 : decode cX1_sizeTable 56 = .ok (.istore 7, 2) := by decide +kernel
theorem dX1_sizeTable_58 : decode cX1_sizeTable 58 = .ok (.iload 7, 2) := by decide +kernel
theorem dX1_sizeTable_60 : decode cX1_sizeTable 60 = .ok (.iload_n 3, 1) := by decide +kernel
theorem dX1_sizeTable_61 : decode cX1_sizeTable 61 = .ok (.if_icmp .gt 32, 3) := by decide +kernel
theorem dX1_sizeTable_64 : decode cX1_sizeTable 64 = .ok (.iload 6, 2) := by decide +kernel
theorem dX1_sizeTable_66 : decode cX1_sizeTable 66 = .ok (.aload_n 0, 1) := by decide +kernel
theorem dX1_sizeTable_67 : decode cX1_sizeTable 67 = .ok (.iload_n 1, 1) := by decide +kernel
theorem dX1_sizeTable_68 : decode cX1_sizeTable 68 = .ok (.iload_n 2, 1) := by decide +kernel
theorem dX1_sizeTable_69 : decode cX1_sizeTable 69 = .ok (.iload 7, 2) := by decide +kernel
theorem dX1_sizeTable_71 : decode cX1_sizeTable 71 = .ok (.iload 4, 2) := by decide +kernel
theorem dX1_sizeTable_73 : decode cX1_sizeTable 73 = .ok (.invokevirtual 151, 3) := by decide +kernel
theorem dX1_sizeTable_76 : decode cX1_sizeTable 76 = .ok (.ifCond .le 7, 3) := by decide +kernel
theorem dX1_sizeTable_79 : decode cX1_sizeTable 79 = .ok (.iconst 1, 1) := by decide +kernel
theorem dX1_sizeTable_80 : decode cX1_sizeTable 80 = .ok (.goto 4, 3) := by decide +kernel
theorem dX1_sizeTable_83 : decode cX1_sizeTable 83 = .ok (.iconst 0, 1) := by decide +kernel
theorem dX1_sizeTable_84 : decode cX1_sizeTable 84 = .ok (.iadd, 1) := by decide +kernel
theorem dX1_sizeTable_85 : decode cX1_sizeTable 85 = .ok (.istore 6, 2) := by decide +kernel
theorem dX1_sizeTable_87 : decode cX1_sizeTable 87 = .ok (.iinc 7 1, 3) := by decide +kernel
theorem dX1_sizeTable_90 : decode cX1_sizeTable 90 = .ok (.goto (-32), 3) := by decide +kernel
theorem dX1_sizeTable_93 : decode cX1_sizeTable 93 = .ok (.aload_n 0, 1) := by decide +kernel
theorem dX1_sizeTable_94 : decode cX1_sizeTable 94 = .ok (.getfield 45, 3) := by decide +kernel
theorem dX1_sizeTable_97 : decode cX1_sizeTable 97 = .ok (.iload_n 1, 1) := by decide +kernel
theorem dX1_sizeTable_98 : decode cX1_sizeTable 98 = .ok (.iconst 2, 1) := by decide +kernel
theorem dX1_sizeTable_99 : decode cX1_sizeTable 99 = .ok (.imul, 1) := by decide +kernel
theorem dX1_sizeTable_100 : decode cX1_sizeTable 100 = .ok (.iload_n 2, 1) := by decide +kernel
theorem dX1_sizeTable_101 : decode cX1_sizeTable 101 = .ok (.iadd, 1) := by decide +kernel
theorem dX1_sizeTable_102 : decode cX1_sizeTable 102 = .ok (.iload 6, 2) := by decide +kernel
theorem dX1_sizeTable_104 : decode cX1_sizeTable 104 = .ok (.invokevirtual 104, 3) := by decide +kernel
theorem dX1_sizeTable_107 : decode cX1_sizeTable 107 = .ok (.aload_n 0, 1) := by decide +kernel
theorem dX1_sizeTable_108 : decode cX1_sizeTable 108 = .ok (.getfield 48, 3) := by decide +kernel
theorem dX1_sizeTable_111 : decode cX1_sizeTable 111 = .ok (.iload_n 1, 1) := by decide +kernel
theorem dX1_sizeTable_112 : decode cX1_sizeTable 112 = .ok (.iconst 2, 1) := by decide +kernel
theorem dX1_sizeTable_113 : decode cX1_sizeTable 113 = .ok (.imul, 1) := by decide +kernel
theorem dX1_sizeTable_114 : decode cX1_sizeTable 114 = .ok (.iload_n 2, 1) := by decide +kernel
theorem dX1_sizeTable_115 : decode cX1_sizeTable 115 = .ok (.iadd, 1) := by decide +kernel
theorem dX1_sizeTable_116 : decode cX1_sizeTable 116 = .ok (.iload 6, 2) := by decide +kernel
theorem dX1_sizeTable_118 : decode cX1_sizeTable 118 = .ok (.aload_n 0, 1) := by decide +kernel
theorem dX1_sizeTable_119 : decode cX1_sizeTable 119 = .ok (.iload_n 1, 1) := by decide +kernel
theorem dX1_sizeTable_120 : decode cX1_sizeTable 120 = .ok (.iload_n 2, 1) := by decide +kernel
theorem dX1_sizeTable_121 : decode cX1_sizeTable 121 = .ok (.iconst 0, 1) := by decide +kernel
theorem dX1_sizeTable_122 : decode cX1_sizeTable 122 = .ok (.iload_n 3, 1) := by decide +kernel
theorem dX1_sizeTable_123 : decode cX1_sizeTable 123 = .ok (.invokevirtual 173, 3) := by decide +kernel
theorem dX1_sizeTable_126 : decode cX1_sizeTable 126 = .ok (.iadd, 1) := by decide +kernel
theorem dX1_sizeTable_127 : decode cX1_sizeTable 127 = .ok (.invokevirtual 104, 3) := by decide +kernel
theorem dX1_sizeTable_130 : decode cX1_sizeTable 130 = .ok (.return_, 1) := by decide +kernel
theorem dX1_countEdges_0 : decode cX1_countEdges 0 = .ok (.iconst 0, 1) := by decide +kernel
theorem dX1_countEdges_1 : decode cX1_countEdges 1 = .ok (.istore_n 1, 1) := by decide +kernel
theorem dX1_countEdges_2 : decode cX1_countEdges 2 = .ok (.iconst 0, 1) := by decide +kernel
theorem dX1_countEdges_3 : decode cX1_countEdges 3 = .ok (.istore_n 2, 1) := by decide +kernel
theorem dX1_countEdges_4 : decode cX1_countEdges 4 = .ok (.iload_n 2, 1) := by decide +kernel
theorem dX1_countEdges_5 : decode cX1_countEdges 5 = .ok (.aload_n 0, 1) := by decide +kernel
theorem dX1_countEdges_6 : decode cX1_countEdges 6 = .ok (.getfield 12, 3) := by decide +kernel
theorem dX1_countEdges_9 : decode cX1_countEdges 9 = .ok (.invokevirtual 179, 3) := by decide +kernel
theorem dX1_countEdges_12 : decode cX1_countEdges 12 = .ok (.if_icmp .ge 74, 3) := by decide +kernel
theorem dX1_countEdges_15 : decode cX1_countEdges 15 = .ok (.iconst 0, 1) := by decide +kernel
theorem dX1_countEdges_16 : decode cX1_countEdges 16 = .ok (.istore_n 3, 1) := by decide +kernel
theorem dX1_countEdges_17 : decode cX1_countEdges 17 = .ok (.iload_n 3, 1) := by decide +kernel
theorem dX1_countEdges_18 : decode cX1_countEdges 18 = .ok (.iconst 4, 1) := by decide +kernel
theorem dX1_countEdges_19 : decode cX1_countEdges 19 = .ok (.if_icmp .ge 61, 3) := by decide +kernel
theorem dX1_countEdges_22 : decode cX1_countEdges 22 = .ok (.iload_n 3, 1) := by decide +kernel
theorem dX1_countEdges_23 : decode cX1_countEdges 23 = .ok (.ifCond .eq 21, 3) := by decide +kernel
theorem dX1_countEdges_26 : decode cX1_countEdges 26 = .ok (.iload_n 3, 1) := by decide +kernel
theorem dX1_countEdges_27 : decode cX1_countEdges 27 = .ok (.iconst 3, 1) := by decide +kernel
theorem dX1_countEdges_28 : decode cX1_countEdges 28 = .ok (.if_icmp .eq 16, 3) := by decide +kernel
theorem dX1_countEdges_31 : decode cX1_countEdges 31 = .ok (.aload_n 0, 1) := by decide +kernel
theorem dX1_countEdges_32 : decode cX1_countEdges 32 = .ok (.getfield 12, 3) := by decide +kernel
theorem dX1_countEdges_35 : decode cX1_countEdges 35 = .ok (.iload_n 2, 1) := by decide +kernel
theorem dX1_countEdges_36 : decode cX1_countEdges 36 = .ok (.iload_n 3, 1) := by decide +kernel
theorem dX1_countEdges_37 : decode cX1_countEdges 37 = .ok (.invokevirtual 161, 3) := by decide +kernel
theorem dX1_countEdges_40 : decode cX1_countEdges 40 = .ok (.iconst (-1), 1) := by decide +kernel
theorem dX1_countEdges_41 : decode cX1_countEdges 41 = .ok (.if_icmp .ne 7, 3) := by decide +kernel
theorem dX1_countEdges_44 : decode cX1_countEdges 44 = .ok (.iconst 1, 1) := by decide +kernel
theorem dX1_countEdges_45 : decode cX1_countEdges 45 = .ok (.goto 4, 3) := by decide +kernel
theorem dX1_countEdges_48 : decode cX1_countEdges 48 = .ok (.iconst 0, 1) := by decide +kernel
theorem dX1_countEdges_49 : decode cX1_countEdges 49 = .ok (.istore 4, 2) := by decide +kernel
theorem dX1_countEdges_51 : decode cX1_countEdges 51 = .ok (.iload 4, 2) := by decide +kernel
theorem dX1_countEdges_53 : decode cX1_countEdges 53 = .ok (.ifCond .eq 21, 3) := by decide +kernel
theorem dX1_countEdges_56 : decode cX1_countEdges 56 = .ok (.aload_n 0, 1) := by decide +kernel
theorem dX1_countEdges_57 : decode cX1_countEdges 57 = .ok (.getfield 39, 3) := by decide +kernel
theorem dX1_countEdges_60 : decode cX1_countEdges 60 = .ok (.iload_n 2, 1) := by decide +kernel
theorem dX1_countEdges_61 : decode cX1_countEdges 61 = .ok (.iconst 4, 1) := by decide +kernel
theorem dX1_countEdges_62 : decode cX1_countEdges 62 = .ok (.imul, 1) := by decide +kernel
theorem dX1_countEdges_63 : decode cX1_countEdges 63 = .ok (.iload_n 3, 1) := by decide +kernel
theorem dX1_countEdges_64 : decode cX1_countEdges 64 = .ok (.iadd, 1) := by decide +kernel
theorem dX1_countEdges_65 : decode cX1_countEdges 65 = .ok (.invokevirtual 58, 3) := by decide +kernel
theorem dX1_countEdges_68 : decode cX1_countEdges 68 = .ok (.ifCond .le 6, 3) := by decide +kernel
theorem dX1_countEdges_71 : decode cX1_countEdges 71 = .ok (.iinc 1 1, 3) := by decide +kernel
theorem dX1_countEdges_74 : decode cX1_countEdges 74 = .ok (.iinc 3 1, 3) := by decide +kernel
theorem dX1_countEdges_77 : decode cX1_countEdges 77 = .ok (.goto (-60), 3) := by decide +kernel
theorem dX1_countEdges_80 : decode cX1_countEdges 80 = .ok (.iinc 2 1, 3) := by decide +kernel
theorem dX1_countEdges_83 : decode cX1_countEdges 83 = .ok (.goto (-79), 3) := by decide +kernel
theorem dX1_countEdges_86 : decode cX1_countEdges 86 = .ok (.iload_n 1, 1) := by decide +kernel
theorem dX1_countEdges_87 : decode cX1_countEdges 87 = .ok (.ireturn, 1) := by decide +kernel
theorem dX1_countPages_0 : decode cX1_countPages 0 = .ok (.aload_n 0, 1) := by decide +kernel
theorem dX1_countPages_1 : decode cX1_countPages 1 = .ok (.aload_n 0, 1) := by decide +kernel
theorem dX1_countPages_2 : decode cX1_countPages 2 = .ok (.getfield 12, 3) := by decide +kernel
theorem dX1_countPages_5 : decode cX1_countPages 5 = .ok (.iconst 0, 1) := by decide +kernel
theorem dX1_countPages_6 : decode cX1_countPages 6 = .ok (.iconst 1, 1) := by decide +kernel
theorem dX1_countPages_7 : decode cX1_countPages 7 = .ok (.invokevirtual 148, 3) := by decide +kernel
theorem dX1_countPages_10 : decode cX1_countPages 10 = .ok (.iconst 1, 1) := by decide +kernel
theorem dX1_countPages_11 : decode cX1_countPages 11 = .ok (.isub, 1) := by decide +kernel
theorem dX1_countPages_12 : decode cX1_countPages 12 = .ok (.iload_n 1, 1) := by decide +kernel
theorem dX1_countPages_13 : decode cX1_countPages 13 = .ok (.invokevirtual 183, 3) := by decide +kernel
theorem dX1_countPages_16 : decode cX1_countPages 16 = .ok (.iconst 1, 1) := by decide +kernel
theorem dX1_countPages_17 : decode cX1_countPages 17 = .ok (.iadd, 1) := by decide +kernel
theorem dX1_countPages_18 : decode cX1_countPages 18 = .ok (.ireturn, 1) := by decide +kernel
theorem dX1_pageOf_0 : decode cX1_pageOf 0 = .ok (.iconst 0, 1) := by decide +kernel
theorem dX1_pageOf_1 : decode cX1_pageOf 1 = .ok (.istore_n 3, 1) := by decide +kernel
theorem dX1_pageOf_2 : decode cX1_pageOf 2 = .ok (.iconst 0, 1) := by decide +kernel
theorem dX1_pageOf_3 : decode cX1_pageOf 3 = .ok (.istore 4, 2) := by decide +kernel
theorem dX1_pageOf_5 : decode cX1_pageOf 5 = .ok (.iconst 0, 1) := by decide +kernel
theorem dX1_pageOf_6 : decode cX1_pageOf 6 = .ok (.istore 5, 2) := by decide +kernel
theorem dX1_pageOf_8 : decode cX1_pageOf 8 = .ok (.iload 5, 2) := by decide +kernel
theorem dX1_pageOf_10 : decode cX1_pageOf 10 = .ok (.iload_n 1, 1) := by decide +kernel
theorem dX1_pageOf_11 : decode cX1_pageOf 11 = .ok (.if_icmp .gt 106, 3) := by decide +kernel
theorem dX1_pageOf_14 : decode cX1_pageOf 14 = .ok (.aload_n 0, 1) := by decide +kernel
theorem dX1_pageOf_15 : decode cX1_pageOf 15 = .ok (.iload 5, 2) := by decide +kernel
theorem dX1_pageOf_17 : decode cX1_pageOf 17 = .ok (.invokevirtual 186, 3) := by decide +kernel
theorem dX1_pageOf_20 : decode cX1_pageOf 20 = .ok (.ifCond .eq 6, 3) := by decide +kernel
theorem dX1_pageOf_23 : decode cX1_pageOf 23 = .ok (.goto 88, 3) := by decide +kernel
theorem dX1_pageOf_26 : decode cX1_pageOf 26 = .ok (.aload_n 0, 1) := by decide +kernel
theorem dX1_pageOf_27 : decode cX1_pageOf 27 = .ok (.iconst 0, 1) := by decide +kernel
theorem dX1_pageOf_28 : decode cX1_pageOf 28 = .ok (.iconst 1, 1) := by decide +kernel
theorem dX1_pageOf_29 : decode cX1_pageOf 29 = .ok (.iload 5, 2) := by decide +kernel
theorem dX1_pageOf_31 : decode cX1_pageOf 31 = .ok (.invokevirtual 176, 3) := by decide +kernel
theorem dX1_pageOf_34 : decode cX1_pageOf 34 = .ok (.istore 6, 2) := by decide +kernel
theorem dX1_pageOf_36 : decode cX1_pageOf 36 = .ok (.iload 5, 2) := by decide +kernel
theorem dX1_pageOf_38 : decode cX1_pageOf 38 = .ok (.iconst 1, 1) := by decide +kernel
theorem dX1_pageOf_39 : decode cX1_pageOf 39 = .ok (.iadd, 1) := by decide +kernel
theorem dX1_pageOf_40 : decode cX1_pageOf 40 = .ok (.istore 7, 2) := by decide +kernel
theorem dX1_pageOf_42 : decode cX1_pageOf 42 = .ok (.iload 7, 2) := by decide +kernel
theorem dX1_pageOf_44 : decode cX1_pageOf 44 = .ok (.aload_n 0, 1) := by decide +kernel
theorem dX1_pageOf_45 : decode cX1_pageOf 45 = .ok (.getfield 12, 3) := by decide +kernel
theorem dX1_pageOf_48 : decode cX1_pageOf 48 = .ok (.iconst 0, 1) := by decide +kernel
theorem dX1_pageOf_49 : decode cX1_pageOf 49 = .ok (.iconst 1, 1) := by decide +kernel
theorem dX1_pageOf_50 : decode cX1_pageOf 50 = .ok (.invokevirtual 148, 3) := by decide +kernel
theorem dX1_pageOf_53 : decode cX1_pageOf 53 = .ok (.if_icmp .ge 31, 3) := by decide +kernel
theorem dX1_pageOf_56 : decode cX1_pageOf 56 = .ok (.aload_n 0, 1) := by decide +kernel
theorem dX1_pageOf_57 : decode cX1_pageOf 57 = .ok (.iload 7, 2) := by decide +kernel
theorem dX1_pageOf_59 : decode cX1_pageOf 59 = .ok (.invokevirtual 186, 3) := by decide +kernel
theorem dX1_pageOf_62 : decode cX1_pageOf 62 = .ok (.ifCond .eq 22, 3) := by decide +kernel
theorem dX1_pageOf_65 : decode cX1_pageOf 65 = .ok (.iload 6, 2) := by decide +kernel
theorem dX1_pageOf_67 : decode cX1_pageOf 67 = .ok (.aload_n 0, 1) := by decide +kernel
theorem dX1_pageOf_68 : decode cX1_pageOf 68 = .ok (.iconst 0, 1) := by decide +kernel
theorem dX1_pageOf_69 : decode cX1_pageOf 69 = .ok (.iconst 1, 1) := by decide +kernel
theorem dX1_pageOf_70 : decode cX1_pageOf 70 = .ok (.iload 7, 2) := by decide +kernel
theorem dX1_pageOf_72 : decode cX1_pageOf 72 = .ok (.invokevirtual 176, 3) := by decide +kernel
theorem dX1_pageOf_75 : decode cX1_pageOf 75 = .ok (.iadd, 1) := by decide +kernel
theorem dX1_pageOf_76 : decode cX1_pageOf 76 = .ok (.istore 6, 2) := by decide +kernel
theorem dX1_pageOf_78 : decode cX1_pageOf 78 = .ok (.iinc 7 1, 3) := by decide +kernel
theorem dX1_pageOf_81 : decode cX1_pageOf 81 = .ok (.goto (-39), 3) := by decide +kernel
theorem dX1_pageOf_84 : decode cX1_pageOf 84 = .ok (.iload 5, 2) := by decide +kernel
theorem dX1_pageOf_86 : decode cX1_pageOf 86 = .ok (.ifCond .le 18, 3) := by decide +kernel
theorem dX1_pageOf_89 : decode cX1_pageOf 89 = .ok (.iload 4, 2) := by decide +kernel
theorem dX1_pageOf_91 : decode cX1_pageOf 91 = .ok (.iload 6, 2) := by decide +kernel
theorem dX1_pageOf_93 : decode cX1_pageOf 93 = .ok (.iadd, 1) := by decide +kernel
theorem dX1_pageOf_94 : decode cX1_pageOf 94 = .ok (.iload_n 2, 1) := by decide +kernel
theorem dX1_pageOf_95 : decode cX1_pageOf 95 = .ok (.if_icmp .le 9, 3) := by decide +kernel
theorem dX1_pageOf_98 : decode cX1_pageOf 98 = .ok (.iinc 3 1, 3) := by decide +kernel
theorem dX1_pageOf_101 : decode cX1_pageOf 101 = .ok (.iconst 0, 1) := by decide +kernel
theorem dX1_pageOf_102 : decode cX1_pageOf 102 = .ok (.istore 4, 2) := by decide +kernel
theorem dX1_pageOf_104 : decode cX1_pageOf 104 = .ok (.iload 4, 2) := by decide +kernel
theorem dX1_pageOf_106 : decode cX1_pageOf 106 = .ok (.iload 6, 2) := by decide +kernel
theorem dX1_pageOf_108 : decode cX1_pageOf 108 = .ok (.iadd, 1) := by decide +kernel
theorem dX1_pageOf_109 : decode cX1_pageOf 109 = .ok (.istore 4, 2) := by decide +kernel
theorem dX1_pageOf_111 : decode cX1_pageOf 111 = .ok (.iinc 5 1, 3) := by decide +kernel
theorem dX1_pageOf_114 : decode cX1_pageOf 114 = .ok (.goto (-106), 3) := by decide +kernel
theorem dX1_pageOf_117 : decode cX1_pageOf 117 = .ok (.iload_n 3, 1) := by decide +kernel
theorem dX1_pageOf_118 : decode cX1_pageOf 118 = .ok (.ireturn, 1) := by decide +kernel
theorem dX1_isJoined_0 : decode cX1_isJoined 0 = .ok (.iconst 0, 1) := by decide +kernel
theorem dX1_isJoined_1 : decode cX1_isJoined 1 = .ok (.istore_n 2, 1) := by decide +kernel
theorem dX1_isJoined_2 : decode cX1_isJoined 2 = .ok (.iload_n 2, 1) := by decide +kernel
theorem dX1_isJoined_3 : decode cX1_isJoined 3 = .ok (.aload_n 0, 1) := by decide +kernel
theorem dX1_isJoined_4 : decode cX1_isJoined 4 = .ok (.getfield 12, 3) := by decide +kernel
theorem dX1_isJoined_7 : decode cX1_isJoined 7 = .ok (.iconst 0, 1) := by decide +kernel
theorem dX1_isJoined_8 : decode cX1_isJoined 8 = .ok (.iconst 0, 1) := by decide +kernel
theorem dX1_isJoined_9 : decode cX1_isJoined 9 = .ok (.invokevirtual 148, 3) := by decide +kernel
theorem dX1_isJoined_12 : decode cX1_isJoined 12 = .ok (.if_icmp .ge 40, 3) := by decide +kernel
theorem dX1_isJoined_15 : decode cX1_isJoined 15 = .ok (.iload_n 1, 1) := by decide +kernel
theorem dX1_isJoined_16 : decode cX1_isJoined 16 = .ok (.iconst 5, 1) := by decide +kernel
theorem dX1_isJoined_17 : decode cX1_isJoined 17 = .ok (.imul, 1) := by decide +kernel
theorem dX1_isJoined_18 : decode cX1_isJoined 18 = .ok (.iload_n 2, 1) := by decide +kernel
theorem dX1_isJoined_19 : decode cX1_isJoined 19 = .ok (.iadd, 1) := by decide +kernel
theorem dX1_isJoined_20 : decode cX1_isJoined 20 = .ok (.istore_n 3, 1) := by decide +kernel
theorem dX1_isJoined_21 : decode cX1_isJoined 21 = .ok (.aload_n 0, 1) := by decide +kernel
theorem dX1_isJoined_22 : decode cX1_isJoined 22 = .ok (.getfield 12, 3) := by decide +kernel
theorem dX1_isJoined_25 : decode cX1_isJoined 25 = .ok (.iload_n 3, 1) := by decide +kernel
theorem dX1_isJoined_26 : decode cX1_isJoined 26 = .ok (.iconst 0, 1) := by decide +kernel
theorem dX1_isJoined_27 : decode cX1_isJoined 27 = .ok (.invokevirtual 161, 3) := by decide +kernel
theorem dX1_isJoined_30 : decode cX1_isJoined 30 = .ok (.aload_n 0, 1) := by decide +kernel
theorem dX1_isJoined_31 : decode cX1_isJoined 31 = .ok (.getfield 12, 3) := by decide +kernel
theorem dX1_isJoined_34 : decode cX1_isJoined 34 = .ok (.getfield 158, 3) := by decide +kernel
theorem dX1_isJoined_37 : decode cX1_isJoined 37 = .ok (.iload_n 3, 1) := by decide +kernel
theorem dX1_isJoined_38 : decode cX1_isJoined 38 = .ok (.invokevirtual 58, 3) := by decide +kernel
theorem dX1_isJoined_41 : decode cX1_isJoined 41 = .ok (.if_icmp .ne 5, 3) := by decide +kernel
theorem dX1_isJoined_44 : decode cX1_isJoined 44 = .ok (.iconst 1, 1) := by decide +kernel
theorem dX1_isJoined_45 : decode cX1_isJoined 45 = .ok (.ireturn, 1) := by decide +kernel
theorem dX1_isJoined_46 : decode cX1_isJoined 46 = .ok (.iinc 2 1, 3) := by decide +kernel
theorem dX1_isJoined_49 : decode cX1_isJoined 49 = .ok (.goto (-47), 3) := by decide +kernel
theorem dX1_isJoined_52 : decode cX1_isJoined 52 = .ok (.iconst 0, 1) := by decide +kernel
theorem dX1_isJoined_53 : decode cX1_isJoined 53 = .ok (.ireturn, 1) := by decide +kernel
theorem dX4_init_0 : decode cX4_init 0 = .ok (.aload_n 0, 1) := by decide +kernel
theorem dX4_init_1 : decode cX4_init 1 = .ok (.invokespecial 3, 3) := by decide +kernel
theorem dX4_init_4 : decode cX4_init 4 = .ok (.aload_n 0, 1) := by decide +kernel
theorem dX4_init_5 : decode cX4_init 5 = .ok (.bipush 10, 2) := by decide +kernel
theorem dX4_init_7 : decode cX4_init 7 = .ok (.putfield 9, 3) := by decide +kernel
theorem dX4_init_10 : decode cX4_init 10 = .ok (.aload_n 0, 1) := by decide +kernel
theorem dX4_init_11 : decode cX4_init 11 = .ok (.new 15, 3) := by decide +kernel
theorem dX4_init_14 : decode cX4_init 14 = .ok (.dup, 1) := by decide +kernel
theorem dX4_init_15 : decode cX4_init 15 = .ok (.bipush 10, 2) := by decide +kernel
theorem dX4_init_17 : decode cX4_init 17 = .ok (.invokespecial 17, 3) := by decide +kernel
theorem dX4_init_20 : decode cX4_init 20 = .ok (.putfield 20, 3) := by decide +kernel
theorem dX4_init_23 : decode cX4_init 23 = .ok (.aload_n 0, 1) := by decide +kernel
theorem dX4_init_24 : decode cX4_init 24 = .ok (.new 15, 3) := by decide +kernel
theorem dX4_init_27 : decode cX4_init 27 = .ok (.dup, 1) := by decide +kernel
theorem dX4_init_28 : decode cX4_init 28 = .ok (.iconst 5, 1) := by decide +kernel
theorem dX4_init_29 : decode cX4_init 29 = .ok (.invokespecial 17, 3) := by decide +kernel
theorem dX4_init_32 : decode cX4_init 32 = .ok (.putfield 24, 3) := by decide +kernel
theorem dX4_init_35 : decode cX4_init 35 = .ok (.aload_n 0, 1) := by decide +kernel
theorem dX4_init_36 : decode cX4_init 36 = .ok (.new 15, 3) := by decide +kernel
theorem dX4_init_39 : decode cX4_init 39 = .ok (.dup, 1) := by decide +kernel
theorem dX4_init_40 : decode cX4_init 40 = .ok (.bipush 125, 2) := by decide +kernel
theorem dX4_init_42 : decode cX4_init 42 = .ok (.invokespecial 17, 3) := by decide +kernel
theorem dX4_init_45 : decode cX4_init 45 = .ok (.putfield 27, 3) := by decide +kernel
theorem dX4_init_48 : decode cX4_init 48 = .ok (.aload_n 0, 1) := by decide +kernel
theorem dX4_init_49 : decode cX4_init 49 = .ok (.new 15, 3) := by decide +kernel
theorem dX4_init_52 : decode cX4_init 52 = .ok (.dup, 1) := by decide +kernel
theorem dX4_init_53 : decode cX4_init 53 = .ok (.bipush 125, 2) := by decide +kernel
theorem dX4_init_55 : decode cX4_init 55 = .ok (.invokespecial 17, 3) := by decide +kernel
theorem dX4_init_58 : decode cX4_init 58 = .ok (.putfield 30, 3) := by decide +kernel
theorem dX4_init_61 : decode cX4_init 61 = .ok (.aload_n 0, 1) := by decide +kernel
theorem dX4_init_62 : decode cX4_init 62 = .ok (.new 15, 3) := by decide +kernel
theorem dX4_init_65 : decode cX4_init 65 = .ok (.dup, 1) := by decide +kernel
theorem dX4_init_66 : decode cX4_init 66 = .ok (.bipush 125, 2) := by decide +kernel
theorem dX4_init_68 : decode cX4_init 68 = .ok (.invokespecial 17, 3) := by decide +kernel
theorem dX4_init_71 : decode cX4_init 71 = .ok (.putfield 33, 3) := by decide +kernel
theorem dX4_init_74 : decode cX4_init 74 = .ok (.aload_n 0, 1) := by decide +kernel
theorem dX4_init_75 : decode cX4_init 75 = .ok (.new 15, 3) := by decide +kernel
theorem dX4_init_78 : decode cX4_init 78 = .ok (.dup, 1) := by decide +kernel
theorem dX4_init_79 : decode cX4_init 79 = .ok (.sipush 250, 3) := by decide +kernel
theorem dX4_init_82 : decode cX4_init 82 = .ok (.invokespecial 17, 3) := by decide +kernel
theorem dX4_init_85 : decode cX4_init 85 = .ok (.putfield 36, 3) := by decide +kernel
theorem dX4_init_88 : decode cX4_init 88 = .ok (.aload_n 0, 1) := by decide +kernel
theorem dX4_init_89 : decode cX4_init 89 = .ok (.new 15, 3) := by decide +kernel
theorem dX4_init_92 : decode cX4_init 92 = .ok (.dup, 1) := by decide +kernel
theorem dX4_init_93 : decode cX4_init 93 = .ok (.sipush 500, 3) := by decide +kernel
theorem dX4_init_96 : decode cX4_init 96 = .ok (.invokespecial 17, 3) := by decide +kernel
theorem dX4_init_99 : decode cX4_init 99 = .ok (.putfield 39, 3) := by decide +kernel
theorem dX4_init_102 : decode cX4_init 102 = .ok (.return_, 1) := by decide +kernel
theorem dX4_copyFrom_0 : decode cX4_copyFrom 0 = .ok (.aload_n 0, 1) := by decide +kernel
theorem dX4_copyFrom_1 : decode cX4_copyFrom 1 = .ok (.aload_n 1, 1) := by decide +kernel
theorem dX4_copyFrom_2 : decode cX4_copyFrom 2 = .ok (.getfield 9, 3) := by decide +kernel
theorem dX4_copyFrom_5 : decode cX4_copyFrom 5 = .ok (.putfield 9, 3) := by decide +kernel
theorem dX4_copyFrom_8 : decode cX4_copyFrom 8 = .ok (.aload_n 0, 1) := by decide +kernel
theorem dX4_copyFrom_9 : decode cX4_copyFrom 9 = .ok (.aload_n 1, 1) := by decide +kernel
theorem dX4_copyFrom_10 : decode cX4_copyFrom 10 = .ok (.getfield 42, 3) := by decide +kernel
theorem dX4_copyFrom_13 : decode cX4_copyFrom 13 = .ok (.putfield 42, 3) := by decide +kernel
theorem dX4_copyFrom_16 : decode cX4_copyFrom 16 = .ok (.aload_n 0, 1) := by decide +kernel
theorem dX4_copyFrom_17 : decode cX4_copyFrom 17 = .ok (.getfield 20, 3) := by decide +kernel
theorem dX4_copyFrom_20 : decode cX4_copyFrom 20 = .ok (.aload_n 1, 1) := by decide +kernel
theorem dX4_copyFrom_21 : decode cX4_copyFrom 21 = .ok (.getfield 20, 3) := by decide +kernel
theorem dX4_copyFrom_24 : decode cX4_copyFrom 24 = .ok (.invokevirtual 45, 3) := by decide +kernel
theorem dX4_copyFrom_27 : decode cX4_copyFrom 27 = .ok (.aload_n 0, 1) := by decide +kernel
theorem dX4_copyFrom_28 : decode cX4_copyFrom 28 = .ok (.getfield 24, 3) := by decide +kernel
theorem dX4_copyFrom_31 : decode cX4_copyFrom 31 = .ok (.aload_n 1, 1) := by decide +kernel
theorem dX4_copyFrom_32 : decode cX4_copyFrom 32 = .ok (.getfield 24, 3) := by decide +kernel
theorem dX4_copyFrom_35 : decode cX4_copyFrom 35 = .ok (.invokevirtual 45, 3) := by decide +kernel
theorem dX4_copyFrom_38 : decode cX4_copyFrom 38 = .ok (.aload_n 0, 1) := by decide +kernel
theorem dX4_copyFrom_39 : decode cX4_copyFrom 39 = .ok (.getfield 27, 3) := by decide +kernel
theorem dX4_copyFrom_42 : decode cX4_copyFrom 42 = .ok (.aload_n 1, 1) := by decide +kernel
theorem dX4_copyFrom_43 : decode cX4_copyFrom 43 = .ok (.getfield 27, 3) := by decide +kernel
theorem dX4_copyFrom_46 : decode cX4_copyFrom 46 = .ok (.invokevirtual 45, 3) := by decide +kernel
theorem dX4_copyFrom_49 : decode cX4_copyFrom 49 = .ok (.aload_n 0, 1) := by decide +kernel
theorem dX4_copyFrom_50 : decode cX4_copyFrom 50 = .ok (.getfield 30, 3) := by decide +kernel
theorem dX4_copyFrom_53 : decode cX4_copyFrom 53 = .ok (.aload_n 1, 1) := by decide +kernel
theorem dX4_copyFrom_54 : decode cX4_copyFrom 54 = .ok (.getfield 30, 3) := by decide +kernel
theorem dX4_copyFrom_57 : decode cX4_copyFrom 57 = .ok (.invokevirtual 45, 3) := by decide +kernel
theorem dX4_copyFrom_60 : decode cX4_copyFrom 60 = .ok (.aload_n 0, 1) := by decide +kernel
theorem dX4_copyFrom_61 : decode cX4_copyFrom 61 = .ok (.getfield 33, 3) := by decide +kernel
theorem dX4_copyFrom_64 : decode cX4_copyFrom 64 = .ok (.aload_n 1, 1) := by decide +kernel
theorem dX4_copyFrom_65 : decode cX4_copyFrom 65 = .ok (.getfield 33, 3) := by decide +kernel
theorem dX4_copyFrom_68 : decode cX4_copyFrom 68 = .ok (.invokevirtual 45, 3) := by decide +kernel
theorem dX4_copyFrom_71 : decode cX4_copyFrom 71 = .ok (.aload_n 0, 1) := by decide +kernel
theorem dX4_copyFrom_72 : decode cX4_copyFrom 72 = .ok (.getfield 36, 3) := by decide +kernel
theorem dX4_copyFrom_75 : decode cX4_copyFrom 75 = .ok (.aload_n 1, 1) := by decide +kernel
theorem dX4_copyFrom_76 : decode cX4_copyFrom 76 = .ok (.getfield 36, 3) := by decide +kernel
theorem dX4_copyFrom_79 : decode cX4_copyFrom 79 = .ok (.invokevirtual 45, 3) := by decide +kernel
theorem dX4_copyFrom_82 : decode cX4_copyFrom 82 = .ok (.aload_n 0, 1) := by decide +kernel
theorem dX4_copyFrom_83 : decode cX4_copyFrom 83 = .ok (.getfield 39, 3) := by decide +kernel
theorem dX4_copyFrom_86 : decode cX4_copyFrom 86 = .ok (.aload_n 1, 1) := by decide +kernel
theorem dX4_copyFrom_87 : decode cX4_copyFrom 87 = .ok (.getfield 39, 3) := by decide +kernel
theorem dX4_copyFrom_90 : decode cX4_copyFrom 90 = .ok (.invokevirtual 45, 3) := by decide +kernel
theorem dX4_copyFrom_93 : decode cX4_copyFrom 93 = .ok (.return_, 1) := by decide +kernel
theorem dX4_startAnew_0 : decode cX4_startAnew 0 = .ok (.aload_n 0, 1) := by decide +kernel
theorem dX4_startAnew_1 : decode cX4_startAnew 1 = .ok (.iconst 0, 1) := by decide +kernel
theorem dX4_startAnew_2 : decode cX4_startAnew 2 = .ok (.putfield 42, 3) := by decide +kernel
theorem dX4_startAnew_5 : decode cX4_startAnew 5 = .ok (.aload_n 0, 1) := by decide +kernel
theorem dX4_startAnew_6 : decode cX4_startAnew 6 = .ok (.iconst (-1), 1) := by decide +kernel
theorem dX4_startAnew_7 : decode cX4_startAnew 7 = .ok (.iload_n 1, 1) := by decide +kernel
theorem dX4_startAnew_8 : decode cX4_startAnew 8 = .ok (.iload_n 2, 1) := by decide +kernel
theorem dX4_startAnew_9 : decode cX4_startAnew 9 = .ok (.invokevirtual 49, 3) := by decide +kernel
theorem dX4_startAnew_12 : decode cX4_startAnew 12 = .ok (.return_, 1) := by decide +kernel
theorem dX4_addTable_0 : decode cX4_addTable 0 = .ok (.aload_n 0, 1) := by decide +kernel
theorem dX4_addTable_1 : decode cX4_addTable 1 = .ok (.getfield 42, 3) := by decide +kernel
theorem dX4_addTable_4 : decode cX4_addTable 4 = .ok (.istore 4, 2) := by decide +kernel
theorem dX4_addTable_6 : decode cX4_addTable 6 = .ok (.aload_n 0, 1) := by decide +kernel
theorem dX4_addTable_7 : decode cX4_addTable 7 = .ok (.getfield 30, 3) := by decide +kernel
theorem dX4_addTable_10 : decode cX4_addTable 10 = .ok (.iload_n 1, 1) := by decide +kernel
theorem dX4_addTable_11 : decode cX4_addTable 11 = .ok (.iconst 3, 1) := by decide +kernel
theorem dX4_addTable_12 : decode cX4_addTable 12 = .ok (.invokevirtual 53, 3) := by decide +kernel
theorem dX4_addTable_15 : decode cX4_addTable 15 = .ok (.aload_n 0, 1) := by decide +kernel
theorem dX4_addTable_16 : decode cX4_addTable 16 = .ok (.getfield 33, 3) := by decide +kernel
theorem dX4_addTable_19 : decode cX4_addTable 19 = .ok (.iload_n 1, 1) := by decide +kernel
theorem dX4_addTable_20 : decode cX4_addTable 20 = .ok (.iload 4, 2) := by decide +kernel
theorem dX4_addTable_22 : decode cX4_addTable 22 = .ok (.invokevirtual 53, 3) := by decide +kernel
theorem dX4_addTable_25 : decode cX4_addTable 25 = .ok (.aload_n 0, 1) := by decide +kernel
theorem dX4_addTable_26 : decode cX4_addTable 26 = .ok (.iload_n 1, 1) := by decide +kernel
theorem dX4_addTable_27 : decode cX4_addTable 27 = .ok (.iload_n 2, 1) := by decide +kernel
theorem dX4_addTable_28 : decode cX4_addTable 28 = .ok (.iload_n 3, 1) := by decide +kernel
theorem dX4_addTable_29 : decode cX4_addTable 29 = .ok (.invokevirtual 49, 3) := by decide +kernel
theorem dX4_addTable_32 : decode cX4_addTable 32 = .ok (.iload 4, 2) := by decide +kernel
theorem dX4_addTable_34 : decode cX4_addTable 34 = .ok (.ireturn, 1) := by decide +kernel
theorem dX4_layOut_0 : decode cX4_layOut 0 = .ok (.aload_n 0, 1) := by decide +kernel
theorem dX4_layOut_1 : decode cX4_layOut 1 = .ok (.getfield 42, 3) := by decide +kernel
theorem dX4_layOut_4 : decode cX4_layOut 4 = .ok (.istore 4, 2) := by decide +kernel
theorem dX4_layOut_6 : decode cX4_layOut 6 = .ok (.aload_n 0, 1) := by decide +kernel
theorem dX4_layOut_7 : decode cX4_layOut 7 = .ok (.dup, 1) := by decide +kernel
theorem dX4_layOut_8 : decode cX4_layOut 8 = .ok (.getfield 42, 3) := by decide +kernel
theorem dX4_layOut_11 : decode cX4_layOut 11 = .ok (.iconst 1, 1) := by decide +kernel
theorem dX4_layOut_12 : decode cX4_layOut 12 = .ok (.iadd, 1) := by decide +kernel
theorem dX4_layOut_13 : decode cX4_layOut 13 = .ok (.putfield 42, 3) := by decide +kernel
theorem dX4_layOut_16 : decode cX4_layOut 16 = .ok (.aload_n 0, 1) := by decide +kernel
theorem dX4_layOut_17 : decode cX4_layOut 17 = .ok (.getfield 20, 3) := by decide +kernel
theorem dX4_layOut_20 : decode cX4_layOut 20 = .ok (.iload 4, 2) := by decide +kernel
theorem dX4_layOut_22 : decode cX4_layOut 22 = .ok (.iconst 2, 1) := by decide +kernel
theorem dX4_layOut_23 : decode cX4_layOut 23 = .ok (.imul, 1) := by decide +kernel
theorem dX4_layOut_24 : decode cX4_layOut 24 = .ok (.iconst 1, 1) := by decide +kernel
theorem dX4_layOut_25 : decode cX4_layOut 25 = .ok (.iadd, 1) := by decide +kernel
theorem dX4_layOut_26 : decode cX4_layOut 26 = .ok (.iload_n 2, 1) := by decide +kernel
theorem dX4_layOut_27 : decode cX4_layOut 27 = .ok (.invokevirtual 53, 3) := by decide +kernel
theorem dX4_layOut_30 : decode cX4_layOut 30 = .ok (.aload_n 0, 1) := by decide +kernel
theorem dX4_layOut_31 : decode cX4_layOut 31 = .ok (.getfield 20, 3) := by decide +kernel
theorem dX4_layOut_34 : decode cX4_layOut 34 = .ok (.iload 4, 2) := by decide +kernel
theorem dX4_layOut_36 : decode cX4_layOut 36 = .ok (.iconst 2, 1) := by decide +kernel
theorem dX4_layOut_37 : decode cX4_layOut 37 = .ok (.imul, 1) := by decide +kernel
theorem dX4_layOut_38 : decode cX4_layOut 38 = .ok (.iconst 0, 1) := by decide +kernel
theorem dX4_layOut_39 : decode cX4_layOut 39 = .ok (.iadd, 1) := by decide +kernel
theorem dX4_layOut_40 : decode cX4_layOut 40 = .ok (.iload_n 3, 1) := by decide +kernel
theorem dX4_layOut_41 : decode cX4_layOut 41 = .ok (.invokevirtual 53, 3) := by decide +kernel
theorem dX4_layOut_44 : decode cX4_layOut 44 = .ok (.aload_n 0, 1) := by decide +kernel
theorem dX4_layOut_45 : decode cX4_layOut 45 = .ok (.getfield 24, 3) := by decide +kernel
theorem dX4_layOut_48 : decode cX4_layOut 48 = .ok (.iload 4, 2) := by decide +kernel
theorem dX4_layOut_50 : decode cX4_layOut 50 = .ok (.iload_n 1, 1) := by decide +kernel
theorem dX4_layOut_51 : decode cX4_layOut 51 = .ok (.invokevirtual 53, 3) := by decide +kernel
theorem dX4_layOut_54 : decode cX4_layOut 54 = .ok (.iload 4, 2) := by decide +kernel
theorem dX4_layOut_56 : decode cX4_layOut 56 = .ok (.bipush 25, 2) := by decide +kernel
theorem dX4_layOut_58 : decode cX4_layOut 58 = .ok (.imul, 1) := by decide +kernel
theorem dX4_layOut_59 : decode cX4_layOut 59 = .ok (.istore 5, 2) := by decide +kernel
theorem dX4_layOut_61 : decode cX4_layOut 61 = .ok (.iload 5, 2) := by decide +kernel
theorem dX4_layOut_63 : decode cX4_layOut 63 = .ok (.aload_n 0, 1) := by decide +kernel
theorem dX4_layOut_64 : decode cX4_layOut 64 = .ok (.invokevirtual 57, 3) := by decide +kernel
theorem dX4_layOut_67 : decode cX4_layOut 67 = .ok (.if_icmp .ge 45, 3) := by decide +kernel
theorem dX4_layOut_70 : decode cX4_layOut 70 = .ok (.aload_n 0, 1) := by decide +kernel
theorem dX4_layOut_71 : decode cX4_layOut 71 = .ok (.iload 5, 2) := by decide +kernel
theorem dX4_layOut_73 : decode cX4_layOut 73 = .ok (.invokevirtual 61, 3) := by decide +kernel
theorem dX4_layOut_76 : decode cX4_layOut 76 = .ok (.iload 5, 2) := by decide +kernel
theorem dX4_layOut_78 : decode cX4_layOut 78 = .ok (.iconst 1, 1) := by decide +kernel
theorem dX4_layOut_79 : decode cX4_layOut 79 = .ok (.invokestatic 64, 3) := by decide +kernel
theorem dX4_layOut_82 : decode cX4_layOut 82 = .ok (.iload_n 2, 1) := by decide +kernel
theorem dX4_layOut_83 : decode cX4_layOut 83 = .ok (.if_icmp .ge 13, 3) := by decide +kernel
theorem dX4_layOut_86 : decode cX4_layOut 86 = .ok (.iload 5, 2) := by decide +kernel
theorem dX4_layOut_88 : decode cX4_layOut 88 = .ok (.iconst 0, 1) := by decide +kernel
theorem dX4_layOut_89 : decode cX4_layOut 89 = .ok (.invokestatic 64, 3) := by decide +kernel
theorem dX4_layOut_92 : decode cX4_layOut 92 = .ok (.iload_n 3, 1) := by decide +kernel
theorem dX4_layOut_93 : decode cX4_layOut 93 = .ok (.if_icmp .lt 13, 3) := by decide +kernel
theorem dX4_layOut_96 : decode cX4_layOut 96 = .ok (.aload_n 0, 1) := by decide +kernel
theorem dX4_layOut_97 : decode cX4_layOut 97 = .ok (.getfield 27, 3) := by decide +kernel
theorem dX4_layOut_100 : decode cX4_layOut 100 = .ok (.iload 5, 2) := by decide +kernel
theorem dX4_layOut_102 : decode cX4_layOut 102 = .ok (.iconst (-1), 1) := by decide +kernel
theorem dX4_layOut_103 : decode cX4_layOut 103 = .ok (.invokevirtual 53, 3) := by decide +kernel
theorem dX4_layOut_106 : decode cX4_layOut 106 = .ok (.iinc 5 1, 3) := by decide +kernel
theorem dX4_layOut_109 : decode cX4_layOut 109 = .ok (.goto (-48), 3) := by decide +kernel
theorem dX4_layOut_112 : decode cX4_layOut 112 = .ok (.return_, 1) := by decide +kernel
theorem dX4_makeEmpty_0 : decode cX4_makeEmpty 0 = .ok (.aload_n 0, 1) := by decide +kernel
theorem dX4_makeEmpty_1 : decode cX4_makeEmpty 1 = .ok (.getfield 27, 3) := by decide +kernel
theorem dX4_makeEmpty_4 : decode cX4_makeEmpty 4 = .ok (.iload_n 1, 1) := by decide +kernel
theorem dX4_makeEmpty_5 : decode cX4_makeEmpty 5 = .ok (.iload_n 1, 1) := by decide +kernel
theorem dX4_makeEmpty_6 : decode cX4_makeEmpty 6 = .ok (.invokevirtual 53, 3) := by decide +kernel
theorem dX4_makeEmpty_9 : decode cX4_makeEmpty 9 = .ok (.aload_n 0, 1) := by decide +kernel
theorem dX4_makeEmpty_10 : decode cX4_makeEmpty 10 = .ok (.getfield 30, 3) := by decide +kernel
theorem dX4_makeEmpty_13 : decode cX4_makeEmpty 13 = .ok (.iload_n 1, 1) := by decide +kernel
theorem dX4_makeEmpty_14 : decode cX4_makeEmpty 14 = .ok (.iconst 0, 1) := by decide +kernel
theorem dX4_makeEmpty_15 : decode cX4_makeEmpty 15 = .ok (.invokevirtual 53, 3) := by decide +kernel
theorem dX4_makeEmpty_18 : decode cX4_makeEmpty 18 = .ok (.aload_n 0, 1) := by decide +kernel
theorem dX4_makeEmpty_19 : decode cX4_makeEmpty 19 = .ok (.getfield 33, 3) := by decide +kernel
theorem dX4_makeEmpty_22 : decode cX4_makeEmpty 22 = .ok (.iload_n 1, 1) := by decide +kernel
theorem dX4_makeEmpty_23 : decode cX4_makeEmpty 23 = .ok (.iconst 0, 1) := by decide +kernel
theorem dX4_makeEmpty_24 : decode cX4_makeEmpty 24 = .ok (.invokevirtual 53, 3) := by decide +kernel
theorem dX4_makeEmpty_27 : decode cX4_makeEmpty 27 = .ok (.aload_n 0, 1) := by decide +kernel
theorem dX4_makeEmpty_28 : decode cX4_makeEmpty 28 = .ok (.getfield 36, 3) := by decide +kernel
theorem dX4_makeEmpty_31 : decode cX4_makeEmpty 31 = .ok (.iload_n 1, 1) := by decide +kernel
theorem dX4_makeEmpty_32 : decode cX4_makeEmpty 32 = .ok (.iconst 2, 1) := by decide +kernel
theorem dX4_makeEmpty_33 : decode cX4_makeEmpty 33 = .ok (.imul, 1) := by decide +kernel
theorem dX4_makeEmpty_34 : decode cX4_makeEmpty 34 = .ok (.iconst 1, 1) := by decide +kernel
theorem dX4_makeEmpty_35 : decode cX4_makeEmpty 35 = .ok (.iadd, 1) := by decide +kernel
theorem dX4_makeEmpty_36 : decode cX4_makeEmpty 36 = .ok (.iconst 1, 1) := by decide +kernel
theorem dX4_makeEmpty_37 : decode cX4_makeEmpty 37 = .ok (.invokevirtual 53, 3) := by decide +kernel
theorem dX4_makeEmpty_40 : decode cX4_makeEmpty 40 = .ok (.aload_n 0, 1) := by decide +kernel
theorem dX4_makeEmpty_41 : decode cX4_makeEmpty 41 = .ok (.getfield 36, 3) := by decide +kernel
theorem dX4_makeEmpty_44 : decode cX4_makeEmpty 44 = .ok (.iload_n 1, 1) := by decide +kernel
theorem dX4_makeEmpty_45 : decode cX4_makeEmpty 45 = .ok (.iconst 2, 1) := by decide +kernel
theorem dX4_makeEmpty_46 : decode cX4_makeEmpty 46 = .ok (.imul, 1) := by decide +kernel
theorem dX4_makeEmpty_47 : decode cX4_makeEmpty 47 = .ok (.iconst 0, 1) := by decide +kernel
theorem dX4_makeEmpty_48 : decode cX4_makeEmpty 48 = .ok (.iadd, 1) := by decide +kernel
theorem dX4_makeEmpty_49 : decode cX4_makeEmpty 49 = .ok (.iconst 1, 1) := by decide +kernel
theorem dX4_makeEmpty_50 : decode cX4_makeEmpty 50 = .ok (.invokevirtual 53, 3) := by decide +kernel
theorem dX4_makeEmpty_53 : decode cX4_makeEmpty 53 = .ok (.iconst 0, 1) := by decide +kernel
theorem dX4_makeEmpty_54 : decode cX4_makeEmpty 54 = .ok (.istore_n 2, 1) := by decide +kernel
theorem dX4_makeEmpty_55 : decode cX4_makeEmpty 55 = .ok (.iload_n 2, 1) := by decide +kernel
theorem dX4_makeEmpty_56 : decode cX4_makeEmpty 56 = .ok (.iconst 4, 1) := by decide +kernel
theorem dX4_makeEmpty_57 : decode cX4_makeEmpty 57 = .ok (.if_icmp .ge 22, 3) := by decide +kernel
theorem dX4_makeEmpty_60 : decode cX4_makeEmpty 60 = .ok (.aload_n 0, 1) := by decide +kernel
theorem dX4_makeEmpty_61 : decode cX4_makeEmpty 61 = .ok (.getfield 39, 3) := by decide +kernel
theorem dX4_makeEmpty_64 : decode cX4_makeEmpty 64 = .ok (.iload_n 1, 1) := by decide +kernel
theorem dX4_makeEmpty_65 : decode cX4_makeEmpty 65 = .ok (.iconst 4, 1) := by decide +kernel
theorem dX4_makeEmpty_66 : decode cX4_makeEmpty 66 = .ok (.imul, 1) := by decide +kernel
theorem dX4_makeEmpty_67 : decode cX4_makeEmpty 67 = .ok (.iload_n 2, 1) := by decide +kernel
theorem dX4_makeEmpty_68 : decode cX4_makeEmpty 68 = .ok (.iadd, 1) := by decide +kernel
theorem dX4_makeEmpty_69 : decode cX4_makeEmpty 69 = .ok (.iconst 0, 1) := by decide +kernel
theorem dX4_makeEmpty_70 : decode cX4_makeEmpty 70 = .ok (.invokevirtual 53, 3) := by decide +kernel
theorem dX4_makeEmpty_73 : decode cX4_makeEmpty 73 = .ok (.iinc 2 1, 3) := by decide +kernel
theorem dX4_makeEmpty_76 : decode cX4_makeEmpty 76 = .ok (.goto (-21), 3) := by decide +kernel
theorem dX4_makeEmpty_79 : decode cX4_makeEmpty 79 = .ok (.return_, 1) := by decide +kernel
theorem dX4_hasTable_0 : decode cX4_hasTable 0 = .ok (.iload_n 1, 1) := by decide +kernel
theorem dX4_hasTable_1 : decode cX4_hasTable 1 = .ok (.ifCond .lt 15, 3) := by decide +kernel
theorem dX4_hasTable_4 : decode cX4_hasTable 4 = .ok (.iload_n 1, 1) := by decide +kernel
theorem dX4_hasTable_5 : decode cX4_hasTable 5 = .ok (.aload_n 0, 1) := by decide +kernel
theorem dX4_hasTable_6 : decode cX4_hasTable 6 = .ok (.getfield 42, 3) := by decide +kernel
theorem dX4_hasTable_9 : decode cX4_hasTable 9 = .ok (.if_icmp .ge 7, 3) := by decide +kernel
theorem dX4_hasTable_12 : decode cX4_hasTable 12 = .ok (.iconst 1, 1) := by decide +kernel
theorem dX4_hasTable_13 : decode cX4_hasTable 13 = .ok (.goto 4, 3) := by decide +kernel
theorem dX4_hasTable_16 : decode cX4_hasTable 16 = .ok (.iconst 0, 1) := by decide +kernel
theorem dX4_hasTable_17 : decode cX4_hasTable 17 = .ok (.ireturn, 1) := by decide +kernel
theorem dX4_squareAt_0 : decode cX4_squareAt 0 = .ok (.aload_n 0, 1) := by decide +kernel
theorem dX4_squareAt_1 : decode cX4_squareAt 1 = .ok (.iload_n 1, 1) := by decide +kernel
theorem dX4_squareAt_2 : decode cX4_squareAt 2 = .ok (.invokevirtual 68, 3) := by decide +kernel
theorem dX4_squareAt_5 : decode cX4_squareAt 5 = .ok (.ifCond .eq 35, 3) := by decide +kernel
theorem dX4_squareAt_8 : decode cX4_squareAt 8 = .ok (.iload_n 2, 1) := by decide +kernel
theorem dX4_squareAt_9 : decode cX4_squareAt 9 = .ok (.ifCond .lt 31, 3) := by decide +kernel
theorem dX4_squareAt_12 : decode cX4_squareAt 12 = .ok (.iload_n 2, 1) := by decide +kernel
theorem dX4_squareAt_13 : decode cX4_squareAt 13 = .ok (.aload_n 0, 1) := by decide +kernel
theorem dX4_squareAt_14 : decode cX4_squareAt 14 = .ok (.iload_n 1, 1) := by decide +kernel
theorem dX4_squareAt_15 : decode cX4_squareAt 15 = .ok (.iconst 1, 1) := by decide +kernel
theorem dX4_squareAt_16 : decode cX4_squareAt 16 = .ok (.invokevirtual 72, 3) := by decide +kernel
theorem dX4_squareAt_19 : decode cX4_squareAt 19 = .ok (.if_icmp .ge 21, 3) := by decide +kernel
theorem dX4_squareAt_22 : decode cX4_squareAt 22 = .ok (.iload_n 3, 1) := by decide +kernel
theorem dX4_squareAt_23 : decode cX4_squareAt 23 = .ok (.ifCond .lt 17, 3) := by decide +kernel
theorem dX4_squareAt_26 : decode cX4_squareAt 26 = .ok (.iload_n 3, 1) := by decide +kernel
theorem dX4_squareAt_27 : decode cX4_squareAt 27 = .ok (.aload_n 0, 1) := by decide +kernel
theorem dX4_squareAt_28 : decode cX4_squareAt 28 = .ok (.iload_n 1, 1) := by decide +kernel
theorem dX4_squareAt_29 : decode cX4_squareAt 29 = .ok (.iconst 0, 1) := by decide +kernel
theorem dX4_squareAt_30 : decode cX4_squareAt 30 = .ok (.invokevirtual 72, 3) := by decide +kernel
theorem dX4_squareAt_33 : decode cX4_squareAt 33 = .ok (.if_icmp .ge 7, 3) := by decide +kernel
theorem dX4_squareAt_36 : decode cX4_squareAt 36 = .ok (.iconst 1, 1) := by decide +kernel
theorem dX4_squareAt_37 : decode cX4_squareAt 37 = .ok (.goto 4, 3) := by decide +kernel
theorem dX4_squareAt_40 : decode cX4_squareAt 40 = .ok (.iconst 0, 1) := by decide +kernel
theorem dX4_squareAt_41 : decode cX4_squareAt 41 = .ok (.istore 4, 2) := by decide +kernel
theorem dX4_squareAt_43 : decode cX4_squareAt 43 = .ok (.iload 4, 2) := by decide +kernel
theorem dX4_squareAt_45 : decode cX4_squareAt 45 = .ok (.ifCond .eq 16, 3) := by decide +kernel
theorem dX4_squareAt_48 : decode cX4_squareAt 48 = .ok (.iload_n 1, 1) := by decide +kernel
theorem dX4_squareAt_49 : decode cX4_squareAt 49 = .ok (.bipush 25, 2) := by decide +kernel
theorem dX4_squareAt_51 : decode cX4_squareAt 51 = .ok (.imul, 1) := by decide +kernel
theorem dX4_squareAt_52 : decode cX4_squareAt 52 = .ok (.iload_n 2, 1) := by decide +kernel
theorem dX4_squareAt_53 : decode cX4_squareAt 53 = .ok (.iconst 5, 1) := by decide +kernel
theorem dX4_squareAt_54 : decode cX4_squareAt 54 = .ok (.imul, 1) := by decide +kernel
theorem dX4_squareAt_55 : decode cX4_squareAt 55 = .ok (.iadd, 1) := by decide +kernel
theorem dX4_squareAt_56 : decode cX4_squareAt 56 = .ok (.iload_n 3, 1) := by decide +kernel
theorem dX4_squareAt_57 : decode cX4_squareAt 57 = .ok (.iadd, 1) := by decide +kernel
theorem dX4_squareAt_58 : decode cX4_squareAt 58 = .ok (.goto 4, 3) := by decide +kernel
theorem dX4_squareAt_61 : decode cX4_squareAt 61 = .ok (.iconst (-1), 1) := by decide +kernel
theorem dX4_squareAt_62 : decode cX4_squareAt 62 = .ok (.ireturn, 1) := by decide +kernel
theorem dX4_linesOf_0 : decode cX4_linesOf 0 = .ok (.aload_n 0, 1) := by decide +kernel
theorem dX4_linesOf_1 : decode cX4_linesOf 1 = .ok (.getfield 20, 3) := by decide +kernel
theorem dX4_linesOf_4 : decode cX4_linesOf 4 = .ok (.iload_n 1, 1) := by decide +kernel
theorem dX4_linesOf_5 : decode cX4_linesOf 5 = .ok (.iconst 2, 1) := by decide +kernel
theorem dX4_linesOf_6 : decode cX4_linesOf 6 = .ok (.imul, 1) := by decide +kernel
theorem dX4_linesOf_7 : decode cX4_linesOf 7 = .ok (.iload_n 2, 1) := by decide +kernel
theorem dX4_linesOf_8 : decode cX4_linesOf 8 = .ok (.iadd, 1) := by decide +kernel
theorem dX4_linesOf_9 : decode cX4_linesOf 9 = .ok (.invokevirtual 75, 3) := by decide +kernel
theorem dX4_linesOf_12 : decode cX4_linesOf 12 = .ok (.ireturn, 1) := by decide +kernel
theorem dX4_spanOf_0 : decode cX4_spanOf 0 = .ok (.aload_n 0, 1) := by decide +kernel
theorem dX4_spanOf_1 : decode cX4_spanOf 1 = .ok (.getfield 36, 3) := by decide +kernel
theorem dX4_spanOf_4 : decode cX4_spanOf 4 = .ok (.iload_n 1, 1) := by decide +kernel
theorem dX4_spanOf_5 : decode cX4_spanOf 5 = .ok (.iconst 2, 1) := by decide +kernel
theorem dX4_spanOf_6 : decode cX4_spanOf 6 = .ok (.imul, 1) := by decide +kernel
theorem dX4_spanOf_7 : decode cX4_spanOf 7 = .ok (.iload_n 2, 1) := by decide +kernel
theorem dX4_spanOf_8 : decode cX4_spanOf 8 = .ok (.iadd, 1) := by decide +kernel
theorem dX4_spanOf_9 : decode cX4_spanOf 9 = .ok (.invokevirtual 75, 3) := by decide +kernel
theorem dX4_spanOf_12 : decode cX4_spanOf 12 = .ok (.ireturn, 1) := by decide +kernel
theorem dX4_isCell_0 : decode cX4_isCell 0 = .ok (.iload_n 1, 1) := by decide +kernel
theorem dX4_isCell_1 : decode cX4_isCell 1 = .ok (.iconst (-1), 1) := by decide +kernel
theorem dX4_isCell_2 : decode cX4_isCell 2 = .ok (.if_icmp .eq 19, 3) := by decide +kernel
theorem dX4_isCell_5 : decode cX4_isCell 5 = .ok (.aload_n 0, 1) := by decide +kernel
theorem dX4_isCell_6 : decode cX4_isCell 6 = .ok (.getfield 27, 3) := by decide +kernel
theorem dX4_isCell_9 : decode cX4_isCell 9 = .ok (.iload_n 1, 1) := by decide +kernel
theorem dX4_isCell_10 : decode cX4_isCell 10 = .ok (.invokevirtual 75, 3) := by decide +kernel
theorem dX4_isCell_13 : decode cX4_isCell 13 = .ok (.iload_n 1, 1) := by decide +kernel
theorem dX4_isCell_14 : decode cX4_isCell 14 = .ok (.if_icmp .ne 7, 3) := by decide +kernel
theorem dX4_isCell_17 : decode cX4_isCell 17 = .ok (.iconst 1, 1) := by decide +kernel
theorem dX4_isCell_18 : decode cX4_isCell 18 = .ok (.goto 4, 3) := by decide +kernel
theorem dX4_isCell_21 : decode cX4_isCell 21 = .ok (.iconst 0, 1) := by decide +kernel
theorem dX4_isCell_22 : decode cX4_isCell 22 = .ok (.ireturn, 1) := by decide +kernel
theorem dX4_tableWithin_0 : decode cX4_tableWithin 0 = .ok (.aload_n 0, 1) := by decide +kernel
theorem dX4_tableWithin_1 : decode cX4_tableWithin 1 = .ok (.getfield 30, 3) := by decide +kernel
theorem dX4_tableWithin_4 : decode cX4_tableWithin 4 = .ok (.iload_n 1, 1) := by decide +kernel
theorem dX4_tableWithin_5 : decode cX4_tableWithin 5 = .ok (.invokevirtual 75, 3) := by decide +kernel
theorem dX4_tableWithin_8 : decode cX4_tableWithin 8 = .ok (.iconst 3, 1) := by decide +kernel
theorem dX4_tableWithin_9 : decode cX4_tableWithin 9 = .ok (.if_icmp .ne 14, 3) := by decide +kernel
theorem dX4_tableWithin_12 : decode cX4_tableWithin 12 = .ok (.aload_n 0, 1) := by decide +kernel
theorem dX4_tableWithin_13 : decode cX4_tableWithin 13 = .ok (.getfield 33, 3) := by decide +kernel
theorem dX4_tableWithin_16 : decode cX4_tableWithin 16 = .ok (.iload_n 1, 1) := by decide +kernel
theorem dX4_tableWithin_17 : decode cX4_tableWithin 17 = .ok (.invokevirtual 75, 3) := by decide +kernel
theorem dX4_tableWithin_20 : decode cX4_tableWithin 20 = .ok (.goto 4, 3) := by decide +kernel
theorem dX4_tableWithin_23 : decode cX4_tableWithin 23 = .ok (.iconst (-1), 1) := by decide +kernel
theorem dX4_tableWithin_24 : decode cX4_tableWithin 24 = .ok (.ireturn, 1) := by decide +kernel
theorem dX4_squaresEnd_0 : decode cX4_squaresEnd 0 = .ok (.aload_n 0, 1) := by decide +kernel
theorem dX4_squaresEnd_1 : decode cX4_squaresEnd 1 = .ok (.getfield 42, 3) := by decide +kernel
theorem dX4_squaresEnd_4 : decode cX4_squaresEnd 4 = .ok (.bipush 25, 2) := by decide +kernel
theorem dX4_squaresEnd_6 : decode cX4_squaresEnd 6 = .ok (.imul, 1) := by decide +kernel
theorem dX4_squaresEnd_7 : decode cX4_squaresEnd 7 = .ok (.ireturn, 1) := by decide +kernel
theorem dX4_ownerBeside_0 : decode cX4_ownerBeside 0 = .ok (.iload_n 1, 1) := by decide +kernel
theorem dX4_ownerBeside_1 : decode cX4_ownerBeside 1 = .ok (.iconst 1, 1) := by decide +kernel
theorem dX4_ownerBeside_2 : decode cX4_ownerBeside 2 = .ok (.invokestatic 64, 3) := by decide +kernel
theorem dX4_ownerBeside_5 : decode cX4_ownerBeside 5 = .ok (.iload_n 2, 1) := by decide +kernel
theorem dX4_ownerBeside_6 : decode cX4_ownerBeside 6 = .ok (.iconst 2, 1) := by decide +kernel
theorem dX4_ownerBeside_7 : decode cX4_ownerBeside 7 = .ok (.if_icmp .ne 7, 3) := by decide +kernel
theorem dX4_ownerBeside_10 : decode cX4_ownerBeside 10 = .ok (.iconst 1, 1) := by decide +kernel
theorem dX4_ownerBeside_11 : decode cX4_ownerBeside 11 = .ok (.goto 4, 3) := by decide +kernel
theorem dX4_ownerBeside_14 : decode cX4_ownerBeside 14 = .ok (.iconst 0, 1) := by decide +kernel
theorem dX4_ownerBeside_15 : decode cX4_ownerBeside 15 = .ok (.iadd, 1) := by decide +kernel
theorem dX4_ownerBeside_16 : decode cX4_ownerBeside 16 = .ok (.iload_n 2, 1) := by decide +kernel
theorem dX4_ownerBeside_17 : decode cX4_ownerBeside 17 = .ok (.ifCond .ne 7, 3) := by decide +kernel
theorem dX4_ownerBeside_20 : decode cX4_ownerBeside 20 = .ok (.iconst 1, 1) := by decide +kernel
theorem dX4_ownerBeside_21 : decode cX4_ownerBeside 21 = .ok (.goto 4, 3) := by decide +kernel
theorem dX4_ownerBeside_24 : decode cX4_ownerBeside 24 = .ok (.iconst 0, 1) := by decide +kernel
theorem dX4_ownerBeside_25 : decode cX4_ownerBeside 25 = .ok (.isub, 1) := by decide +kernel
theorem dX4_ownerBeside_26 : decode cX4_ownerBeside 26 = .ok (.istore_n 3, 1) := by decide +kernel
theorem dX4_ownerBeside_27 : decode cX4_ownerBeside 27 = .ok (.iload_n 1, 1) := by decide +kernel
theorem dX4_ownerBeside_28 : decode cX4_ownerBeside 28 = .ok (.iconst 0, 1) := by decide +kernel
theorem dX4_ownerBeside_29 : decode cX4_ownerBeside 29 = .ok (.invokestatic 64, 3) := by decide +kernel
theorem dX4_ownerBeside_32 : decode cX4_ownerBeside 32 = .ok (.iload_n 2, 1) := by decide +kernel
theorem dX4_ownerBeside_33 : decode cX4_ownerBeside 33 = .ok (.iconst 1, 1) := by decide +kernel
theorem dX4_ownerBeside_34 : decode cX4_ownerBeside 34 = .ok (.if_icmp .ne 7, 3) := by decide +kernel
theorem dX4_ownerBeside_37 : decode cX4_ownerBeside 37 = .ok (.iconst 1, 1) := by decide +kernel
theorem dX4_ownerBeside_38 : decode cX4_ownerBeside 38 = .ok (.goto 4, 3) := by decide +kernel
theorem dX4_ownerBeside_41 : decode cX4_ownerBeside 41 = .ok (.iconst 0, 1) := by decide +kernel
theorem dX4_ownerBeside_42 : decode cX4_ownerBeside 42 = .ok (.iadd, 1) := by decide +kernel
theorem dX4_ownerBeside_43 : decode cX4_ownerBeside 43 = .ok (.iload_n 2, 1) := by decide +kernel
theorem dX4_ownerBeside_44 : decode cX4_ownerBeside 44 = .ok (.iconst 3, 1) := by decide +kernel
theorem dX4_ownerBeside_45 : decode cX4_ownerBeside 45 = .ok (.if_icmp .ne 7, 3) := by decide +kernel
theorem dX4_ownerBeside_48 : decode cX4_ownerBeside 48 = .ok (.iconst 1, 1) := by decide +kernel
theorem dX4_ownerBeside_49 : decode cX4_ownerBeside 49 = .ok (.goto 4, 3) := by decide +kernel
theorem dX4_ownerBeside_52 : decode cX4_ownerBeside 52 = .ok (.iconst 0, 1) := by decide +kernel
theorem dX4_ownerBeside_53 : decode cX4_ownerBeside 53 = .ok (.isub, 1) := by decide +kernel
theorem dX4_ownerBeside_54 : decode cX4_ownerBeside 54 = .ok (.istore 4, 2) := by decide +kernel
theorem dX4_ownerBeside_56 : decode cX4_ownerBeside 56 = .ok (.iload_n 3, 1) := by decide +kernel
theorem dX4_ownerBeside_57 : decode cX4_ownerBeside 57 = .ok (.iconst 0, 1) := by decide +kernel
theorem dX4_ownerBeside_58 : decode cX4_ownerBeside 58 = .ok (.iconst 4, 1) := by decide +kernel
theorem dX4_ownerBeside_59 : decode cX4_ownerBeside 59 = .ok (.invokestatic 79, 3) := by decide +kernel
theorem dX4_ownerBeside_62 : decode cX4_ownerBeside 62 = .ok (.ifCond .eq 17, 3) := by decide +kernel
theorem dX4_ownerBeside_65 : decode cX4_ownerBeside 65 = .ok (.iload 4, 2) := by decide +kernel
theorem dX4_ownerBeside_67 : decode cX4_ownerBeside 67 = .ok (.iconst 0, 1) := by decide +kernel
theorem dX4_ownerBeside_68 : decode cX4_ownerBeside 68 = .ok (.iconst 4, 1) := by decide +kernel
theorem dX4_ownerBeside_69 : decode cX4_ownerBeside 69 = .ok (.invokestatic 79, 3) := by decide +kernel
theorem dX4_ownerBeside_72 : decode cX4_ownerBeside 72 = .ok (.ifCond .eq 7, 3) := by decide +kernel
theorem dX4_ownerBeside_75 : decode cX4_ownerBeside 75 = .ok (.iconst 1, 1) := by decide +kernel
theorem dX4_ownerBeside_76 : decode cX4_ownerBeside 76 = .ok (.goto 4, 3) := by decide +kernel
theorem dX4_ownerBeside_79 : decode cX4_ownerBeside 79 = .ok (.iconst 0, 1) := by decide +kernel
theorem dX4_ownerBeside_80 : decode cX4_ownerBeside 80 = .ok (.istore 5, 2) := by decide +kernel
theorem dX4_ownerBeside_82 : decode cX4_ownerBeside 82 = .ok (.iload_n 1, 1) := by decide +kernel
theorem dX4_ownerBeside_83 : decode cX4_ownerBeside 83 = .ok (.invokestatic 83, 3) := by decide +kernel
theorem dX4_ownerBeside_86 : decode cX4_ownerBeside 86 = .ok (.bipush 25, 2) := by decide +kernel
theorem dX4_ownerBeside_88 : decode cX4_ownerBeside 88 = .ok (.imul, 1) := by decide +kernel
theorem dX4_ownerBeside_89 : decode cX4_ownerBeside 89 = .ok (.istore 6, 2) := by decide +kernel
theorem dX4_ownerBeside_91 : decode cX4_ownerBeside 91 = .ok (.iload 5, 2) := by decide +kernel
theorem dX4_ownerBeside_93 : decode cX4_ownerBeside 93 = .ok (.ifCond .eq 22, 3) := by decide +kernel
theorem dX4_ownerBeside_96 : decode cX4_ownerBeside 96 = .ok (.aload_n 0, 1) := by decide +kernel
theorem dX4_ownerBeside_97 : decode cX4_ownerBeside 97 = .ok (.getfield 27, 3) := by decide +kernel
theorem dX4_ownerBeside_100 : decode cX4_ownerBeside 100 = .ok (.iload 6, 2) := by decide +kernel
theorem dX4_ownerBeside_102 : decode cX4_ownerBeside 102 = .ok (.iload_n 3, 1) := by decide +kernel
theorem dX4_ownerBeside_103 : decode cX4_ownerBeside 103 = .ok (.iconst 5, 1) := by decide +kernel
theorem dX4_ownerBeside_104 : decode cX4_ownerBeside 104 = .ok (.imul, 1) := by decide +kernel
theorem dX4_ownerBeside_105 : decode cX4_ownerBeside 105 = .ok (.iadd, 1) := by decide +kernel
theorem dX4_ownerBeside_106 : decode cX4_ownerBeside 106 = .ok (.iload 4, 2) := by decide +kernel
theorem dX4_ownerBeside_108 : decode cX4_ownerBeside 108 = .ok (.iadd, 1) := by decide +kernel
theorem dX4_ownerBeside_109 : decode cX4_ownerBeside 109 = .ok (.invokevirtual 75, 3) := by decide +kernel
theorem dX4_ownerBeside_112 : decode cX4_ownerBeside 112 = .ok (.goto 4, 3) := by decide +kernel
theorem dX4_ownerBeside_115 : decode cX4_ownerBeside 115 = .ok (.iconst (-1), 1) := by decide +kernel
theorem dX4_ownerBeside_116 : decode cX4_ownerBeside 116 = .ok (.ireturn, 1) := by decide +kernel
theorem dX4_canFill_0 : decode cX4_canFill 0 = .ok (.aload_n 0, 1) := by decide +kernel
theorem dX4_canFill_1 : decode cX4_canFill 1 = .ok (.iload_n 1, 1) := by decide +kernel
theorem dX4_canFill_2 : decode cX4_canFill 2 = .ok (.invokevirtual 86, 3) := by decide +kernel
theorem dX4_canFill_5 : decode cX4_canFill 5 = .ok (.ifCond .eq 36, 3) := by decide +kernel
theorem dX4_canFill_8 : decode cX4_canFill 8 = .ok (.aload_n 0, 1) := by decide +kernel
theorem dX4_canFill_9 : decode cX4_canFill 9 = .ok (.getfield 30, 3) := by decide +kernel
theorem dX4_canFill_12 : decode cX4_canFill 12 = .ok (.iload_n 1, 1) := by decide +kernel
theorem dX4_canFill_13 : decode cX4_canFill 13 = .ok (.invokevirtual 75, 3) := by decide +kernel
theorem dX4_canFill_16 : decode cX4_canFill 16 = .ok (.iconst 3, 1) := by decide +kernel
theorem dX4_canFill_17 : decode cX4_canFill 17 = .ok (.if_icmp .ne 20, 3) := by decide +kernel
theorem dX4_canFill_20 : decode cX4_canFill 20 = .ok (.aload_n 0, 1) := by decide +kernel
theorem dX4_canFill_21 : decode cX4_canFill 21 = .ok (.getfield 33, 3) := by decide +kernel
theorem dX4_canFill_24 : decode cX4_canFill 24 = .ok (.iload_n 1, 1) := by decide +kernel
theorem dX4_canFill_25 : decode cX4_canFill 25 = .ok (.invokevirtual 75, 3) := by decide +kernel
theorem dX4_canFill_28 : decode cX4_canFill 28 = .ok (.aload_n 0, 1) := by decide +kernel
theorem dX4_canFill_29 : decode cX4_canFill 29 = .ok (.getfield 42, 3) := by decide +kernel
theorem dX4_canFill_32 : decode cX4_canFill 32 = .ok (.iconst 1, 1) := by decide +kernel
theorem dX4_canFill_33 : decode cX4_canFill 33 = .ok (.isub, 1) := by decide +kernel
theorem dX4_canFill_34 : decode cX4_canFill 34 = .ok (.if_icmp .ne 7, 3) := by decide +kernel
theorem dX4_canFill_37 : decode cX4_canFill 37 = .ok (.iconst 1, 1) := by decide +kernel
theorem dX4_canFill_38 : decode cX4_canFill 38 = .ok (.goto 4, 3) := by decide +kernel
theorem dX4_canFill_41 : decode cX4_canFill 41 = .ok (.iconst 0, 1) := by decide +kernel
theorem dX4_canFill_42 : decode cX4_canFill 42 = .ok (.ireturn, 1) := by decide +kernel
theorem dX4_fill_0 : decode cX4_fill 0 = .ok (.aload_n 0, 1) := by decide +kernel
theorem dX4_fill_1 : decode cX4_fill 1 = .ok (.getfield 30, 3) := by decide +kernel
theorem dX4_fill_4 : decode cX4_fill 4 = .ok (.iload_n 1, 1) := by decide +kernel
theorem dX4_fill_5 : decode cX4_fill 5 = .ok (.invokevirtual 75, 3) := by decide +kernel
theorem dX4_fill_8 : decode cX4_fill 8 = .ok (.istore 4, 2) := by decide +kernel
theorem dX4_fill_10 : decode cX4_fill 10 = .ok (.iload 4, 2) := by decide +kernel
theorem dX4_fill_12 : decode cX4_fill 12 = .ok (.iconst 3, 1) := by decide +kernel
theorem dX4_fill_13 : decode cX4_fill 13 = .ok (.if_icmp .ne 13, 3) := by decide +kernel
theorem dX4_fill_16 : decode cX4_fill 16 = .ok (.aload_n 0, 1) := by decide +kernel
theorem dX4_fill_17 : decode cX4_fill 17 = .ok (.dup, 1) := by decide +kernel
theorem dX4_fill_18 : decode cX4_fill 18 = .ok (.getfield 42, 3) := by decide +kernel
theorem dX4_fill_21 : decode cX4_fill 21 = .ok (.iconst 1, 1) := by decide +kernel
theorem dX4_fill_22 : decode cX4_fill 22 = .ok (.isub, 1) := by decide +kernel
theorem dX4_fill_23 : decode cX4_fill 23 = .ok (.putfield 42, 3) := by decide +kernel
theorem dX4_fill_26 : decode cX4_fill 26 = .ok (.aload_n 0, 1) := by decide +kernel
theorem dX4_fill_27 : decode cX4_fill 27 = .ok (.getfield 30, 3) := by decide +kernel
theorem dX4_fill_30 : decode cX4_fill 30 = .ok (.iload_n 1, 1) := by decide +kernel
theorem dX4_fill_31 : decode cX4_fill 31 = .ok (.iload_n 2, 1) := by decide +kernel
theorem dX4_fill_32 : decode cX4_fill 32 = .ok (.invokevirtual 53, 3) := by decide +kernel
theorem dX4_fill_35 : decode cX4_fill 35 = .ok (.aload_n 0, 1) := by decide +kernel
theorem dX4_fill_36 : decode cX4_fill 36 = .ok (.getfield 33, 3) := by decide +kernel
theorem dX4_fill_39 : decode cX4_fill 39 = .ok (.iload_n 1, 1) := by decide +kernel
theorem dX4_fill_40 : decode cX4_fill 40 = .ok (.iload_n 2, 1) := by decide +kernel
theorem dX4_fill_41 : decode cX4_fill 41 = .ok (.iconst 1, 1) := by decide +kernel
theorem dX4_fill_42 : decode cX4_fill 42 = .ok (.if_icmp .eq 8, 3) := by decide +kernel
theorem dX4_fill_45 : decode cX4_fill 45 = .ok (.iload_n 2, 1) := by decide +kernel
theorem dX4_fill_46 : decode cX4_fill 46 = .ok (.iconst 2, 1) := by decide +kernel
theorem dX4_fill_47 : decode cX4_fill 47 = .ok (.if_icmp .ne 7, 3) := by decide +kernel
theorem dX4_fill_50 : decode cX4_fill 50 = .ok (.iload_n 3, 1) := by decide +kernel
theorem dX4_fill_51 : decode cX4_fill 51 = .ok (.goto 4, 3) := by decide +kernel
theorem dX4_fill_54 : decode cX4_fill 54 = .ok (.iconst 0, 1) := by decide +kernel
theorem dX4_fill_55 : decode cX4_fill 55 = .ok (.invokevirtual 53, 3) := by decide +kernel
theorem dX4_fill_58 : decode cX4_fill 58 = .ok (.iload 4, 2) := by decide +kernel
theorem dX4_fill_60 : decode cX4_fill 60 = .ok (.ireturn, 1) := by decide +kernel
theorem dX4_canCover_0 : decode cX4_canCover 0 = .ok (.iconst 0, 1) := by decide +kernel
theorem dX4_canCover_1 : decode cX4_canCover 1 = .ok (.istore 4, 2) := by decide +kernel
theorem dX4_canCover_3 : decode cX4_canCover 3 = .ok (.iload 4, 2) := by decide +kernel
theorem dX4_canCover_5 : decode cX4_canCover 5 = .ok (.iload_n 2, 1) := by decide +kernel
theorem dX4_canCover_6 : decode cX4_canCover 6 = .ok (.if_icmp .ge 59, 3) := by decide +kernel
theorem dX4_canCover_9 : decode cX4_canCover 9 = .ok (.iconst 0, 1) := by decide +kernel
theorem dX4_canCover_10 : decode cX4_canCover 10 = .ok (.istore 5, 2) := by decide +kernel
theorem dX4_canCover_12 : decode cX4_canCover 12 = .ok (.iload 5, 2) := by decide +kernel
theorem dX4_canCover_14 : decode cX4_canCover 14 = .ok (.iload_n 3, 1) := by decide +kernel
theorem dX4_canCover_15 : decode cX4_canCover 15 = .ok (.if_icmp .ge 44, 3) := by decide +kernel
theorem dX4_canCover_18 : decode cX4_canCover 18 = .ok (.aload_n 0, 1) := by decide +kernel
theorem dX4_canCover_19 : decode cX4_canCover 19 = .ok (.getfield 27, 3) := by decide +kernel
theorem dX4_canCover_22 : decode cX4_canCover 22 = .ok (.iload_n 1, 1) := by decide +kernel
theorem dX4_canCover_23 : decode cX4_canCover 23 = .ok (.iload 4, 2) := by decide +kernel
theorem dX4_canCover_25 : decode cX4_canCover 25 = .ok (.iconst 5, 1) := by decide +kernel
theorem dX4_canCover_26 : decode cX4_canCover 26 = .ok (.imul, 1) := by decide +kernel
theorem dX4_canCover_27 : decode cX4_canCover 27 = .ok (.iadd, 1) := by decide +kernel
theorem dX4_canCover_28 : decode cX4_canCover 28 = .ok (.iload 5, 2) := by decide +kernel
theorem dX4_canCover_30 : decode cX4_canCover 30 = .ok (.iadd, 1) := by decide +kernel
theorem dX4_canCover_31 : decode cX4_canCover 31 = .ok (.invokevirtual 75, 3) := by decide +kernel
theorem dX4_canCover_34 : decode cX4_canCover 34 = .ok (.istore 6, 2) := by decide +kernel
theorem dX4_canCover_36 : decode cX4_canCover 36 = .ok (.iload 6, 2) := by decide +kernel
theorem dX4_canCover_38 : decode cX4_canCover 38 = .ok (.iload_n 1, 1) := by decide +kernel
theorem dX4_canCover_39 : decode cX4_canCover 39 = .ok (.if_icmp .eq 14, 3) := by decide +kernel
theorem dX4_canCover_42 : decode cX4_canCover 42 = .ok (.aload_n 0, 1) := by decide +kernel
theorem dX4_canCover_43 : decode cX4_canCover 43 = .ok (.iload 6, 2) := by decide +kernel
theorem dX4_canCover_45 : decode cX4_canCover 45 = .ok (.invokevirtual 89, 3) := by decide +kernel
theorem dX4_canCover_48 : decode cX4_canCover 48 = .ok (.ifCond .ne 5, 3) := by decide +kernel
theorem dX4_canCover_51 : decode cX4_canCover 51 = .ok (.iconst 0, 1) := by decide +kernel
theorem dX4_canCover_52 : decode cX4_canCover 52 = .ok (.ireturn, 1) := by decide +kernel
theorem dX4_canCover_53 : decode cX4_canCover 53 = .ok (.iinc 5 1, 3) := by decide +kernel
theorem dX4_canCover_56 : decode cX4_canCover 56 = .ok (.goto (-44), 3) := by decide +kernel
theorem dX4_canCover_59 : decode cX4_canCover 59 = .ok (.iinc 4 1, 3) := by decide +kernel
theorem dX4_canCover_62 : decode cX4_canCover 62 = .ok (.goto (-59), 3) := by decide +kernel
theorem dX4_canCover_65 : decode cX4_canCover 65 = .ok (.iconst 1, 1) := by decide +kernel
theorem dX4_canCover_66 : decode cX4_canCover 66 = .ok (.ireturn, 1) := by decide +kernel
theorem dX4_isSingleEmpty_0 : decode cX4_isSingleEmpty 0 = .ok (.aload_n 0, 1) := by decide +kernel
theorem dX4_isSingleEmpty_1 : decode cX4_isSingleEmpty 1 = .ok (.getfield 30, 3) := by decide +kernel
theorem dX4_isSingleEmpty_4 : decode cX4_isSingleEmpty 4 = .ok (.iload_n 1, 1) := by decide +kernel
theorem dX4_isSingleEmpty_5 : decode cX4_isSingleEmpty 5 = .ok (.invokevirtual 75, 3) := by decide +kernel
theorem dX4_isSingleEmpty_8 : decode cX4_isSingleEmpty 8 = .ok (.ifCond .ne 27, 3) := by decide +kernel
theorem dX4_isSingleEmpty_11 : decode cX4_isSingleEmpty 11 = .ok (.aload_n 0, 1) := by decide +kernel
theorem dX4_isSingleEmpty_12 : decode cX4_isSingleEmpty 12 = .ok (.iload_n 1, 1) := by decide +kernel
theorem dX4_isSingleEmpty_13 : decode cX4_isSingleEmpty 13 = .ok (.iconst 1, 1) := by decide +kernel
theorem dX4_isSingleEmpty_14 : decode cX4_isSingleEmpty 14 = .ok (.invokevirtual 92, 3) := by decide +kernel
theorem dX4_isSingleEmpty_17 : decode cX4_isSingleEmpty 17 = .ok (.iconst 1, 1) := by decide +kernel
theorem dX4_isSingleEmpty_18 : decode cX4_isSingleEmpty 18 = .ok (.if_icmp .ne 17, 3) := by decide +kernel
theorem dX4_isSingleEmpty_21 : decode cX4_isSingleEmpty 21 = .ok (.aload_n 0, 1) := by decide +kernel
theorem dX4_isSingleEmpty_22 : decode cX4_isSingleEmpty 22 = .ok (.iload_n 1, 1) := by decide +kernel
theorem dX4_isSingleEmpty_23 : decode cX4_isSingleEmpty 23 = .ok (.iconst 0, 1) := by decide +kernel
theorem dX4_isSingleEmpty_24 : decode cX4_isSingleEmpty 24 = .ok (.invokevirtual 92, 3) := by decide +kernel
theorem dX4_isSingleEmpty_27 : decode cX4_isSingleEmpty 27 = .ok (.iconst 1, 1) := by decide +kernel
theorem dX4_isSingleEmpty_28 : decode cX4_isSingleEmpty 28 = .ok (.if_icmp .ne 7, 3) := by decide +kernel
theorem dX4_isSingleEmpty_31 : decode cX4_isSingleEmpty 31 = .ok (.iconst 1, 1) := by decide +kernel
theorem dX4_isSingleEmpty_32 : decode cX4_isSingleEmpty 32 = .ok (.goto 4, 3) := by decide +kernel
theorem dX4_isSingleEmpty_35 : decode cX4_isSingleEmpty 35 = .ok (.iconst 0, 1) := by decide +kernel
theorem dX4_isSingleEmpty_36 : decode cX4_isSingleEmpty 36 = .ok (.ireturn, 1) := by decide +kernel
theorem dX4_cover_0 : decode cX4_cover 0 = .ok (.aload_n 0, 1) := by decide +kernel
theorem dX4_cover_1 : decode cX4_cover 1 = .ok (.iload_n 1, 1) := by decide +kernel
theorem dX4_cover_2 : decode cX4_cover 2 = .ok (.aload_n 0, 1) := by decide +kernel
theorem dX4_cover_3 : decode cX4_cover 3 = .ok (.iload_n 1, 1) := by decide +kernel
theorem dX4_cover_4 : decode cX4_cover 4 = .ok (.iconst 1, 1) := by decide +kernel
theorem dX4_cover_5 : decode cX4_cover 5 = .ok (.invokevirtual 92, 3) := by decide +kernel
theorem dX4_cover_8 : decode cX4_cover 8 = .ok (.aload_n 0, 1) := by decide +kernel
theorem dX4_cover_9 : decode cX4_cover 9 = .ok (.iload_n 1, 1) := by decide +kernel
theorem dX4_cover_10 : decode cX4_cover 10 = .ok (.iconst 0, 1) := by decide +kernel
theorem dX4_cover_11 : decode cX4_cover 11 = .ok (.invokevirtual 92, 3) := by decide +kernel
theorem dX4_cover_14 : decode cX4_cover 14 = .ok (.iconst 0, 1) := by decide +kernel
theorem dX4_cover_15 : decode cX4_cover 15 = .ok (.invokevirtual 95, 3) := by decide +kernel
theorem dX4_cover_18 : decode cX4_cover 18 = .ok (.aload_n 0, 1) := by decide +kernel
theorem dX4_cover_19 : decode cX4_cover 19 = .ok (.iload_n 1, 1) := by decide +kernel
theorem dX4_cover_20 : decode cX4_cover 20 = .ok (.iload_n 2, 1) := by decide +kernel
theorem dX4_cover_21 : decode cX4_cover 21 = .ok (.iload_n 3, 1) := by decide +kernel
theorem dX4_cover_22 : decode cX4_cover 22 = .ok (.iconst 1, 1) := by decide +kernel
theorem dX4_cover_23 : decode cX4_cover 23 = .ok (.invokevirtual 95, 3) := by decide +kernel
theorem dX4_cover_26 : decode cX4_cover 26 = .ok (.aload_n 0, 1) := by decide +kernel
theorem dX4_cover_27 : decode cX4_cover 27 = .ok (.getfield 36, 3) := by decide +kernel
theorem dX4_cover_30 : decode cX4_cover 30 = .ok (.iload_n 1, 1) := by decide +kernel
theorem dX4_cover_31 : decode cX4_cover 31 = .ok (.iconst 2, 1) := by decide +kernel
theorem dX4_cover_32 : decode cX4_cover 32 = .ok (.imul, 1) := by decide +kernel
theorem dX4_cover_33 : decode cX4_cover 33 = .ok (.iconst 1, 1) := by decide +kernel
theorem dX4_cover_34 : decode cX4_cover 34 = .ok (.iadd, 1) := by decide +kernel
theorem dX4_cover_35 : decode cX4_cover 35 = .ok (.iload_n 2, 1) := by decide +kernel
theorem dX4_cover_36 : decode cX4_cover 36 = .ok (.invokevirtual 53, 3) := by decide +kernel
theorem dX4_cover_39 : decode cX4_cover 39 = .ok (.aload_n 0, 1) := by decide +kernel
theorem dX4_cover_40 : decode cX4_cover 40 = .ok (.getfield 36, 3) := by decide +kernel
theorem dX4_cover_43 : decode cX4_cover 43 = .ok (.iload_n 1, 1) := by decide +kernel
theorem dX4_cover_44 : decode cX4_cover 44 = .ok (.iconst 2, 1) := by decide +kernel
theorem dX4_cover_45 : decode cX4_cover 45 = .ok (.imul, 1) := by decide +kernel
theorem dX4_cover_46 : decode cX4_cover 46 = .ok (.iconst 0, 1) := by decide +kernel
theorem dX4_cover_47 : decode cX4_cover 47 = .ok (.iadd, 1) := by decide +kernel
theorem dX4_cover_48 : decode cX4_cover 48 = .ok (.iload_n 3, 1) := by decide +kernel
theorem dX4_cover_49 : decode cX4_cover 49 = .ok (.invokevirtual 53, 3) := by decide +kernel
theorem dX4_cover_52 : decode cX4_cover 52 = .ok (.return_, 1) := by decide +kernel
theorem dX4_giveSquares_0 : decode cX4_giveSquares 0 = .ok (.iconst 0, 1) := by decide +kernel
theorem dX4_giveSquares_1 : decode cX4_giveSquares 1 = .ok (.istore 5, 2) := by decide +kernel
theorem dX4_giveSquares_3 : decode cX4_giveSquares 3 = .ok (.iload 5, 2) := by decide +kernel
theorem dX4_giveSquares_5 : decode cX4_giveSquares 5 = .ok (.iload_n 2, 1) := by decide +kernel
theorem dX4_giveSquares_6 : decode cX4_giveSquares 6 = .ok (.if_icmp .ge 67, 3) := by decide +kernel
theorem dX4_giveSquares_9 : decode cX4_giveSquares 9 = .ok (.iconst 0, 1) := by decide +kernel
theorem dX4_giveSquares_10 : decode cX4_giveSquares 10 = .ok (.istore 6, 2) := by decide +kernel
theorem dX4_giveSquares_12 : decode cX4_giveSquares 12 = .ok (.iload 6, 2) := by decide +kernel
theorem dX4_giveSquares_14 : decode cX4_giveSquares 14 = .ok (.iload_n 3, 1) := by decide +kernel
theorem dX4_giveSquares_15 : decode cX4_giveSquares 15 = .ok (.if_icmp .ge 52, 3) := by decide +kernel
theorem dX4_giveSquares_18 : decode cX4_giveSquares 18 = .ok (.iload_n 1, 1) := by decide +kernel
theorem dX4_giveSquares_19 : decode cX4_giveSquares 19 = .ok (.iload 5, 2) := by decide +kernel
theorem dX4_giveSquares_21 : decode cX4_giveSquares 21 = .ok (.iconst 5, 1) := by decide +kernel
theorem dX4_giveSquares_22 : decode cX4_giveSquares 22 = .ok (.imul, 1) := by decide +kernel
theorem dX4_giveSquares_23 : decode cX4_giveSquares 23 = .ok (.iadd, 1) := by decide +kernel
theorem dX4_giveSquares_24 : decode cX4_giveSquares 24 = .ok (.iload 6, 2) := by decide +kernel
theorem dX4_giveSquares_26 : decode cX4_giveSquares 26 = .ok (.iadd, 1) := by decide +kernel
theorem dX4_giveSquares_27 : decode cX4_giveSquares 27 = .ok (.istore 7, 2) := by decide +kernel
theorem dX4_giveSquares_29 : decode cX4_giveSquares 29 = .ok (.iload 7, 2) := by decide +kernel
theorem dX4_giveSquares_31 : decode cX4_giveSquares 31 = .ok (.iload_n 1, 1) := by decide +kernel
theorem dX4_giveSquares_32 : decode cX4_giveSquares 32 = .ok (.if_icmp .eq 29, 3) := by decide +kernel
theorem dX4_giveSquares_35 : decode cX4_giveSquares 35 = .ok (.aload_n 0, 1) := by decide +kernel
theorem dX4_giveSquares_36 : decode cX4_giveSquares 36 = .ok (.iload 7, 2) := by decide +kernel
theorem dX4_giveSquares_38 : decode cX4_giveSquares 38 = .ok (.invokevirtual 61, 3) := by decide +kernel
theorem dX4_giveSquares_41 : decode cX4_giveSquares 41 = .ok (.aload_n 0, 1) := by decide +kernel
theorem dX4_giveSquares_42 : decode cX4_giveSquares 42 = .ok (.getfield 27, 3) := by decide +kernel
theorem dX4_giveSquares_45 : decode cX4_giveSquares 45 = .ok (.iload 7, 2) := by decide +kernel
theorem dX4_giveSquares_47 : decode cX4_giveSquares 47 = .ok (.iload 4, 2) := by decide +kernel
theorem dX4_giveSquares_49 : decode cX4_giveSquares 49 = .ok (.ifCond .eq 7, 3) := by decide +kernel
theorem dX4_giveSquares_52 : decode cX4_giveSquares 52 = .ok (.iload_n 1, 1) := by decide +kernel
theorem dX4_giveSquares_53 : decode cX4_giveSquares 53 = .ok (.goto 5, 3) := by decide +kernel
theorem dX4_giveSquares_56 : decode cX4_giveSquares 56 = .ok (.iload 7, 2) := by decide +kernel
theorem dX4_giveSquares_58 : decode cX4_giveSquares 58 = .ok (.invokevirtual 53, 3) := by decide +kernel
theorem dX4_giveSquares_61 : decode cX4_giveSquares 61 = .ok (.iinc 6 1, 3) := by decide +kernel
theorem dX4_giveSquares_64 : decode cX4_giveSquares 64 = .ok (.goto (-52), 3) := by decide +kernel
theorem dX4_giveSquares_67 : decode cX4_giveSquares 67 = .ok (.iinc 5 1, 3) := by decide +kernel
theorem dX4_giveSquares_70 : decode cX4_giveSquares 70 = .ok (.goto (-67), 3) := by decide +kernel
theorem dX4_giveSquares_73 : decode cX4_giveSquares 73 = .ok (.return_, 1) := by decide +kernel
theorem dX4_countSquares_0 : decode cX4_countSquares 0 = .ok (.iconst 0, 1) := by decide +kernel
theorem dX4_countSquares_1 : decode cX4_countSquares 1 = .ok (.istore_n 1, 1) := by decide +kernel
theorem dX4_countSquares_2 : decode cX4_countSquares 2 = .ok (.iconst 0, 1) := by decide +kernel
theorem dX4_countSquares_3 : decode cX4_countSquares 3 = .ok (.istore_n 2, 1) := by decide +kernel
theorem dX4_countSquares_4 : decode cX4_countSquares 4 = .ok (.iload_n 2, 1) := by decide +kernel
theorem dX4_countSquares_5 : decode cX4_countSquares 5 = .ok (.aload_n 0, 1) := by decide +kernel
theorem dX4_countSquares_6 : decode cX4_countSquares 6 = .ok (.getfield 42, 3) := by decide +kernel
theorem dX4_countSquares_9 : decode cX4_countSquares 9 = .ok (.if_icmp .ge 25, 3) := by decide +kernel
theorem dX4_countSquares_12 : decode cX4_countSquares 12 = .ok (.iload_n 1, 1) := by decide +kernel
theorem dX4_countSquares_13 : decode cX4_countSquares 13 = .ok (.aload_n 0, 1) := by decide +kernel
theorem dX4_countSquares_14 : decode cX4_countSquares 14 = .ok (.iload_n 2, 1) := by decide +kernel
theorem dX4_countSquares_15 : decode cX4_countSquares 15 = .ok (.iconst 1, 1) := by decide +kernel
theorem dX4_countSquares_16 : decode cX4_countSquares 16 = .ok (.invokevirtual 72, 3) := by decide +kernel
theorem dX4_countSquares_19 : decode cX4_countSquares 19 = .ok (.aload_n 0, 1) := by decide +kernel
theorem dX4_countSquares_20 : decode cX4_countSquares 20 = .ok (.iload_n 2, 1) := by decide +kernel
theorem dX4_countSquares_21 : decode cX4_countSquares 21 = .ok (.iconst 0, 1) := by decide +kernel
theorem dX4_countSquares_22 : decode cX4_countSquares 22 = .ok (.invokevirtual 72, 3) := by decide +kernel
theorem dX4_countSquares_25 : decode cX4_countSquares 25 = .ok (.imul, 1) := by decide +kernel
theorem dX4_countSquares_26 : decode cX4_countSquares 26 = .ok (.iadd, 1) := by decide +kernel
theorem dX4_countSquares_27 : decode cX4_countSquares 27 = .ok (.istore_n 1, 1) := by decide +kernel
theorem dX4_countSquares_28 : decode cX4_countSquares 28 = .ok (.iinc 2 1, 3) := by decide +kernel
theorem dX4_countSquares_31 : decode cX4_countSquares 31 = .ok (.goto (-27), 3) := by decide +kernel
theorem dX4_countSquares_34 : decode cX4_countSquares 34 = .ok (.iload_n 1, 1) := by decide +kernel
theorem dX4_countSquares_35 : decode cX4_countSquares 35 = .ok (.ireturn, 1) := by decide +kernel
theorem dX4_countCells_0 : decode cX4_countCells 0 = .ok (.iconst 0, 1) := by decide +kernel
theorem dX4_countCells_1 : decode cX4_countCells 1 = .ok (.istore_n 1, 1) := by decide +kernel
theorem dX4_countCells_2 : decode cX4_countCells 2 = .ok (.iconst 0, 1) := by decide +kernel
theorem dX4_countCells_3 : decode cX4_countCells 3 = .ok (.istore_n 2, 1) := by decide +kernel
theorem dX4_countCells_4 : decode cX4_countCells 4 = .ok (.iload_n 2, 1) := by decide +kernel
theorem dX4_countCells_5 : decode cX4_countCells 5 = .ok (.aload_n 0, 1) := by decide +kernel
theorem dX4_countCells_6 : decode cX4_countCells 6 = .ok (.invokevirtual 57, 3) := by decide +kernel
theorem dX4_countCells_9 : decode cX4_countCells 9 = .ok (.if_icmp .ge 25, 3) := by decide +kernel
theorem dX4_countCells_12 : decode cX4_countCells 12 = .ok (.iload_n 1, 1) := by decide +kernel
theorem dX4_countCells_13 : decode cX4_countCells 13 = .ok (.aload_n 0, 1) := by decide +kernel
theorem dX4_countCells_14 : decode cX4_countCells 14 = .ok (.iload_n 2, 1) := by decide +kernel
theorem dX4_countCells_15 : decode cX4_countCells 15 = .ok (.invokevirtual 86, 3) := by decide +kernel
theorem dX4_countCells_18 : decode cX4_countCells 18 = .ok (.ifCond .eq 7, 3) := by decide +kernel
theorem dX4_countCells_21 : decode cX4_countCells 21 = .ok (.iconst 1, 1) := by decide +kernel
theorem dX4_countCells_22 : decode cX4_countCells 22 = .ok (.goto 4, 3) := by decide +kernel
theorem dX4_countCells_25 : decode cX4_countCells 25 = .ok (.iconst 0, 1) := by decide +kernel
theorem dX4_countCells_26 : decode cX4_countCells 26 = .ok (.iadd, 1) := by decide +kernel
theorem dX4_countCells_27 : decode cX4_countCells 27 = .ok (.istore_n 1, 1) := by decide +kernel
theorem dX4_countCells_28 : decode cX4_countCells 28 = .ok (.iinc 2 1, 3) := by decide +kernel
theorem dX4_countCells_31 : decode cX4_countCells 31 = .ok (.goto (-27), 3) := by decide +kernel
theorem dX4_countCells_34 : decode cX4_countCells 34 = .ok (.iload_n 1, 1) := by decide +kernel
theorem dX4_countCells_35 : decode cX4_countCells 35 = .ok (.ireturn, 1) := by decide +kernel
theorem dX4_countKind_0 : decode cX4_countKind 0 = .ok (.iconst 0, 1) := by decide +kernel
theorem dX4_countKind_1 : decode cX4_countKind 1 = .ok (.istore_n 2, 1) := by decide +kernel
theorem dX4_countKind_2 : decode cX4_countKind 2 = .ok (.iconst 0, 1) := by decide +kernel
theorem dX4_countKind_3 : decode cX4_countKind 3 = .ok (.istore_n 3, 1) := by decide +kernel
theorem dX4_countKind_4 : decode cX4_countKind 4 = .ok (.iload_n 3, 1) := by decide +kernel
theorem dX4_countKind_5 : decode cX4_countKind 5 = .ok (.aload_n 0, 1) := by decide +kernel
theorem dX4_countKind_6 : decode cX4_countKind 6 = .ok (.invokevirtual 57, 3) := by decide +kernel
theorem dX4_countKind_9 : decode cX4_countKind 9 = .ok (.if_icmp .ge 37, 3) := by decide +kernel
theorem dX4_countKind_12 : decode cX4_countKind 12 = .ok (.iload_n 2, 1) := by decide +kernel
theorem dX4_countKind_13 : decode cX4_countKind 13 = .ok (.aload_n 0, 1) := by decide +kernel
theorem dX4_countKind_14 : decode cX4_countKind 14 = .ok (.iload_n 3, 1) := by decide +kernel
theorem dX4_countKind_15 : decode cX4_countKind 15 = .ok (.invokevirtual 86, 3) := by decide +kernel
theorem dX4_countKind_18 : decode cX4_countKind 18 = .ok (.ifCond .eq 19, 3) := by decide +kernel
theorem dX4_countKind_21 : decode cX4_countKind 21 = .ok (.aload_n 0, 1) := by decide +kernel
theorem dX4_countKind_22 : decode cX4_countKind 22 = .ok (.getfield 30, 3) := by decide +kernel
theorem dX4_countKind_25 : decode cX4_countKind 25 = .ok (.iload_n 3, 1) := by decide +kernel
theorem dX4_countKind_26 : decode cX4_countKind 26 = .ok (.invokevirtual 75, 3) := by decide +kernel
theorem dX4_countKind_29 : decode cX4_countKind 29 = .ok (.iload_n 1, 1) := by decide +kernel
theorem dX4_countKind_30 : decode cX4_countKind 30 = .ok (.if_icmp .ne 7, 3) := by decide +kernel
theorem dX4_countKind_33 : decode cX4_countKind 33 = .ok (.iconst 1, 1) := by decide +kernel
theorem dX4_countKind_34 : decode cX4_countKind 34 = .ok (.goto 4, 3) := by decide +kernel
theorem dX4_countKind_37 : decode cX4_countKind 37 = .ok (.iconst 0, 1) := by decide +kernel
theorem dX4_countKind_38 : decode cX4_countKind 38 = .ok (.iadd, 1) := by decide +kernel
theorem dX4_countKind_39 : decode cX4_countKind 39 = .ok (.istore_n 2, 1) := by decide +kernel
theorem dX4_countKind_40 : decode cX4_countKind 40 = .ok (.iinc 3 1, 3) := by decide +kernel
theorem dX4_countKind_43 : decode cX4_countKind 43 = .ok (.goto (-39), 3) := by decide +kernel
theorem dX4_countKind_46 : decode cX4_countKind 46 = .ok (.iload_n 2, 1) := by decide +kernel
theorem dX4_countKind_47 : decode cX4_countKind 47 = .ok (.ireturn, 1) := by decide +kernel

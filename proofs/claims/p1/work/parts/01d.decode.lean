theorem dX0_init_0 : decode cX0_init 0 = .ok (.aload_n 0, 1) := by decide +kernel
theorem dX0_init_1 : decode cX0_init 1 = .ok (.invokespecial 3, 3) := by decide +kernel
theorem dX0_init_4 : decode cX0_init 4 = .ok (.aload_n 0, 1) := by decide +kernel
theorem dX0_init_5 : decode cX0_init 5 = .ok (.aload_n 1, 1) := by decide +kernel
theorem dX0_init_6 : decode cX0_init 6 = .ok (.putfield 9, 3) := by decide +kernel
theorem dX0_init_9 : decode cX0_init 9 = .ok (.return_, 1) := by decide +kernel
theorem dX0_start_0 : decode cX0_start 0 = .ok (.aload_n 0, 1) := by decide +kernel
theorem dX0_start_1 : decode cX0_start 1 = .ok (.iload_n 1, 1) := by decide +kernel
theorem dX0_start_2 : decode cX0_start 2 = .ok (.putfield 15, 3) := by decide +kernel
theorem dX0_start_5 : decode cX0_start 5 = .ok (.aload_n 0, 1) := by decide +kernel
theorem dX0_start_6 : decode cX0_start 6 = .ok (.aload_n 0, 1) := by decide +kernel
theorem dX0_start_7 : decode cX0_start 7 = .ok (.getfield 9, 3) := by decide +kernel
theorem dX0_start_10 : decode cX0_start 10 = .ok (.getfield 19, 3) := by decide +kernel
theorem dX0_start_13 : decode cX0_start 13 = .ok (.i2l, 1) := by decide +kernel
theorem dX0_start_14 : decode cX0_start 14 = .ok (.putfield 24, 3) := by decide +kernel
theorem dX0_start_17 : decode cX0_start 17 = .ok (.return_, 1) := by decide +kernel
theorem dX0_pick_0 : decode cX0_pick 0 = .ok (.aload_n 0, 1) := by decide +kernel
theorem dX0_pick_1 : decode cX0_pick 1 = .ok (.getfield 15, 3) := by decide +kernel
theorem dX0_pick_4 : decode cX0_pick 4 = .ok (.tableswitch 54 1 4 #[32, 37, 43, 48], 32) := by decide +kernel
theorem dX0_pick_36 : decode cX0_pick 36 = .ok (.aload_n 1, 1) := by decide +kernel
theorem dX0_pick_37 : decode cX0_pick 37 = .ok (.invokevirtual 28, 3) := by decide +kernel
theorem dX0_pick_40 : decode cX0_pick 40 = .ok (.ireturn, 1) := by decide +kernel
theorem dX0_pick_41 : decode cX0_pick 41 = .ok (.aload_n 1, 1) := by decide +kernel
theorem dX0_pick_42 : decode cX0_pick 42 = .ok (.iconst 0, 1) := by decide +kernel
theorem dX0_pick_43 : decode cX0_pick 43 = .ok (.invokevirtual 34, 3) := by decide +kernel
theorem dX0_pick_46 : decode cX0_pick 46 = .ok (.ireturn, 1) := by decide +kernel
theorem dX0_pick_47 : decode cX0_pick 47 = .ok (.aload_n 1, 1) := by decide +kernel
theorem dX0_pick_48 : decode cX0_pick 48 = .ok (.invokevirtual 38, 3) := by decide +kernel
theorem dX0_pick_51 : decode cX0_pick 51 = .ok (.ireturn, 1) := by decide +kernel
theorem dX0_pick_52 : decode cX0_pick 52 = .ok (.aload_n 0, 1) := by decide +kernel
theorem dX0_pick_53 : decode cX0_pick 53 = .ok (.aload_n 1, 1) := by decide +kernel
theorem dX0_pick_54 : decode cX0_pick 54 = .ok (.invokevirtual 41, 3) := by decide +kernel
theorem dX0_pick_57 : decode cX0_pick 57 = .ok (.ireturn, 1) := by decide +kernel
theorem dX0_pick_58 : decode cX0_pick 58 = .ok (.aload_n 0, 1) := by decide +kernel
theorem dX0_pick_59 : decode cX0_pick 59 = .ok (.getfield 9, 3) := by decide +kernel
theorem dX0_pick_62 : decode cX0_pick 62 = .ok (.getfield 45, 3) := by decide +kernel
theorem dX0_pick_65 : decode cX0_pick 65 = .ok (.iconst 1, 1) := by decide +kernel
theorem dX0_pick_66 : decode cX0_pick 66 = .ok (.if_icmp .ne 18, 3) := by decide +kernel
theorem dX0_pick_84 : decode cX0_pick 84 = .ok (.aload_n 1, 1) := by decide +kernel
theorem dX0_pick_85 : decode cX0_pick 85 = .ok (.iconst 1, 1) := by decide +kernel
theorem dX0_pick_86 : decode cX0_pick 86 = .ok (.invokevirtual 34, 3) := by decide +kernel
theorem dX0_pick_89 : decode cX0_pick 89 = .ok (.ireturn, 1) := by decide +kernel
theorem dX0_byDraw_0 : decode cX0_byDraw 0 = .ok (.aload_n 1, 1) := by decide +kernel
theorem dX0_byDraw_1 : decode cX0_byDraw 1 = .ok (.invokevirtual 51, 3) := by decide +kernel
theorem dX0_byDraw_4 : decode cX0_byDraw 4 = .ok (.istore_n 2, 1) := by decide +kernel
theorem dX0_byDraw_5 : decode cX0_byDraw 5 = .ok (.iload_n 2, 1) := by decide +kernel
theorem dX0_byDraw_6 : decode cX0_byDraw 6 = .ok (.ifCond .gt 5, 3) := by decide +kernel
theorem dX0_byDraw_9 : decode cX0_byDraw 9 = .ok (.iconst (-1), 1) := by decide +kernel
theorem dX0_byDraw_10 : decode cX0_byDraw 10 = .ok (.ireturn, 1) := by decide +kernel
theorem dX1_init_0 : decode cX1_init 0 = .ok (.aload_n 0, 1) := by decide +kernel
theorem dX1_init_1 : decode cX1_init 1 = .ok (.invokespecial 3, 3) := by decide +kernel
theorem dX1_init_4 : decode cX1_init 4 = .ok (.aload_n 0, 1) := by decide +kernel
theorem dX1_init_5 : decode cX1_init 5 = .ok (.bipush 10, 2) := by decide +kernel
theorem dX1_init_7 : decode cX1_init 7 = .ok (.anewarray 9, 3) := by decide +kernel
theorem dX1_init_10 : decode cX1_init 10 = .ok (.putfield 11, 3) := by decide +kernel
theorem dX1_init_13 : decode cX1_init 13 = .ok (.aload_n 0, 1) := by decide +kernel
theorem dX1_init_14 : decode cX1_init 14 = .ok (.bipush 10, 2) := by decide +kernel
theorem dX1_init_16 : decode cX1_init 16 = .ok (.newarray .int, 2) := by decide +kernel
theorem dX1_init_18 : decode cX1_init 18 = .ok (.putfield 17, 3) := by decide +kernel
theorem dX1_init_21 : decode cX1_init 21 = .ok (.iconst 0, 1) := by decide +kernel
theorem dX1_init_22 : decode cX1_init 22 = .ok (.istore_n 2, 1) := by decide +kernel
theorem dX1_init_23 : decode cX1_init 23 = .ok (.iload_n 2, 1) := by decide +kernel
theorem dX1_init_24 : decode cX1_init 24 = .ok (.bipush 10, 2) := by decide +kernel
theorem dX1_init_26 : decode cX1_init 26 = .ok (.if_icmp .ge 23, 3) := by decide +kernel
theorem dX1_init_29 : decode cX1_init 29 = .ok (.aload_n 0, 1) := by decide +kernel
theorem dX1_init_30 : decode cX1_init 30 = .ok (.getfield 11, 3) := by decide +kernel
theorem dX1_init_33 : decode cX1_init 33 = .ok (.iload_n 2, 1) := by decide +kernel
theorem dX1_init_34 : decode cX1_init 34 = .ok (.new 9, 3) := by decide +kernel
theorem dX1_init_37 : decode cX1_init 37 = .ok (.dup, 1) := by decide +kernel
theorem dX1_init_38 : decode cX1_init 38 = .ok (.aload_n 1, 1) := by decide +kernel
theorem dX1_init_39 : decode cX1_init 39 = .ok (.invokespecial 21, 3) := by decide +kernel
theorem dX1_init_42 : decode cX1_init 42 = .ok (.aastore, 1) := by decide +kernel
theorem dX1_init_43 : decode cX1_init 43 = .ok (.iinc 2 1, 3) := by decide +kernel
theorem dX1_init_46 : decode cX1_init 46 = .ok (.goto (-23), 3) := by decide +kernel
theorem dX1_init_49 : decode cX1_init 49 = .ok (.return_, 1) := by decide +kernel
theorem dX1_keep_0 : decode cX1_keep 0 = .ok (.aload_n 0, 1) := by decide +kernel
theorem dX1_keep_1 : decode cX1_keep 1 = .ok (.getfield 24, 3) := by decide +kernel
theorem dX1_keep_4 : decode cX1_keep 4 = .ok (.ifCond .lt 12, 3) := by decide +kernel
theorem dX1_keep_7 : decode cX1_keep 7 = .ok (.aload_n 0, 1) := by decide +kernel
theorem dX1_keep_8 : decode cX1_keep 8 = .ok (.getfield 24, 3) := by decide +kernel
theorem dX1_keep_11 : decode cX1_keep 11 = .ok (.bipush 10, 2) := by decide +kernel
theorem dX1_keep_13 : decode cX1_keep 13 = .ok (.if_icmp .lt 4, 3) := by decide +kernel
theorem dX1_keep_17 : decode cX1_keep 17 = .ok (.aload_n 0, 1) := by decide +kernel
theorem dX1_keep_18 : decode cX1_keep 18 = .ok (.getfield 11, 3) := by decide +kernel
theorem dX1_keep_21 : decode cX1_keep 21 = .ok (.aload_n 0, 1) := by decide +kernel
theorem dX1_keep_22 : decode cX1_keep 22 = .ok (.getfield 24, 3) := by decide +kernel
theorem dX1_keep_25 : decode cX1_keep 25 = .ok (.aaload, 1) := by decide +kernel
theorem dX1_keep_26 : decode cX1_keep 26 = .ok (.aload_n 1, 1) := by decide +kernel
theorem dX1_keep_27 : decode cX1_keep 27 = .ok (.invokevirtual 28, 3) := by decide +kernel
theorem dX1_keep_30 : decode cX1_keep 30 = .ok (.aload_n 0, 1) := by decide +kernel
theorem dX1_keep_31 : decode cX1_keep 31 = .ok (.getfield 17, 3) := by decide +kernel
theorem dX1_keep_34 : decode cX1_keep 34 = .ok (.aload_n 0, 1) := by decide +kernel
theorem dX1_keep_35 : decode cX1_keep 35 = .ok (.getfield 24, 3) := by decide +kernel
theorem dX1_keep_38 : decode cX1_keep 38 = .ok (.iload_n 2, 1) := by decide +kernel
theorem dX1_keep_39 : decode cX1_keep 39 = .ok (.iastore, 1) := by decide +kernel
theorem dX1_keep_40 : decode cX1_keep 40 = .ok (.aload_n 0, 1) := by decide +kernel
theorem dX1_keep_41 : decode cX1_keep 41 = .ok (.aload_n 0, 1) := by decide +kernel
theorem dX1_keep_42 : decode cX1_keep 42 = .ok (.getfield 24, 3) := by decide +kernel
theorem dX1_keep_45 : decode cX1_keep 45 = .ok (.iconst 1, 1) := by decide +kernel
theorem dX1_keep_46 : decode cX1_keep 46 = .ok (.iadd, 1) := by decide +kernel
theorem dX1_keep_47 : decode cX1_keep 47 = .ok (.bipush 10, 2) := by decide +kernel
theorem dX1_keep_49 : decode cX1_keep 49 = .ok (.irem, 1) := by decide +kernel
theorem dX1_keep_50 : decode cX1_keep 50 = .ok (.putfield 24, 3) := by decide +kernel
theorem dX1_keep_53 : decode cX1_keep 53 = .ok (.aload_n 0, 1) := by decide +kernel
theorem dX1_keep_54 : decode cX1_keep 54 = .ok (.bipush 10, 2) := by decide +kernel
theorem dX1_keep_56 : decode cX1_keep 56 = .ok (.aload_n 0, 1) := by decide +kernel
theorem dX1_keep_57 : decode cX1_keep 57 = .ok (.getfield 32, 3) := by decide +kernel
theorem dX1_keep_60 : decode cX1_keep 60 = .ok (.iconst 1, 1) := by decide +kernel
theorem dX1_keep_61 : decode cX1_keep 61 = .ok (.iadd, 1) := by decide +kernel
theorem dX1_keep_62 : decode cX1_keep 62 = .ok (.invokestatic 35, 3) := by decide +kernel
theorem dX1_keep_65 : decode cX1_keep 65 = .ok (.putfield 32, 3) := by decide +kernel
theorem dX1_keep_68 : decode cX1_keep 68 = .ok (.return_, 1) := by decide +kernel
theorem dX2_init_0 : decode cX2_init 0 = .ok (.aload_n 0, 1) := by decide +kernel
theorem dX2_init_1 : decode cX2_init 1 = .ok (.invokespecial 5, 3) := by decide +kernel
theorem dX2_init_4 : decode cX2_init 4 = .ok (.aload_n 0, 1) := by decide +kernel
theorem dX2_init_5 : decode cX2_init 5 = .ok (.sipush 128, 3) := by decide +kernel
theorem dX2_init_8 : decode cX2_init 8 = .ok (.newarray .long, 2) := by decide +kernel
theorem dX2_init_10 : decode cX2_init 10 = .ok (.putfield 11, 3) := by decide +kernel
theorem dX2_init_13 : decode cX2_init 13 = .ok (.return_, 1) := by decide +kernel
theorem dX2_copy_0 : decode cX2_copy 0 = .ok (.aload_n 1, 1) := by decide +kernel
theorem dX2_copy_1 : decode cX2_copy 1 = .ok (.getfield 11, 3) := by decide +kernel
theorem dX2_copy_4 : decode cX2_copy 4 = .ok (.iconst 0, 1) := by decide +kernel
theorem dX2_copy_5 : decode cX2_copy 5 = .ok (.aload_n 0, 1) := by decide +kernel
theorem dX2_copy_6 : decode cX2_copy 6 = .ok (.getfield 11, 3) := by decide +kernel
theorem dX2_copy_9 : decode cX2_copy 9 = .ok (.iconst 0, 1) := by decide +kernel
theorem dX2_copy_10 : decode cX2_copy 10 = .ok (.sipush 128, 3) := by decide +kernel
theorem dX2_copy_13 : decode cX2_copy 13 = .ok (.invokestatic 15, 3) := by decide +kernel
theorem dX2_copy_16 : decode cX2_copy 16 = .ok (.return_, 1) := by decide +kernel
theorem dX2_put_0 : decode cX2_put 0 = .ok (.aload_n 0, 1) := by decide +kernel
theorem dX2_put_1 : decode cX2_put 1 = .ok (.getfield 11, 3) := by decide +kernel
theorem dX2_put_4 : decode cX2_put 4 = .ok (.iload_n 1, 1) := by decide +kernel
theorem dX2_put_5 : decode cX2_put 5 = .ok (.bipush 127, 2) := by decide +kernel
theorem dX2_put_7 : decode cX2_put 7 = .ok (.iand, 1) := by decide +kernel
theorem dX2_put_8 : decode cX2_put 8 = .ok (.lload 4, 2) := by decide +kernel
theorem dX2_put_10 : decode cX2_put 10 = .ok (.iload_n 3, 1) := by decide +kernel
theorem dX2_put_11 : decode cX2_put 11 = .ok (.i2l, 1) := by decide +kernel
theorem dX2_put_12 : decode cX2_put 12 = .ok (.bipush 48, 2) := by decide +kernel
theorem dX2_put_14 : decode cX2_put 14 = .ok (.lshl, 1) := by decide +kernel
theorem dX2_put_15 : decode cX2_put 15 = .ok (.lor, 1) := by decide +kernel
theorem dX2_put_16 : decode cX2_put 16 = .ok (.iload_n 2, 1) := by decide +kernel
theorem dX2_put_17 : decode cX2_put 17 = .ok (.i2l, 1) := by decide +kernel
theorem dX2_put_18 : decode cX2_put 18 = .ok (.lconst 1, 1) := by decide +kernel
theorem dX2_put_19 : decode cX2_put 19 = .ok (.ladd, 1) := by decide +kernel
theorem dX2_put_20 : decode cX2_put 20 = .ok (.bipush 53, 2) := by decide +kernel
theorem dX2_put_22 : decode cX2_put 22 = .ok (.lshl, 1) := by decide +kernel
theorem dX2_put_23 : decode cX2_put 23 = .ok (.lor, 1) := by decide +kernel
theorem dX2_put_24 : decode cX2_put 24 = .ok (.lastore, 1) := by decide +kernel
theorem dX2_put_25 : decode cX2_put 25 = .ok (.return_, 1) := by decide +kernel
theorem dX3_init_0 : decode cX3_init 0 = .ok (.aload_n 0, 1) := by decide +kernel
theorem dX3_init_1 : decode cX3_init 1 = .ok (.invokespecial 3, 3) := by decide +kernel
theorem dX3_init_4 : decode cX3_init 4 = .ok (.aload_n 0, 1) := by decide +kernel
theorem dX3_init_5 : decode cX3_init 5 = .ok (.new 9, 3) := by decide +kernel
theorem dX3_init_8 : decode cX3_init 8 = .ok (.dup, 1) := by decide +kernel
theorem dX3_init_9 : decode cX3_init 9 = .ok (.invokespecial 11, 3) := by decide +kernel
theorem dX3_init_12 : decode cX3_init 12 = .ok (.putfield 12, 3) := by decide +kernel
theorem dX3_init_15 : decode cX3_init 15 = .ok (.return_, 1) := by decide +kernel
theorem dX4_init_0 : decode cX4_init 0 = .ok (.aload_n 0, 1) := by decide +kernel
theorem dX4_init_1 : decode cX4_init 1 = .ok (.invokespecial 3, 3) := by decide +kernel
theorem dX4_init_4 : decode cX4_init 4 = .ok (.aload_n 0, 1) := by decide +kernel
theorem dX4_init_5 : decode cX4_init 5 = .ok (.iconst 5, 1) := by decide +kernel
theorem dX4_init_6 : decode cX4_init 6 = .ok (.newarray .int, 2) := by decide +kernel
theorem dX4_init_8 : decode cX4_init 8 = .ok (.putfield 9, 3) := by decide +kernel
theorem dX4_init_11 : decode cX4_init 11 = .ok (.return_, 1) := by decide +kernel
theorem dX4_add_0 : decode cX4_add 0 = .ok (.aload_n 0, 1) := by decide +kernel
theorem dX4_add_1 : decode cX4_add 1 = .ok (.iload_n 1, 1) := by decide +kernel
theorem dX4_add_2 : decode cX4_add 2 = .ok (.putfield 15, 3) := by decide +kernel
theorem dX4_add_5 : decode cX4_add 5 = .ok (.aload_n 0, 1) := by decide +kernel
theorem dX4_add_6 : decode cX4_add 6 = .ok (.getfield 9, 3) := by decide +kernel
theorem dX4_add_9 : decode cX4_add 9 = .ok (.iload_n 1, 1) := by decide +kernel
theorem dX4_add_10 : decode cX4_add 10 = .ok (.invokestatic 19, 3) := by decide +kernel
theorem dX4_add_13 : decode cX4_add 13 = .ok (.dup2, 1) := by decide +kernel
theorem dX4_add_14 : decode cX4_add 14 = .ok (.iaload, 1) := by decide +kernel
theorem dX4_add_15 : decode cX4_add 15 = .ok (.iconst 1, 1) := by decide +kernel
theorem dX4_add_16 : decode cX4_add 16 = .ok (.iadd, 1) := by decide +kernel
theorem dX4_add_17 : decode cX4_add 17 = .ok (.iastore, 1) := by decide +kernel
theorem dX4_add_18 : decode cX4_add 18 = .ok (.iload_n 1, 1) := by decide +kernel
theorem dX4_add_19 : decode cX4_add 19 = .ok (.ireturn, 1) := by decide +kernel
theorem dX4_none_0 : decode cX4_none 0 = .ok (.aload_n 0, 1) := by decide +kernel
theorem dX4_none_1 : decode cX4_none 1 = .ok (.iconst 0, 1) := by decide +kernel
theorem dX4_none_2 : decode cX4_none 2 = .ok (.putfield 15, 3) := by decide +kernel
theorem dX4_none_5 : decode cX4_none 5 = .ok (.iload_n 1, 1) := by decide +kernel
theorem dX4_none_6 : decode cX4_none 6 = .ok (.ireturn, 1) := by decide +kernel
theorem dX4_countOf_0 : decode cX4_countOf 0 = .ok (.aload_n 0, 1) := by decide +kernel
theorem dX4_countOf_1 : decode cX4_countOf 1 = .ok (.getfield 9, 3) := by decide +kernel
theorem dX4_countOf_4 : decode cX4_countOf 4 = .ok (.iload_n 1, 1) := by decide +kernel
theorem dX4_countOf_5 : decode cX4_countOf 5 = .ok (.invokestatic 19, 3) := by decide +kernel
theorem dX4_countOf_8 : decode cX4_countOf 8 = .ok (.iaload, 1) := by decide +kernel
theorem dX4_countOf_9 : decode cX4_countOf 9 = .ok (.ireturn, 1) := by decide +kernel
theorem dX4_placeOf_0 : decode cX4_placeOf 0 = .ok (.iload_n 0, 1) := by decide +kernel
theorem dX4_placeOf_1 : decode cX4_placeOf 1 = .ok (.tableswitch 43 (-5) (-1) #[41, 39, 43, 37, 35], 35) := by decide +kernel
theorem dX4_placeOf_36 : decode cX4_placeOf 36 = .ok (.iconst 0, 1) := by decide +kernel
theorem dX4_placeOf_37 : decode cX4_placeOf 37 = .ok (.ireturn, 1) := by decide +kernel
theorem dX4_placeOf_38 : decode cX4_placeOf 38 = .ok (.iconst 1, 1) := by decide +kernel
theorem dX4_placeOf_39 : decode cX4_placeOf 39 = .ok (.ireturn, 1) := by decide +kernel
theorem dX4_placeOf_40 : decode cX4_placeOf 40 = .ok (.iconst 2, 1) := by decide +kernel
theorem dX4_placeOf_41 : decode cX4_placeOf 41 = .ok (.ireturn, 1) := by decide +kernel
theorem dX4_placeOf_42 : decode cX4_placeOf 42 = .ok (.iconst 3, 1) := by decide +kernel
theorem dX4_placeOf_43 : decode cX4_placeOf 43 = .ok (.ireturn, 1) := by decide +kernel
theorem dX4_placeOf_44 : decode cX4_placeOf 44 = .ok (.iconst 4, 1) := by decide +kernel
theorem dX4_placeOf_45 : decode cX4_placeOf 45 = .ok (.ireturn, 1) := by decide +kernel
theorem dX5_init_0 : decode cX5_init 0 = .ok (.aload_n 0, 1) := by decide +kernel
theorem dX5_init_1 : decode cX5_init 1 = .ok (.invokespecial 3, 3) := by decide +kernel
theorem dX5_init_4 : decode cX5_init 4 = .ok (.aload_n 0, 1) := by decide +kernel
theorem dX5_init_5 : decode cX5_init 5 = .ok (.bipush 8, 2) := by decide +kernel
theorem dX5_init_7 : decode cX5_init 7 = .ok (.newarray .int, 2) := by decide +kernel
theorem dX5_init_9 : decode cX5_init 9 = .ok (.putfield 11, 3) := by decide +kernel
theorem dX5_init_12 : decode cX5_init 12 = .ok (.return_, 1) := by decide +kernel
theorem dX5_drop_0 : decode cX5_drop 0 = .ok (.aload_n 0, 1) := by decide +kernel
theorem dX5_drop_1 : decode cX5_drop 1 = .ok (.iconst 0, 1) := by decide +kernel
theorem dX5_drop_2 : decode cX5_drop 2 = .ok (.putfield 28, 3) := by decide +kernel
theorem dX5_drop_5 : decode cX5_drop 5 = .ok (.aload_n 0, 1) := by decide +kernel
theorem dX5_drop_6 : decode cX5_drop 6 = .ok (.iconst 0, 1) := by decide +kernel
theorem dX5_drop_7 : decode cX5_drop 7 = .ok (.putfield 32, 3) := by decide +kernel
theorem dX5_drop_10 : decode cX5_drop 10 = .ok (.aload_n 0, 1) := by decide +kernel
theorem dX5_drop_11 : decode cX5_drop 11 = .ok (.iconst 0, 1) := by decide +kernel
theorem dX5_drop_12 : decode cX5_drop 12 = .ok (.putfield 35, 3) := by decide +kernel
theorem dX5_drop_15 : decode cX5_drop 15 = .ok (.aload_n 0, 1) := by decide +kernel
theorem dX5_drop_16 : decode cX5_drop 16 = .ok (.iconst 0, 1) := by decide +kernel
theorem dX5_drop_17 : decode cX5_drop 17 = .ok (.putfield 38, 3) := by decide +kernel
theorem dX5_drop_20 : decode cX5_drop 20 = .ok (.return_, 1) := by decide +kernel
theorem dX6_init_0 : decode cX6_init 0 = .ok (.aload_n 0, 1) := by decide +kernel
theorem dX6_init_1 : decode cX6_init 1 = .ok (.invokespecial 3, 3) := by decide +kernel
theorem dX6_init_4 : decode cX6_init 4 = .ok (.aload_n 0, 1) := by decide +kernel
theorem dX6_init_5 : decode cX6_init 5 = .ok (.bipush 12, 2) := by decide +kernel
theorem dX6_init_7 : decode cX6_init 7 = .ok (.anewarray 9, 3) := by decide +kernel
theorem dX6_init_10 : decode cX6_init 10 = .ok (.putfield 11, 3) := by decide +kernel
theorem dX6_init_13 : decode cX6_init 13 = .ok (.aload_n 0, 1) := by decide +kernel
theorem dX6_init_14 : decode cX6_init 14 = .ok (.new 17, 3) := by decide +kernel
theorem dX6_init_17 : decode cX6_init 17 = .ok (.dup, 1) := by decide +kernel
theorem dX6_init_18 : decode cX6_init 18 = .ok (.invokespecial 19, 3) := by decide +kernel
theorem dX6_init_21 : decode cX6_init 21 = .ok (.putfield 20, 3) := by decide +kernel
theorem dX6_init_24 : decode cX6_init 24 = .ok (.aload_n 0, 1) := by decide +kernel
theorem dX6_init_25 : decode cX6_init 25 = .ok (.new 24, 3) := by decide +kernel
theorem dX6_init_28 : decode cX6_init 28 = .ok (.dup, 1) := by decide +kernel
theorem dX6_init_29 : decode cX6_init 29 = .ok (.invokespecial 26, 3) := by decide +kernel
theorem dX6_init_32 : decode cX6_init 32 = .ok (.putfield 27, 3) := by decide +kernel
theorem dX6_init_35 : decode cX6_init 35 = .ok (.aload_n 0, 1) := by decide +kernel
theorem dX6_init_36 : decode cX6_init 36 = .ok (.new 24, 3) := by decide +kernel
theorem dX6_init_39 : decode cX6_init 39 = .ok (.dup, 1) := by decide +kernel
theorem dX6_init_40 : decode cX6_init 40 = .ok (.invokespecial 26, 3) := by decide +kernel
theorem dX6_init_43 : decode cX6_init 43 = .ok (.putfield 31, 3) := by decide +kernel
theorem dX6_init_46 : decode cX6_init 46 = .ok (.aload_n 0, 1) := by decide +kernel
theorem dX6_init_47 : decode cX6_init 47 = .ok (.iconst (-1), 1) := by decide +kernel
theorem dX6_init_48 : decode cX6_init 48 = .ok (.putfield 34, 3) := by decide +kernel
theorem dX6_init_51 : decode cX6_init 51 = .ok (.aload_n 0, 1) := by decide +kernel
theorem dX6_init_52 : decode cX6_init 52 = .ok (.iconst (-1), 1) := by decide +kernel
theorem dX6_init_53 : decode cX6_init 53 = .ok (.putfield 38, 3) := by decide +kernel
theorem dX6_init_56 : decode cX6_init 56 = .ok (.aload_n 0, 1) := by decide +kernel
theorem dX6_init_57 : decode cX6_init 57 = .ok (.aload_n 1, 1) := by decide +kernel
theorem dX6_init_58 : decode cX6_init 58 = .ok (.putfield 41, 3) := by decide +kernel
theorem dX6_init_61 : decode cX6_init 61 = .ok (.iconst 0, 1) := by decide +kernel
theorem dX6_init_62 : decode cX6_init 62 = .ok (.istore_n 2, 1) := by decide +kernel
theorem dX6_init_63 : decode cX6_init 63 = .ok (.iload_n 2, 1) := by decide +kernel
theorem dX6_init_64 : decode cX6_init 64 = .ok (.bipush 12, 2) := by decide +kernel
theorem dX6_init_66 : decode cX6_init 66 = .ok (.if_icmp .ge 23, 3) := by decide +kernel
theorem dX6_init_69 : decode cX6_init 69 = .ok (.aload_n 0, 1) := by decide +kernel
theorem dX6_init_70 : decode cX6_init 70 = .ok (.getfield 11, 3) := by decide +kernel
theorem dX6_init_73 : decode cX6_init 73 = .ok (.iload_n 2, 1) := by decide +kernel
theorem dX6_init_74 : decode cX6_init 74 = .ok (.new 9, 3) := by decide +kernel
theorem dX6_init_77 : decode cX6_init 77 = .ok (.dup, 1) := by decide +kernel
theorem dX6_init_78 : decode cX6_init 78 = .ok (.iload_n 2, 1) := by decide +kernel
theorem dX6_init_79 : decode cX6_init 79 = .ok (.invokespecial 45, 3) := by decide +kernel
theorem dX6_init_82 : decode cX6_init 82 = .ok (.aastore, 1) := by decide +kernel
theorem dX6_init_83 : decode cX6_init 83 = .ok (.iinc 2 1, 3) := by decide +kernel
theorem dX6_init_86 : decode cX6_init 86 = .ok (.goto (-23), 3) := by decide +kernel
theorem dX6_init_89 : decode cX6_init 89 = .ok (.return_, 1) := by decide +kernel
theorem dX6_copy_0 : decode cX6_copy 0 = .ok (.iconst 0, 1) := by decide +kernel
theorem dX6_copy_1 : decode cX6_copy 1 = .ok (.istore_n 2, 1) := by decide +kernel
theorem dX6_copy_2 : decode cX6_copy 2 = .ok (.iload_n 2, 1) := by decide +kernel
theorem dX6_copy_3 : decode cX6_copy 3 = .ok (.aload_n 1, 1) := by decide +kernel
theorem dX6_copy_4 : decode cX6_copy 4 = .ok (.getfield 48, 3) := by decide +kernel
theorem dX6_copy_7 : decode cX6_copy 7 = .ok (.if_icmp .ge 24, 3) := by decide +kernel
theorem dX6_copy_31 : decode cX6_copy 31 = .ok (.aload_n 0, 1) := by decide +kernel
theorem dX6_copy_32 : decode cX6_copy 32 = .ok (.getfield 20, 3) := by decide +kernel
theorem dX6_copy_35 : decode cX6_copy 35 = .ok (.aload_n 1, 1) := by decide +kernel
theorem dX6_copy_36 : decode cX6_copy 36 = .ok (.getfield 20, 3) := by decide +kernel
theorem dX6_copy_39 : decode cX6_copy 39 = .ok (.invokevirtual 55, 3) := by decide +kernel
theorem dX6_copy_42 : decode cX6_copy 42 = .ok (.aload_n 0, 1) := by decide +kernel
theorem dX6_copy_43 : decode cX6_copy 43 = .ok (.aload_n 1, 1) := by decide +kernel
theorem dX6_copy_44 : decode cX6_copy 44 = .ok (.getfield 48, 3) := by decide +kernel
theorem dX6_copy_47 : decode cX6_copy 47 = .ok (.putfield 48, 3) := by decide +kernel
theorem dX6_copy_50 : decode cX6_copy 50 = .ok (.aload_n 0, 1) := by decide +kernel
theorem dX6_copy_51 : decode cX6_copy 51 = .ok (.aload_n 1, 1) := by decide +kernel
theorem dX6_copy_52 : decode cX6_copy 52 = .ok (.getfield 58, 3) := by decide +kernel
theorem dX6_copy_55 : decode cX6_copy 55 = .ok (.putfield 58, 3) := by decide +kernel
theorem dX6_copy_58 : decode cX6_copy 58 = .ok (.aload_n 0, 1) := by decide +kernel
theorem dX6_copy_59 : decode cX6_copy 59 = .ok (.aload_n 1, 1) := by decide +kernel
theorem dX6_copy_60 : decode cX6_copy 60 = .ok (.getfield 61, 3) := by decide +kernel
theorem dX6_copy_63 : decode cX6_copy 63 = .ok (.putfield 61, 3) := by decide +kernel
theorem dX6_copy_66 : decode cX6_copy 66 = .ok (.aload_n 0, 1) := by decide +kernel
theorem dX6_copy_67 : decode cX6_copy 67 = .ok (.aload_n 1, 1) := by decide +kernel
theorem dX6_copy_68 : decode cX6_copy 68 = .ok (.getfield 34, 3) := by decide +kernel
theorem dX6_copy_71 : decode cX6_copy 71 = .ok (.putfield 34, 3) := by decide +kernel
theorem dX6_copy_74 : decode cX6_copy 74 = .ok (.aload_n 0, 1) := by decide +kernel
theorem dX6_copy_75 : decode cX6_copy 75 = .ok (.aload_n 1, 1) := by decide +kernel
theorem dX6_copy_76 : decode cX6_copy 76 = .ok (.getfield 38, 3) := by decide +kernel
theorem dX6_copy_79 : decode cX6_copy 79 = .ok (.putfield 38, 3) := by decide +kernel
theorem dX6_copy_82 : decode cX6_copy 82 = .ok (.return_, 1) := by decide +kernel
theorem dX6_has_0 : decode cX6_has 0 = .ok (.iload_n 1, 1) := by decide +kernel
theorem dX6_has_1 : decode cX6_has 1 = .ok (.ifCond .lt 15, 3) := by decide +kernel
theorem dX6_has_4 : decode cX6_has 4 = .ok (.iload_n 1, 1) := by decide +kernel
theorem dX6_has_5 : decode cX6_has 5 = .ok (.aload_n 0, 1) := by decide +kernel
theorem dX6_has_6 : decode cX6_has 6 = .ok (.getfield 48, 3) := by decide +kernel
theorem dX6_has_9 : decode cX6_has 9 = .ok (.if_icmp .ge 7, 3) := by decide +kernel
theorem dX6_has_16 : decode cX6_has 16 = .ok (.iconst 0, 1) := by decide +kernel
theorem dX6_has_17 : decode cX6_has 17 = .ok (.ireturn, 1) := by decide +kernel
theorem dX6_addTask_0 : decode cX6_addTask 0 = .ok (.aload_n 0, 1) := by decide +kernel
theorem dX6_addTask_1 : decode cX6_addTask 1 = .ok (.getfield 48, 3) := by decide +kernel
theorem dX6_addTask_4 : decode cX6_addTask 4 = .ok (.bipush 12, 2) := by decide +kernel
theorem dX6_addTask_6 : decode cX6_addTask 6 = .ok (.if_icmp .lt 5, 3) := by decide +kernel
theorem dX6_addTask_11 : decode cX6_addTask 11 = .ok (.aload_n 0, 1) := by decide +kernel
theorem dX6_addTask_12 : decode cX6_addTask 12 = .ok (.getfield 11, 3) := by decide +kernel
theorem dX6_addTask_15 : decode cX6_addTask 15 = .ok (.aload_n 0, 1) := by decide +kernel
theorem dX6_addTask_16 : decode cX6_addTask 16 = .ok (.getfield 48, 3) := by decide +kernel
theorem dX6_addTask_19 : decode cX6_addTask 19 = .ok (.aaload, 1) := by decide +kernel
theorem dX6_addTask_20 : decode cX6_addTask 20 = .ok (.iload_n 1, 1) := by decide +kernel
theorem dX6_addTask_21 : decode cX6_addTask 21 = .ok (.iload_n 2, 1) := by decide +kernel
theorem dX6_addTask_22 : decode cX6_addTask 22 = .ok (.invokevirtual 65, 3) := by decide +kernel
theorem dX6_addTask_25 : decode cX6_addTask 25 = .ok (.aload_n 0, 1) := by decide +kernel
theorem dX6_addTask_26 : decode cX6_addTask 26 = .ok (.dup, 1) := by decide +kernel
theorem dX6_addTask_27 : decode cX6_addTask 27 = .ok (.getfield 48, 3) := by decide +kernel
theorem dX6_addTask_30 : decode cX6_addTask 30 = .ok (.iconst 1, 1) := by decide +kernel
theorem dX6_addTask_31 : decode cX6_addTask 31 = .ok (.iadd, 1) := by decide +kernel
theorem dX6_addTask_32 : decode cX6_addTask 32 = .ok (.putfield 48, 3) := by decide +kernel
theorem dX6_addTask_35 : decode cX6_addTask 35 = .ok (.aload_n 0, 1) := by decide +kernel
theorem dX6_addTask_36 : decode cX6_addTask 36 = .ok (.getfield 48, 3) := by decide +kernel
theorem dX6_addTask_39 : decode cX6_addTask 39 = .ok (.iconst 1, 1) := by decide +kernel
theorem dX6_addTask_40 : decode cX6_addTask 40 = .ok (.isub, 1) := by decide +kernel
theorem dX6_addTask_41 : decode cX6_addTask 41 = .ok (.ireturn, 1) := by decide +kernel
theorem dX6_weightOfAll_0 : decode cX6_weightOfAll 0 = .ok (.iconst 0, 1) := by decide +kernel
theorem dX6_weightOfAll_1 : decode cX6_weightOfAll 1 = .ok (.istore_n 1, 1) := by decide +kernel
theorem dX6_weightOfAll_2 : decode cX6_weightOfAll 2 = .ok (.iconst 0, 1) := by decide +kernel
theorem dX6_weightOfAll_3 : decode cX6_weightOfAll 3 = .ok (.istore_n 2, 1) := by decide +kernel
theorem dX6_weightOfAll_4 : decode cX6_weightOfAll 4 = .ok (.iload_n 2, 1) := by decide +kernel
theorem dX6_weightOfAll_5 : decode cX6_weightOfAll 5 = .ok (.aload_n 0, 1) := by decide +kernel
theorem dX6_weightOfAll_6 : decode cX6_weightOfAll 6 = .ok (.getfield 48, 3) := by decide +kernel
theorem dX6_weightOfAll_9 : decode cX6_weightOfAll 9 = .ok (.if_icmp .ge 34, 3) := by decide +kernel
theorem dX6_weightOfAll_43 : decode cX6_weightOfAll 43 = .ok (.iload_n 1, 1) := by decide +kernel
theorem dX6_weightOfAll_44 : decode cX6_weightOfAll 44 = .ok (.ireturn, 1) := by decide +kernel
theorem dX6_sumUp_0 : decode cX6_sumUp 0 = .ok (.iconst 0, 1) := by decide +kernel
theorem dX6_sumUp_1 : decode cX6_sumUp 1 = .ok (.istore_n 1, 1) := by decide +kernel
theorem dX6_sumUp_2 : decode cX6_sumUp 2 = .ok (.aload_n 0, 1) := by decide +kernel
theorem dX6_sumUp_3 : decode cX6_sumUp 3 = .ok (.getfield 27, 3) := by decide +kernel
theorem dX6_sumUp_6 : decode cX6_sumUp 6 = .ok (.lconst 0, 1) := by decide +kernel
theorem dX6_sumUp_7 : decode cX6_sumUp 7 = .ok (.invokevirtual 75, 3) := by decide +kernel
theorem dX6_sumUp_10 : decode cX6_sumUp 10 = .ok (.iconst 0, 1) := by decide +kernel
theorem dX6_sumUp_11 : decode cX6_sumUp 11 = .ok (.istore_n 2, 1) := by decide +kernel
theorem dX6_sumUp_12 : decode cX6_sumUp 12 = .ok (.iload_n 2, 1) := by decide +kernel
theorem dX6_sumUp_13 : decode cX6_sumUp 13 = .ok (.aload_n 0, 1) := by decide +kernel
theorem dX6_sumUp_14 : decode cX6_sumUp 14 = .ok (.getfield 48, 3) := by decide +kernel
theorem dX6_sumUp_17 : decode cX6_sumUp 17 = .ok (.if_icmp .ge 60, 3) := by decide +kernel
theorem dX6_sumUp_77 : decode cX6_sumUp 77 = .ok (.iload_n 1, 1) := by decide +kernel
theorem dX6_sumUp_78 : decode cX6_sumUp 78 = .ok (.ifCond .le 5, 3) := by decide +kernel
theorem dX6_sumUp_83 : decode cX6_sumUp 83 = .ok (.aload_n 0, 1) := by decide +kernel
theorem dX6_sumUp_84 : decode cX6_sumUp 84 = .ok (.getfield 27, 3) := by decide +kernel
theorem dX6_sumUp_87 : decode cX6_sumUp 87 = .ok (.aload_n 0, 1) := by decide +kernel
theorem dX6_sumUp_88 : decode cX6_sumUp 88 = .ok (.getfield 61, 3) := by decide +kernel
theorem dX6_sumUp_91 : decode cX6_sumUp 91 = .ok (.invokevirtual 75, 3) := by decide +kernel
theorem dX6_sumUp_94 : decode cX6_sumUp 94 = .ok (.iconst 1, 1) := by decide +kernel
theorem dX6_sumUp_95 : decode cX6_sumUp 95 = .ok (.ireturn, 1) := by decide +kernel
theorem dX6_wholeV_0 : decode cX6_wholeV 0 = .ok (.aload_n 0, 1) := by decide +kernel
theorem dX6_wholeV_1 : decode cX6_wholeV 1 = .ok (.invokevirtual 86, 3) := by decide +kernel
theorem dX6_wholeV_4 : decode cX6_wholeV 4 = .ok (.istore_n 1, 1) := by decide +kernel
theorem dX6_wholeV_5 : decode cX6_wholeV 5 = .ok (.aload_n 0, 1) := by decide +kernel
theorem dX6_wholeV_6 : decode cX6_wholeV 6 = .ok (.getfield 27, 3) := by decide +kernel
theorem dX6_wholeV_9 : decode cX6_wholeV 9 = .ok (.iload_n 1, 1) := by decide +kernel
theorem dX6_wholeV_10 : decode cX6_wholeV 10 = .ok (.i2l, 1) := by decide +kernel
theorem dX6_wholeV_11 : decode cX6_wholeV 11 = .ok (.invokevirtual 90, 3) := by decide +kernel
theorem dX6_wholeV_14 : decode cX6_wholeV 14 = .ok (.aload_n 0, 1) := by decide +kernel
theorem dX6_wholeV_15 : decode cX6_wholeV 15 = .ok (.getfield 27, 3) := by decide +kernel
theorem dX6_wholeV_18 : decode cX6_wholeV 18 = .ok (.invokevirtual 93, 3) := by decide +kernel
theorem dX6_wholeV_21 : decode cX6_wholeV 21 = .ok (.lreturn, 1) := by decide +kernel
theorem dX6_restOfV_0 : decode cX6_restOfV 0 = .ok (.aload_n 0, 1) := by decide +kernel
theorem dX6_restOfV_1 : decode cX6_restOfV 1 = .ok (.invokevirtual 86, 3) := by decide +kernel
theorem dX6_restOfV_4 : decode cX6_restOfV 4 = .ok (.istore_n 1, 1) := by decide +kernel
theorem dX6_restOfV_5 : decode cX6_restOfV 5 = .ok (.aload_n 0, 1) := by decide +kernel
theorem dX6_restOfV_6 : decode cX6_restOfV 6 = .ok (.getfield 27, 3) := by decide +kernel
theorem dX6_restOfV_9 : decode cX6_restOfV 9 = .ok (.iload_n 1, 1) := by decide +kernel
theorem dX6_restOfV_10 : decode cX6_restOfV 10 = .ok (.i2l, 1) := by decide +kernel
theorem dX6_restOfV_11 : decode cX6_restOfV 11 = .ok (.invokevirtual 97, 3) := by decide +kernel
theorem dX6_restOfV_14 : decode cX6_restOfV 14 = .ok (.lreturn, 1) := by decide +kernel
theorem dX6_lagEdge_0 : decode cX6_lagEdge 0 = .ok (.aload_n 0, 1) := by decide +kernel
theorem dX6_lagEdge_1 : decode cX6_lagEdge 1 = .ok (.invokevirtual 108, 3) := by decide +kernel
theorem dX6_lagEdge_4 : decode cX6_lagEdge 4 = .ok (.istore 4, 2) := by decide +kernel
theorem dX6_lagEdge_6 : decode cX6_lagEdge 6 = .ok (.lload_n 1, 1) := by decide +kernel
theorem dX6_lagEdge_7 : decode cX6_lagEdge 7 = .ok (.lstore 5, 2) := by decide +kernel
theorem dX6_lagEdge_9 : decode cX6_lagEdge 9 = .ok (.iconst 0, 1) := by decide +kernel
theorem dX6_lagEdge_10 : decode cX6_lagEdge 10 = .ok (.istore 7, 2) := by decide +kernel
theorem dX6_lagEdge_12 : decode cX6_lagEdge 12 = .ok (.iload 7, 2) := by decide +kernel
theorem dX6_lagEdge_14 : decode cX6_lagEdge 14 = .ok (.aload_n 0, 1) := by decide +kernel
theorem dX6_lagEdge_15 : decode cX6_lagEdge 15 = .ok (.getfield 48, 3) := by decide +kernel
theorem dX6_lagEdge_18 : decode cX6_lagEdge 18 = .ok (.if_icmp .ge 100, 3) := by decide +kernel
theorem dX6_lagEdge_118 : decode cX6_lagEdge 118 = .ok (.lload 5, 2) := by decide +kernel
theorem dX6_lagEdge_120 : decode cX6_lagEdge 120 = .ok (.lreturn, 1) := by decide +kernel
theorem dX6_howManyAre_0 : decode cX6_howManyAre 0 = .ok (.iconst 0, 1) := by decide +kernel
theorem dX6_howManyAre_1 : decode cX6_howManyAre 1 = .ok (.istore_n 2, 1) := by decide +kernel
theorem dX6_howManyAre_2 : decode cX6_howManyAre 2 = .ok (.iconst 0, 1) := by decide +kernel
theorem dX6_howManyAre_3 : decode cX6_howManyAre 3 = .ok (.istore_n 3, 1) := by decide +kernel
theorem dX6_howManyAre_4 : decode cX6_howManyAre 4 = .ok (.iload_n 3, 1) := by decide +kernel
theorem dX6_howManyAre_5 : decode cX6_howManyAre 5 = .ok (.aload_n 0, 1) := by decide +kernel
theorem dX6_howManyAre_6 : decode cX6_howManyAre 6 = .ok (.getfield 48, 3) := by decide +kernel
theorem dX6_howManyAre_9 : decode cX6_howManyAre 9 = .ok (.if_icmp .ge 25, 3) := by decide +kernel
theorem dX6_howManyAre_34 : decode cX6_howManyAre 34 = .ok (.iload_n 2, 1) := by decide +kernel
theorem dX6_howManyAre_35 : decode cX6_howManyAre 35 = .ok (.ireturn, 1) := by decide +kernel
theorem dX6_howManyHaveScripts_0 : decode cX6_howManyHaveScripts 0 = .ok (.iconst 0, 1) := by decide +kernel
theorem dX6_howManyHaveScripts_1 : decode cX6_howManyHaveScripts 1 = .ok (.istore_n 1, 1) := by decide +kernel
theorem dX6_howManyHaveScripts_2 : decode cX6_howManyHaveScripts 2 = .ok (.iconst 0, 1) := by decide +kernel
theorem dX6_howManyHaveScripts_3 : decode cX6_howManyHaveScripts 3 = .ok (.istore_n 2, 1) := by decide +kernel
theorem dX6_howManyHaveScripts_4 : decode cX6_howManyHaveScripts 4 = .ok (.iload_n 2, 1) := by decide +kernel
theorem dX6_howManyHaveScripts_5 : decode cX6_howManyHaveScripts 5 = .ok (.aload_n 0, 1) := by decide +kernel
theorem dX6_howManyHaveScripts_6 : decode cX6_howManyHaveScripts 6 = .ok (.getfield 48, 3) := by decide +kernel
theorem dX6_howManyHaveScripts_9 : decode cX6_howManyHaveScripts 9 = .ok (.if_icmp .ge 27, 3) := by decide +kernel
theorem dX6_howManyHaveScripts_36 : decode cX6_howManyHaveScripts 36 = .ok (.iload_n 1, 1) := by decide +kernel
theorem dX6_howManyHaveScripts_37 : decode cX6_howManyHaveScripts 37 = .ok (.ireturn, 1) := by decide +kernel
theorem dX6_eligibleBits_0 : decode cX6_eligibleBits 0 = .ok (.aload_n 0, 1) := by decide +kernel
theorem dX6_eligibleBits_1 : decode cX6_eligibleBits 1 = .ok (.invokevirtual 176, 3) := by decide +kernel
theorem dX6_eligibleBits_4 : decode cX6_eligibleBits 4 = .ok (.lstore_n 1, 1) := by decide +kernel
theorem dX6_eligibleBits_5 : decode cX6_eligibleBits 5 = .ok (.iconst 0, 1) := by decide +kernel
theorem dX6_eligibleBits_6 : decode cX6_eligibleBits 6 = .ok (.istore_n 3, 1) := by decide +kernel
theorem dX6_eligibleBits_7 : decode cX6_eligibleBits 7 = .ok (.iconst 0, 1) := by decide +kernel
theorem dX6_eligibleBits_8 : decode cX6_eligibleBits 8 = .ok (.istore 4, 2) := by decide +kernel
theorem dX6_eligibleBits_10 : decode cX6_eligibleBits 10 = .ok (.iload 4, 2) := by decide +kernel
theorem dX6_eligibleBits_12 : decode cX6_eligibleBits 12 = .ok (.aload_n 0, 1) := by decide +kernel
theorem dX6_eligibleBits_13 : decode cX6_eligibleBits 13 = .ok (.getfield 48, 3) := by decide +kernel
theorem dX6_eligibleBits_16 : decode cX6_eligibleBits 16 = .ok (.if_icmp .ge 44, 3) := by decide +kernel
theorem dX6_eligibleBits_60 : decode cX6_eligibleBits 60 = .ok (.iload_n 3, 1) := by decide +kernel
theorem dX6_eligibleBits_61 : decode cX6_eligibleBits 61 = .ok (.ireturn, 1) := by decide +kernel
theorem dX6_eligibleAt_0 : decode cX6_eligibleAt 0 = .ok (.aload_n 0, 1) := by decide +kernel
theorem dX6_eligibleAt_1 : decode cX6_eligibleAt 1 = .ok (.invokevirtual 179, 3) := by decide +kernel
theorem dX6_eligibleAt_4 : decode cX6_eligibleAt 4 = .ok (.istore_n 2, 1) := by decide +kernel
theorem dX6_eligibleAt_5 : decode cX6_eligibleAt 5 = .ok (.iconst 0, 1) := by decide +kernel
theorem dX6_eligibleAt_6 : decode cX6_eligibleAt 6 = .ok (.istore_n 3, 1) := by decide +kernel
theorem dX6_eligibleAt_7 : decode cX6_eligibleAt 7 = .ok (.iload_n 3, 1) := by decide +kernel
theorem dX6_eligibleAt_8 : decode cX6_eligibleAt 8 = .ok (.aload_n 0, 1) := by decide +kernel
theorem dX6_eligibleAt_9 : decode cX6_eligibleAt 9 = .ok (.getfield 48, 3) := by decide +kernel
theorem dX6_eligibleAt_12 : decode cX6_eligibleAt 12 = .ok (.if_icmp .ge 35, 3) := by decide +kernel
theorem dX6_eligibleAt_47 : decode cX6_eligibleAt 47 = .ok (.iconst (-1), 1) := by decide +kernel
theorem dX6_eligibleAt_48 : decode cX6_eligibleAt 48 = .ok (.ireturn, 1) := by decide +kernel
theorem dX6_firstDeadline_0 : decode cX6_firstDeadline 0 = .ok (.iload_n 1, 1) := by decide +kernel
theorem dX6_firstDeadline_1 : decode cX6_firstDeadline 1 = .ok (.ifCond .eq 10, 3) := by decide +kernel
theorem dX6_firstDeadline_4 : decode cX6_firstDeadline 4 = .ok (.aload_n 0, 1) := by decide +kernel
theorem dX6_firstDeadline_5 : decode cX6_firstDeadline 5 = .ok (.invokevirtual 176, 3) := by decide +kernel
theorem dX6_firstDeadline_8 : decode cX6_firstDeadline 8 = .ok (.goto 6, 3) := by decide +kernel
theorem dX6_firstDeadline_11 : decode cX6_firstDeadline 11 = .ok (.ldc2_w 192, 3) := by decide +kernel
theorem dX6_firstDeadline_14 : decode cX6_firstDeadline 14 = .ok (.lstore_n 2, 1) := by decide +kernel
theorem dX6_firstDeadline_15 : decode cX6_firstDeadline 15 = .ok (.iconst (-1), 1) := by decide +kernel
theorem dX6_firstDeadline_16 : decode cX6_firstDeadline 16 = .ok (.istore 4, 2) := by decide +kernel
theorem dX6_firstDeadline_18 : decode cX6_firstDeadline 18 = .ok (.iconst 0, 1) := by decide +kernel
theorem dX6_firstDeadline_19 : decode cX6_firstDeadline 19 = .ok (.istore 5, 2) := by decide +kernel
theorem dX6_firstDeadline_21 : decode cX6_firstDeadline 21 = .ok (.iload 5, 2) := by decide +kernel
theorem dX6_firstDeadline_23 : decode cX6_firstDeadline 23 = .ok (.aload_n 0, 1) := by decide +kernel
theorem dX6_firstDeadline_24 : decode cX6_firstDeadline 24 = .ok (.getfield 48, 3) := by decide +kernel
theorem dX6_firstDeadline_27 : decode cX6_firstDeadline 27 = .ok (.if_icmp .ge 64, 3) := by decide +kernel
theorem dX6_firstDeadline_91 : decode cX6_firstDeadline 91 = .ok (.iload 4, 2) := by decide +kernel
theorem dX6_firstDeadline_93 : decode cX6_firstDeadline 93 = .ok (.ireturn, 1) := by decide +kernel
theorem dX6_leastV_0 : decode cX6_leastV 0 = .ok (.iconst (-1), 1) := by decide +kernel
theorem dX6_leastV_1 : decode cX6_leastV 1 = .ok (.istore_n 1, 1) := by decide +kernel
theorem dX6_leastV_2 : decode cX6_leastV 2 = .ok (.lconst 0, 1) := by decide +kernel
theorem dX6_leastV_3 : decode cX6_leastV 3 = .ok (.lstore_n 2, 1) := by decide +kernel
theorem dX6_leastV_4 : decode cX6_leastV 4 = .ok (.iconst 0, 1) := by decide +kernel
theorem dX6_leastV_5 : decode cX6_leastV 5 = .ok (.istore 4, 2) := by decide +kernel
theorem dX6_leastV_7 : decode cX6_leastV 7 = .ok (.iload 4, 2) := by decide +kernel
theorem dX6_leastV_9 : decode cX6_leastV 9 = .ok (.aload_n 0, 1) := by decide +kernel
theorem dX6_leastV_10 : decode cX6_leastV 10 = .ok (.getfield 48, 3) := by decide +kernel
theorem dX6_leastV_13 : decode cX6_leastV 13 = .ok (.if_icmp .ge 56, 3) := by decide +kernel
theorem dX6_leastV_69 : decode cX6_leastV 69 = .ok (.iload_n 1, 1) := by decide +kernel
theorem dX6_leastV_70 : decode cX6_leastV 70 = .ok (.ireturn, 1) := by decide +kernel
theorem dX6_nextInTurn_0 : decode cX6_nextInTurn 0 = .ok (.iconst 1, 1) := by decide +kernel
theorem dX6_nextInTurn_1 : decode cX6_nextInTurn 1 = .ok (.istore_n 1, 1) := by decide +kernel
theorem dX6_nextInTurn_2 : decode cX6_nextInTurn 2 = .ok (.iload_n 1, 1) := by decide +kernel
theorem dX6_nextInTurn_3 : decode cX6_nextInTurn 3 = .ok (.aload_n 0, 1) := by decide +kernel
theorem dX6_nextInTurn_4 : decode cX6_nextInTurn 4 = .ok (.getfield 48, 3) := by decide +kernel
theorem dX6_nextInTurn_7 : decode cX6_nextInTurn 7 = .ok (.if_icmp .gt 43, 3) := by decide +kernel
theorem dX6_nextInTurn_50 : decode cX6_nextInTurn 50 = .ok (.iconst (-1), 1) := by decide +kernel
theorem dX6_nextInTurn_51 : decode cX6_nextInTurn 51 = .ok (.ireturn, 1) := by decide +kernel
theorem dX6_tick_0 : decode cX6_tick 0 = .ok (.iconst 0, 1) := by decide +kernel
theorem dX6_tick_1 : decode cX6_tick 1 = .ok (.istore_n 2, 1) := by decide +kernel
theorem dX6_tick_2 : decode cX6_tick 2 = .ok (.iload_n 2, 1) := by decide +kernel
theorem dX6_tick_3 : decode cX6_tick 3 = .ok (.aload_n 0, 1) := by decide +kernel
theorem dX6_tick_4 : decode cX6_tick 4 = .ok (.getfield 48, 3) := by decide +kernel
theorem dX6_tick_7 : decode cX6_tick 7 = .ok (.if_icmp .ge 22, 3) := by decide +kernel
theorem dX6_tick_29 : decode cX6_tick 29 = .ok (.iconst 0, 1) := by decide +kernel
theorem dX6_tick_30 : decode cX6_tick 30 = .ok (.istore_n 2, 1) := by decide +kernel
theorem dX6_tick_31 : decode cX6_tick 31 = .ok (.iload_n 2, 1) := by decide +kernel
theorem dX6_tick_32 : decode cX6_tick 32 = .ok (.aload_n 0, 1) := by decide +kernel
theorem dX6_tick_33 : decode cX6_tick 33 = .ok (.getfield 48, 3) := by decide +kernel
theorem dX6_tick_36 : decode cX6_tick 36 = .ok (.if_icmp .ge 19, 3) := by decide +kernel
theorem dX6_tick_55 : decode cX6_tick 55 = .ok (.aload_n 1, 1) := by decide +kernel
theorem dX6_tick_56 : decode cX6_tick 56 = .ok (.aload_n 0, 1) := by decide +kernel
theorem dX6_tick_57 : decode cX6_tick 57 = .ok (.invokevirtual 204, 3) := by decide +kernel
theorem dX6_tick_60 : decode cX6_tick 60 = .ok (.istore_n 2, 1) := by decide +kernel
theorem dX6_tick_61 : decode cX6_tick 61 = .ok (.aload_n 0, 1) := by decide +kernel
theorem dX6_tick_62 : decode cX6_tick 62 = .ok (.getfield 20, 3) := by decide +kernel
theorem dX6_tick_65 : decode cX6_tick 65 = .ok (.aload_n 0, 1) := by decide +kernel
theorem dX6_tick_66 : decode cX6_tick 66 = .ok (.getfield 58, 3) := by decide +kernel
theorem dX6_tick_69 : decode cX6_tick 69 = .ok (.iload_n 2, 1) := by decide +kernel
theorem dX6_tick_70 : decode cX6_tick 70 = .ok (.aload_n 0, 1) := by decide +kernel
theorem dX6_tick_71 : decode cX6_tick 71 = .ok (.invokevirtual 108, 3) := by decide +kernel
theorem dX6_tick_74 : decode cX6_tick 74 = .ok (.aload_n 0, 1) := by decide +kernel
theorem dX6_tick_75 : decode cX6_tick 75 = .ok (.invokevirtual 210, 3) := by decide +kernel
theorem dX6_tick_78 : decode cX6_tick 78 = .ok (.invokevirtual 213, 3) := by decide +kernel
theorem dX6_tick_81 : decode cX6_tick 81 = .ok (.aload_n 0, 1) := by decide +kernel
theorem dX6_tick_82 : decode cX6_tick 82 = .ok (.iload_n 2, 1) := by decide +kernel
theorem dX6_tick_83 : decode cX6_tick 83 = .ok (.invokevirtual 194, 3) := by decide +kernel
theorem dX6_tick_86 : decode cX6_tick 86 = .ok (.ifCond .eq 26, 3) := by decide +kernel
theorem dX6_tick_112 : decode cX6_tick 112 = .ok (.aload_n 0, 1) := by decide +kernel
theorem dX6_tick_113 : decode cX6_tick 113 = .ok (.iconst (-1), 1) := by decide +kernel
theorem dX6_tick_114 : decode cX6_tick 114 = .ok (.putfield 38, 3) := by decide +kernel
theorem dX6_tick_117 : decode cX6_tick 117 = .ok (.aload_n 0, 1) := by decide +kernel
theorem dX6_tick_118 : decode cX6_tick 118 = .ok (.dup, 1) := by decide +kernel
theorem dX6_tick_119 : decode cX6_tick 119 = .ok (.getfield 58, 3) := by decide +kernel
theorem dX6_tick_122 : decode cX6_tick 122 = .ok (.iconst 1, 1) := by decide +kernel
theorem dX6_tick_123 : decode cX6_tick 123 = .ok (.iadd, 1) := by decide +kernel
theorem dX6_tick_124 : decode cX6_tick 124 = .ok (.putfield 58, 3) := by decide +kernel
theorem dX6_tick_127 : decode cX6_tick 127 = .ok (.iload_n 2, 1) := by decide +kernel
theorem dX6_tick_128 : decode cX6_tick 128 = .ok (.ireturn, 1) := by decide +kernel
theorem dX6_weightsAsBits_0 : decode cX6_weightsAsBits 0 = .ok (.lconst 0, 1) := by decide +kernel
theorem dX6_weightsAsBits_1 : decode cX6_weightsAsBits 1 = .ok (.lstore_n 1, 1) := by decide +kernel
theorem dX6_weightsAsBits_2 : decode cX6_weightsAsBits 2 = .ok (.iconst 0, 1) := by decide +kernel
theorem dX6_weightsAsBits_3 : decode cX6_weightsAsBits 3 = .ok (.istore_n 3, 1) := by decide +kernel
theorem dX6_weightsAsBits_4 : decode cX6_weightsAsBits 4 = .ok (.iload_n 3, 1) := by decide +kernel
theorem dX6_weightsAsBits_5 : decode cX6_weightsAsBits 5 = .ok (.aload_n 0, 1) := by decide +kernel
theorem dX6_weightsAsBits_6 : decode cX6_weightsAsBits 6 = .ok (.getfield 48, 3) := by decide +kernel
theorem dX6_weightsAsBits_9 : decode cX6_weightsAsBits 9 = .ok (.if_icmp .ge 37, 3) := by decide +kernel
theorem dX6_weightsAsBits_46 : decode cX6_weightsAsBits 46 = .ok (.lload_n 1, 1) := by decide +kernel
theorem dX6_weightsAsBits_47 : decode cX6_weightsAsBits 47 = .ok (.lreturn, 1) := by decide +kernel
theorem dX6_firstInLog_0 : decode cX6_firstInLog 0 = .ok (.iconst 0, 1) := by decide +kernel
theorem dX6_firstInLog_1 : decode cX6_firstInLog 1 = .ok (.aload_n 0, 1) := by decide +kernel
theorem dX6_firstInLog_2 : decode cX6_firstInLog 2 = .ok (.getfield 58, 3) := by decide +kernel
theorem dX6_firstInLog_5 : decode cX6_firstInLog 5 = .ok (.sipush 128, 3) := by decide +kernel
theorem dX6_firstInLog_8 : decode cX6_firstInLog 8 = .ok (.isub, 1) := by decide +kernel
theorem dX6_firstInLog_9 : decode cX6_firstInLog 9 = .ok (.invokestatic 174, 3) := by decide +kernel
theorem dX6_firstInLog_12 : decode cX6_firstInLog 12 = .ok (.ireturn, 1) := by decide +kernel
theorem dX6_logHolds_0 : decode cX6_logHolds 0 = .ok (.iload_n 1, 1) := by decide +kernel
theorem dX6_logHolds_1 : decode cX6_logHolds 1 = .ok (.aload_n 0, 1) := by decide +kernel
theorem dX6_logHolds_2 : decode cX6_logHolds 2 = .ok (.invokevirtual 316, 3) := by decide +kernel
theorem dX6_logHolds_5 : decode cX6_logHolds 5 = .ok (.if_icmp .lt 15, 3) := by decide +kernel
theorem dX6_logHolds_8 : decode cX6_logHolds 8 = .ok (.iload_n 1, 1) := by decide +kernel
theorem dX6_logHolds_9 : decode cX6_logHolds 9 = .ok (.aload_n 0, 1) := by decide +kernel
theorem dX6_logHolds_10 : decode cX6_logHolds 10 = .ok (.getfield 58, 3) := by decide +kernel
theorem dX6_logHolds_13 : decode cX6_logHolds 13 = .ok (.if_icmp .ge 7, 3) := by decide +kernel
theorem dX6_logHolds_20 : decode cX6_logHolds 20 = .ok (.iconst 0, 1) := by decide +kernel
theorem dX6_logHolds_21 : decode cX6_logHolds 21 = .ok (.ireturn, 1) := by decide +kernel
theorem dX7_init_0 : decode cX7_init 0 = .ok (.aload_n 0, 1) := by decide +kernel
theorem dX7_init_1 : decode cX7_init 1 = .ok (.invokespecial 3, 3) := by decide +kernel
theorem dX7_init_4 : decode cX7_init 4 = .ok (.aload_n 0, 1) := by decide +kernel
theorem dX7_init_5 : decode cX7_init 5 = .ok (.sipush 200, 3) := by decide +kernel
theorem dX7_init_8 : decode cX7_init 8 = .ok (.newarray .byte, 2) := by decide +kernel
theorem dX7_init_10 : decode cX7_init 10 = .ok (.putfield 11, 3) := by decide +kernel
theorem dX7_init_13 : decode cX7_init 13 = .ok (.return_, 1) := by decide +kernel
theorem dX7_hasRoomForFive_0 : decode cX7_hasRoomForFive 0 = .ok (.aload_n 0, 1) := by decide +kernel
theorem dX7_hasRoomForFive_1 : decode cX7_hasRoomForFive 1 = .ok (.getfield 15, 3) := by decide +kernel
theorem dX7_hasRoomForFive_4 : decode cX7_hasRoomForFive 4 = .ok (.bipush 20, 2) := by decide +kernel
theorem dX7_hasRoomForFive_6 : decode cX7_hasRoomForFive 6 = .ok (.iadd, 1) := by decide +kernel
theorem dX7_hasRoomForFive_7 : decode cX7_hasRoomForFive 7 = .ok (.sipush 200, 3) := by decide +kernel
theorem dX7_hasRoomForFive_10 : decode cX7_hasRoomForFive 10 = .ok (.if_icmp .gt 7, 3) := by decide +kernel
theorem dX7_hasRoomForFive_13 : decode cX7_hasRoomForFive 13 = .ok (.iconst 1, 1) := by decide +kernel
theorem dX7_hasRoomForFive_14 : decode cX7_hasRoomForFive 14 = .ok (.goto 4, 3) := by decide +kernel
theorem dX7_hasRoomForFive_18 : decode cX7_hasRoomForFive 18 = .ok (.ireturn, 1) := by decide +kernel
theorem dX7_addFour_0 : decode cX7_addFour 0 = .ok (.aload_n 0, 1) := by decide +kernel
theorem dX7_addFour_1 : decode cX7_addFour 1 = .ok (.iload_n 1, 1) := by decide +kernel
theorem dX7_addFour_2 : decode cX7_addFour 2 = .ok (.bipush 24, 2) := by decide +kernel
theorem dX7_addFour_4 : decode cX7_addFour 4 = .ok (.iushr, 1) := by decide +kernel
theorem dX7_addFour_5 : decode cX7_addFour 5 = .ok (.invokevirtual 19, 3) := by decide +kernel
theorem dX7_addFour_8 : decode cX7_addFour 8 = .ok (.aload_n 0, 1) := by decide +kernel
theorem dX7_addFour_9 : decode cX7_addFour 9 = .ok (.iload_n 1, 1) := by decide +kernel
theorem dX7_addFour_10 : decode cX7_addFour 10 = .ok (.bipush 16, 2) := by decide +kernel
theorem dX7_addFour_12 : decode cX7_addFour 12 = .ok (.iushr, 1) := by decide +kernel
theorem dX7_addFour_13 : decode cX7_addFour 13 = .ok (.invokevirtual 19, 3) := by decide +kernel
theorem dX7_addFour_16 : decode cX7_addFour 16 = .ok (.aload_n 0, 1) := by decide +kernel
theorem dX7_addFour_17 : decode cX7_addFour 17 = .ok (.iload_n 1, 1) := by decide +kernel
theorem dX7_addFour_18 : decode cX7_addFour 18 = .ok (.bipush 8, 2) := by decide +kernel
theorem dX7_addFour_20 : decode cX7_addFour 20 = .ok (.iushr, 1) := by decide +kernel
theorem dX7_addFour_21 : decode cX7_addFour 21 = .ok (.invokevirtual 19, 3) := by decide +kernel
theorem dX7_addFour_24 : decode cX7_addFour 24 = .ok (.aload_n 0, 1) := by decide +kernel
theorem dX7_addFour_25 : decode cX7_addFour 25 = .ok (.iload_n 1, 1) := by decide +kernel
theorem dX7_addFour_26 : decode cX7_addFour 26 = .ok (.invokevirtual 19, 3) := by decide +kernel
theorem dX7_addFour_29 : decode cX7_addFour 29 = .ok (.return_, 1) := by decide +kernel
theorem dX7_add_0 : decode cX7_add 0 = .ok (.aload_n 0, 1) := by decide +kernel
theorem dX7_add_1 : decode cX7_add 1 = .ok (.getfield 15, 3) := by decide +kernel
theorem dX7_add_4 : decode cX7_add 4 = .ok (.ifCond .lt 34, 3) := by decide +kernel
theorem dX7_add_7 : decode cX7_add 7 = .ok (.aload_n 0, 1) := by decide +kernel
theorem dX7_add_8 : decode cX7_add 8 = .ok (.getfield 15, 3) := by decide +kernel
theorem dX7_add_11 : decode cX7_add 11 = .ok (.sipush 200, 3) := by decide +kernel
theorem dX7_add_14 : decode cX7_add 14 = .ok (.if_icmp .ge 24, 3) := by decide +kernel
theorem dX7_add_17 : decode cX7_add 17 = .ok (.aload_n 0, 1) := by decide +kernel
theorem dX7_add_18 : decode cX7_add 18 = .ok (.getfield 11, 3) := by decide +kernel
theorem dX7_add_21 : decode cX7_add 21 = .ok (.aload_n 0, 1) := by decide +kernel
theorem dX7_add_22 : decode cX7_add 22 = .ok (.getfield 15, 3) := by decide +kernel
theorem dX7_add_25 : decode cX7_add 25 = .ok (.iload_n 1, 1) := by decide +kernel
theorem dX7_add_26 : decode cX7_add 26 = .ok (.i2b, 1) := by decide +kernel
theorem dX7_add_27 : decode cX7_add 27 = .ok (.bastore, 1) := by decide +kernel
theorem dX7_add_28 : decode cX7_add 28 = .ok (.aload_n 0, 1) := by decide +kernel
theorem dX7_add_29 : decode cX7_add 29 = .ok (.dup, 1) := by decide +kernel
theorem dX7_add_30 : decode cX7_add 30 = .ok (.getfield 15, 3) := by decide +kernel
theorem dX7_add_33 : decode cX7_add 33 = .ok (.iconst 1, 1) := by decide +kernel
theorem dX7_add_34 : decode cX7_add 34 = .ok (.iadd, 1) := by decide +kernel
theorem dX7_add_35 : decode cX7_add 35 = .ok (.putfield 15, 3) := by decide +kernel
theorem dX7_add_38 : decode cX7_add 38 = .ok (.return_, 1) := by decide +kernel
theorem dX7_byteAt_0 : decode cX7_byteAt 0 = .ok (.iload_n 1, 1) := by decide +kernel
theorem dX7_byteAt_1 : decode cX7_byteAt 1 = .ok (.ifCond .lt 31, 3) := by decide +kernel
theorem dX7_byteAt_4 : decode cX7_byteAt 4 = .ok (.iload_n 1, 1) := by decide +kernel
theorem dX7_byteAt_5 : decode cX7_byteAt 5 = .ok (.aload_n 0, 1) := by decide +kernel
theorem dX7_byteAt_6 : decode cX7_byteAt 6 = .ok (.getfield 15, 3) := by decide +kernel
theorem dX7_byteAt_9 : decode cX7_byteAt 9 = .ok (.if_icmp .ge 23, 3) := by decide +kernel
theorem dX7_byteAt_32 : decode cX7_byteAt 32 = .ok (.iconst (-1), 1) := by decide +kernel
theorem dX7_byteAt_33 : decode cX7_byteAt 33 = .ok (.ireturn, 1) := by decide +kernel
theorem dX8_init_0 : decode cX8_init 0 = .ok (.aload_n 0, 1) := by decide +kernel
theorem dX8_init_1 : decode cX8_init 1 = .ok (.invokespecial 3, 3) := by decide +kernel
theorem dX8_init_4 : decode cX8_init 4 = .ok (.aload_n 0, 1) := by decide +kernel
theorem dX8_init_5 : decode cX8_init 5 = .ok (.new 9, 3) := by decide +kernel
theorem dX8_init_8 : decode cX8_init 8 = .ok (.dup, 1) := by decide +kernel
theorem dX8_init_9 : decode cX8_init 9 = .ok (.invokespecial 11, 3) := by decide +kernel
theorem dX8_init_12 : decode cX8_init 12 = .ok (.putfield 12, 3) := by decide +kernel
theorem dX8_init_15 : decode cX8_init 15 = .ok (.aload_n 0, 1) := by decide +kernel
theorem dX8_init_16 : decode cX8_init 16 = .ok (.new 18, 3) := by decide +kernel
theorem dX8_init_19 : decode cX8_init 19 = .ok (.dup, 1) := by decide +kernel
theorem dX8_init_20 : decode cX8_init 20 = .ok (.invokespecial 20, 3) := by decide +kernel
theorem dX8_init_23 : decode cX8_init 23 = .ok (.putfield 21, 3) := by decide +kernel
theorem dX8_init_26 : decode cX8_init 26 = .ok (.aload_n 0, 1) := by decide +kernel
theorem dX8_init_27 : decode cX8_init 27 = .ok (.iload_n 1, 1) := by decide +kernel
theorem dX8_init_28 : decode cX8_init 28 = .ok (.putfield 25, 3) := by decide +kernel
theorem dX8_init_31 : decode cX8_init 31 = .ok (.return_, 1) := by decide +kernel
theorem dX8_startAnew_0 : decode cX8_startAnew 0 = .ok (.aload_n 0, 1) := by decide +kernel
theorem dX8_startAnew_1 : decode cX8_startAnew 1 = .ok (.getfield 12, 3) := by decide +kernel
theorem dX8_startAnew_4 : decode cX8_startAnew 4 = .ok (.invokevirtual 29, 3) := by decide +kernel
theorem dX8_startAnew_7 : decode cX8_startAnew 7 = .ok (.aload_n 0, 1) := by decide +kernel
theorem dX8_startAnew_8 : decode cX8_startAnew 8 = .ok (.iload_n 1, 1) := by decide +kernel
theorem dX8_startAnew_9 : decode cX8_startAnew 9 = .ok (.putfield 32, 3) := by decide +kernel
theorem dX8_startAnew_12 : decode cX8_startAnew 12 = .ok (.aload_n 0, 1) := by decide +kernel
theorem dX8_startAnew_13 : decode cX8_startAnew 13 = .ok (.iload_n 2, 1) := by decide +kernel
theorem dX8_startAnew_14 : decode cX8_startAnew 14 = .ok (.putfield 35, 3) := by decide +kernel
theorem dX8_startAnew_17 : decode cX8_startAnew 17 = .ok (.aload_n 0, 1) := by decide +kernel
theorem dX8_startAnew_18 : decode cX8_startAnew 18 = .ok (.iconst 0, 1) := by decide +kernel
theorem dX8_startAnew_19 : decode cX8_startAnew 19 = .ok (.putfield 38, 3) := by decide +kernel
theorem dX8_startAnew_22 : decode cX8_startAnew 22 = .ok (.aload_n 0, 1) := by decide +kernel
theorem dX8_startAnew_23 : decode cX8_startAnew 23 = .ok (.lconst 0, 1) := by decide +kernel
theorem dX8_startAnew_24 : decode cX8_startAnew 24 = .ok (.putfield 41, 3) := by decide +kernel
theorem dX8_startAnew_27 : decode cX8_startAnew 27 = .ok (.aload_n 0, 1) := by decide +kernel
theorem dX8_startAnew_28 : decode cX8_startAnew 28 = .ok (.iconst 0, 1) := by decide +kernel
theorem dX8_startAnew_29 : decode cX8_startAnew 29 = .ok (.putfield 45, 3) := by decide +kernel
theorem dX8_startAnew_32 : decode cX8_startAnew 32 = .ok (.aload_n 0, 1) := by decide +kernel
theorem dX8_startAnew_33 : decode cX8_startAnew 33 = .ok (.getfield 21, 3) := by decide +kernel
theorem dX8_startAnew_36 : decode cX8_startAnew 36 = .ok (.lconst 0, 1) := by decide +kernel
theorem dX8_startAnew_37 : decode cX8_startAnew 37 = .ok (.invokevirtual 48, 3) := by decide +kernel
theorem dX8_startAnew_40 : decode cX8_startAnew 40 = .ok (.aload_n 0, 1) := by decide +kernel
theorem dX8_startAnew_41 : decode cX8_startAnew 41 = .ok (.iconst 1, 1) := by decide +kernel
theorem dX8_startAnew_42 : decode cX8_startAnew 42 = .ok (.putfield 52, 3) := by decide +kernel
theorem dX8_startAnew_45 : decode cX8_startAnew 45 = .ok (.aload_n 0, 1) := by decide +kernel
theorem dX8_startAnew_46 : decode cX8_startAnew 46 = .ok (.iconst 0, 1) := by decide +kernel
theorem dX8_startAnew_47 : decode cX8_startAnew 47 = .ok (.putfield 55, 3) := by decide +kernel
theorem dX8_startAnew_50 : decode cX8_startAnew 50 = .ok (.aload_n 0, 1) := by decide +kernel
theorem dX8_startAnew_51 : decode cX8_startAnew 51 = .ok (.iconst 0, 1) := by decide +kernel
theorem dX8_startAnew_52 : decode cX8_startAnew 52 = .ok (.putfield 58, 3) := by decide +kernel
theorem dX8_startAnew_55 : decode cX8_startAnew 55 = .ok (.aload_n 0, 1) := by decide +kernel
theorem dX8_startAnew_56 : decode cX8_startAnew 56 = .ok (.iconst 0, 1) := by decide +kernel
theorem dX8_startAnew_57 : decode cX8_startAnew 57 = .ok (.putfield 61, 3) := by decide +kernel
theorem dX8_startAnew_60 : decode cX8_startAnew 60 = .ok (.aload_n 0, 1) := by decide +kernel
theorem dX8_startAnew_61 : decode cX8_startAnew 61 = .ok (.iconst 0, 1) := by decide +kernel
theorem dX8_startAnew_62 : decode cX8_startAnew 62 = .ok (.putfield 64, 3) := by decide +kernel
theorem dX8_startAnew_65 : decode cX8_startAnew 65 = .ok (.aload_n 0, 1) := by decide +kernel
theorem dX8_startAnew_66 : decode cX8_startAnew 66 = .ok (.iconst 0, 1) := by decide +kernel
theorem dX8_startAnew_67 : decode cX8_startAnew 67 = .ok (.putfield 67, 3) := by decide +kernel
theorem dX8_startAnew_70 : decode cX8_startAnew 70 = .ok (.aload_n 0, 1) := by decide +kernel
theorem dX8_startAnew_71 : decode cX8_startAnew 71 = .ok (.iconst 0, 1) := by decide +kernel
theorem dX8_startAnew_72 : decode cX8_startAnew 72 = .ok (.putfield 70, 3) := by decide +kernel
theorem dX8_startAnew_75 : decode cX8_startAnew 75 = .ok (.aload_n 0, 1) := by decide +kernel
theorem dX8_startAnew_76 : decode cX8_startAnew 76 = .ok (.iconst 0, 1) := by decide +kernel
theorem dX8_startAnew_77 : decode cX8_startAnew 77 = .ok (.iconst 0, 1) := by decide +kernel
theorem dX8_startAnew_78 : decode cX8_startAnew 78 = .ok (.invokevirtual 73, 3) := by decide +kernel
theorem dX8_startAnew_81 : decode cX8_startAnew 81 = .ok (.return_, 1) := by decide +kernel
theorem dX8_takeQuota_0 : decode cX8_takeQuota 0 = .ok (.aload_n 0, 1) := by decide +kernel
theorem dX8_takeQuota_1 : decode cX8_takeQuota 1 = .ok (.iload_n 1, 1) := by decide +kernel
theorem dX8_takeQuota_2 : decode cX8_takeQuota 2 = .ok (.putfield 87, 3) := by decide +kernel
theorem dX8_takeQuota_5 : decode cX8_takeQuota 5 = .ok (.aload_n 0, 1) := by decide +kernel
theorem dX8_takeQuota_6 : decode cX8_takeQuota 6 = .ok (.iload_n 1, 1) := by decide +kernel
theorem dX8_takeQuota_7 : decode cX8_takeQuota 7 = .ok (.ifCond .le 7, 3) := by decide +kernel
theorem dX8_takeQuota_14 : decode cX8_takeQuota 14 = .ok (.iconst 0, 1) := by decide +kernel
theorem dX8_takeQuota_15 : decode cX8_takeQuota 15 = .ok (.putfield 90, 3) := by decide +kernel
theorem dX8_takeQuota_18 : decode cX8_takeQuota 18 = .ok (.aload_n 0, 1) := by decide +kernel
theorem dX8_takeQuota_19 : decode cX8_takeQuota 19 = .ok (.iload_n 1, 1) := by decide +kernel
theorem dX8_takeQuota_20 : decode cX8_takeQuota 20 = .ok (.ifCond .le 7, 3) := by decide +kernel
theorem dX8_takeQuota_27 : decode cX8_takeQuota 27 = .ok (.iconst (-1), 1) := by decide +kernel
theorem dX8_takeQuota_28 : decode cX8_takeQuota 28 = .ok (.putfield 84, 3) := by decide +kernel
theorem dX8_takeQuota_31 : decode cX8_takeQuota 31 = .ok (.return_, 1) := by decide +kernel
theorem dX9_init_0 : decode cX9_init 0 = .ok (.aload_n 0, 1) := by decide +kernel
theorem dX9_init_1 : decode cX9_init 1 = .ok (.invokespecial 1, 3) := by decide +kernel
theorem dX9_init_4 : decode cX9_init 4 = .ok (.aload_n 0, 1) := by decide +kernel
theorem dX9_init_5 : decode cX9_init 5 = .ok (.iconst 1, 1) := by decide +kernel
theorem dX9_init_6 : decode cX9_init 6 = .ok (.putfield 7, 3) := by decide +kernel
theorem dX9_init_9 : decode cX9_init 9 = .ok (.aload_n 0, 1) := by decide +kernel
theorem dX9_init_10 : decode cX9_init 10 = .ok (.iconst 1, 1) := by decide +kernel
theorem dX9_init_11 : decode cX9_init 11 = .ok (.putfield 13, 3) := by decide +kernel
theorem dX9_init_14 : decode cX9_init 14 = .ok (.return_, 1) := by decide +kernel
theorem dX9_allows_0 : decode cX9_allows 0 = .ok (.iload_n 1, 1) := by decide +kernel
theorem dX9_allows_1 : decode cX9_allows 1 = .ok (.tableswitch 73 0 2 #[27, 42, 57], 27) := by decide +kernel
theorem dX9_allows_28 : decode cX9_allows 28 = .ok (.iload_n 2, 1) := by decide +kernel
theorem dX9_allows_29 : decode cX9_allows 29 = .ok (.ifCond .lt 12, 3) := by decide +kernel
theorem dX9_allows_32 : decode cX9_allows 32 = .ok (.iload_n 2, 1) := by decide +kernel
theorem dX9_allows_33 : decode cX9_allows 33 = .ok (.iconst 1, 1) := by decide +kernel
theorem dX9_allows_34 : decode cX9_allows 34 = .ok (.if_icmp .gt 7, 3) := by decide +kernel
theorem dX9_allows_37 : decode cX9_allows 37 = .ok (.iconst 1, 1) := by decide +kernel
theorem dX9_allows_38 : decode cX9_allows 38 = .ok (.goto 4, 3) := by decide +kernel
theorem dX9_allows_41 : decode cX9_allows 41 = .ok (.iconst 0, 1) := by decide +kernel
theorem dX9_allows_42 : decode cX9_allows 42 = .ok (.ireturn, 1) := by decide +kernel
theorem dX9_allows_43 : decode cX9_allows 43 = .ok (.iload_n 2, 1) := by decide +kernel
theorem dX9_allows_44 : decode cX9_allows 44 = .ok (.ifCond .lt 12, 3) := by decide +kernel
theorem dX9_allows_47 : decode cX9_allows 47 = .ok (.iload_n 2, 1) := by decide +kernel
theorem dX9_allows_48 : decode cX9_allows 48 = .ok (.iconst 3, 1) := by decide +kernel
theorem dX9_allows_49 : decode cX9_allows 49 = .ok (.if_icmp .gt 7, 3) := by decide +kernel
theorem dX9_allows_52 : decode cX9_allows 52 = .ok (.iconst 1, 1) := by decide +kernel
theorem dX9_allows_53 : decode cX9_allows 53 = .ok (.goto 4, 3) := by decide +kernel
theorem dX9_allows_56 : decode cX9_allows 56 = .ok (.iconst 0, 1) := by decide +kernel
theorem dX9_allows_57 : decode cX9_allows 57 = .ok (.ireturn, 1) := by decide +kernel
theorem dX9_allows_58 : decode cX9_allows 58 = .ok (.iload_n 2, 1) := by decide +kernel
theorem dX9_allows_59 : decode cX9_allows 59 = .ok (.ifCond .lt 13, 3) := by decide +kernel
theorem dX9_allows_62 : decode cX9_allows 62 = .ok (.iload_n 2, 1) := by decide +kernel
theorem dX9_allows_63 : decode cX9_allows 63 = .ok (.ldc 16, 2) := by decide +kernel
theorem dX9_allows_65 : decode cX9_allows 65 = .ok (.if_icmp .gt 7, 3) := by decide +kernel
theorem dX9_allows_68 : decode cX9_allows 68 = .ok (.iconst 1, 1) := by decide +kernel
theorem dX9_allows_69 : decode cX9_allows 69 = .ok (.goto 4, 3) := by decide +kernel
theorem dX9_allows_72 : decode cX9_allows 72 = .ok (.iconst 0, 1) := by decide +kernel
theorem dX9_allows_73 : decode cX9_allows 73 = .ok (.ireturn, 1) := by decide +kernel
theorem dX9_allows_74 : decode cX9_allows 74 = .ok (.iconst 0, 1) := by decide +kernel
theorem dX9_allows_75 : decode cX9_allows 75 = .ok (.ireturn, 1) := by decide +kernel
theorem dX9_get_0 : decode cX9_get 0 = .ok (.iload_n 1, 1) := by decide +kernel
theorem dX9_get_1 : decode cX9_get 1 = .ok (.lookupswitch 37 #[(0, 27), (1, 32)], 27) := by decide +kernel
theorem dX9_get_28 : decode cX9_get 28 = .ok (.aload_n 0, 1) := by decide +kernel
theorem dX9_get_29 : decode cX9_get 29 = .ok (.getfield 17, 3) := by decide +kernel
theorem dX9_get_32 : decode cX9_get 32 = .ok (.ireturn, 1) := by decide +kernel
theorem dX9_get_33 : decode cX9_get 33 = .ok (.aload_n 0, 1) := by decide +kernel
theorem dX9_get_34 : decode cX9_get 34 = .ok (.getfield 7, 3) := by decide +kernel
theorem dX9_get_37 : decode cX9_get 37 = .ok (.ireturn, 1) := by decide +kernel
theorem dX9_get_38 : decode cX9_get 38 = .ok (.aload_n 0, 1) := by decide +kernel
theorem dX9_get_39 : decode cX9_get 39 = .ok (.getfield 13, 3) := by decide +kernel
theorem dX9_get_42 : decode cX9_get 42 = .ok (.ireturn, 1) := by decide +kernel
theorem dX9_set_0 : decode cX9_set 0 = .ok (.iload_n 1, 1) := by decide +kernel
theorem dX9_set_1 : decode cX9_set 1 = .ok (.lookupswitch 43 #[(0, 27), (1, 35)], 27) := by decide +kernel
theorem dX9_set_28 : decode cX9_set 28 = .ok (.aload_n 0, 1) := by decide +kernel
theorem dX9_set_29 : decode cX9_set 29 = .ok (.iload_n 2, 1) := by decide +kernel
theorem dX9_set_30 : decode cX9_set 30 = .ok (.putfield 17, 3) := by decide +kernel
theorem dX9_set_33 : decode cX9_set 33 = .ok (.goto 16, 3) := by decide +kernel
theorem dX9_set_36 : decode cX9_set 36 = .ok (.aload_n 0, 1) := by decide +kernel
theorem dX9_set_37 : decode cX9_set 37 = .ok (.iload_n 2, 1) := by decide +kernel
theorem dX9_set_38 : decode cX9_set 38 = .ok (.putfield 7, 3) := by decide +kernel
theorem dX9_set_41 : decode cX9_set 41 = .ok (.goto 8, 3) := by decide +kernel
theorem dX9_set_44 : decode cX9_set 44 = .ok (.aload_n 0, 1) := by decide +kernel
theorem dX9_set_45 : decode cX9_set 45 = .ok (.iload_n 2, 1) := by decide +kernel
theorem dX9_set_46 : decode cX9_set 46 = .ok (.putfield 13, 3) := by decide +kernel
theorem dX9_set_49 : decode cX9_set 49 = .ok (.return_, 1) := by decide +kernel
theorem dX10_init_0 : decode cX10_init 0 = .ok (.aload_n 0, 1) := by decide +kernel
theorem dX10_init_1 : decode cX10_init 1 = .ok (.invokespecial 3, 3) := by decide +kernel
theorem dX10_init_4 : decode cX10_init 4 = .ok (.return_, 1) := by decide +kernel
theorem dX10_set_0 : decode cX10_set 0 = .ok (.aload_n 0, 1) := by decide +kernel
theorem dX10_set_1 : decode cX10_set 1 = .ok (.lload_n 1, 1) := by decide +kernel
theorem dX10_set_2 : decode cX10_set 2 = .ok (.bipush 32, 2) := by decide +kernel
theorem dX10_set_4 : decode cX10_set 4 = .ok (.lshr, 1) := by decide +kernel
theorem dX10_set_5 : decode cX10_set 5 = .ok (.putfield 9, 3) := by decide +kernel
theorem dX10_set_8 : decode cX10_set 8 = .ok (.aload_n 0, 1) := by decide +kernel
theorem dX10_set_9 : decode cX10_set 9 = .ok (.lload_n 1, 1) := by decide +kernel
theorem dX10_set_10 : decode cX10_set 10 = .ok (.ldc2_w 13, 3) := by decide +kernel
theorem dX10_set_13 : decode cX10_set 13 = .ok (.land, 1) := by decide +kernel
theorem dX10_set_14 : decode cX10_set 14 = .ok (.putfield 15, 3) := by decide +kernel
theorem dX10_set_17 : decode cX10_set 17 = .ok (.return_, 1) := by decide +kernel
theorem dX10_divide_0 : decode cX10_divide 0 = .ok (.lload_n 1, 1) := by decide +kernel
theorem dX10_divide_1 : decode cX10_divide 1 = .ok (.lconst 0, 1) := by decide +kernel
theorem dX10_divide_2 : decode cX10_divide 2 = .ok (.lcmp, 1) := by decide +kernel
theorem dX10_divide_3 : decode cX10_divide 3 = .ok (.ifCond .le 37, 3) := by decide +kernel
theorem dX10_divide_6 : decode cX10_divide 6 = .ok (.aload_n 0, 1) := by decide +kernel
theorem dX10_divide_7 : decode cX10_divide 7 = .ok (.aload_n 0, 1) := by decide +kernel
theorem dX10_divide_8 : decode cX10_divide 8 = .ok (.getfield 9, 3) := by decide +kernel
theorem dX10_divide_11 : decode cX10_divide 11 = .ok (.lload_n 1, 1) := by decide +kernel
theorem dX10_divide_12 : decode cX10_divide 12 = .ok (.invokestatic 18, 3) := by decide +kernel
theorem dX10_divide_15 : decode cX10_divide 15 = .ok (.bipush 32, 2) := by decide +kernel
theorem dX10_divide_17 : decode cX10_divide 17 = .ok (.lshl, 1) := by decide +kernel
theorem dX10_divide_18 : decode cX10_divide 18 = .ok (.aload_n 0, 1) := by decide +kernel
theorem dX10_divide_19 : decode cX10_divide 19 = .ok (.getfield 15, 3) := by decide +kernel
theorem dX10_divide_22 : decode cX10_divide 22 = .ok (.lor, 1) := by decide +kernel
theorem dX10_divide_23 : decode cX10_divide 23 = .ok (.lload_n 1, 1) := by decide +kernel
theorem dX10_divide_24 : decode cX10_divide 24 = .ok (.ldiv, 1) := by decide +kernel
theorem dX10_divide_25 : decode cX10_divide 25 = .ok (.putfield 15, 3) := by decide +kernel
theorem dX10_divide_28 : decode cX10_divide 28 = .ok (.aload_n 0, 1) := by decide +kernel
theorem dX10_divide_29 : decode cX10_divide 29 = .ok (.aload_n 0, 1) := by decide +kernel
theorem dX10_divide_30 : decode cX10_divide 30 = .ok (.getfield 9, 3) := by decide +kernel
theorem dX10_divide_33 : decode cX10_divide 33 = .ok (.lload_n 1, 1) := by decide +kernel
theorem dX10_divide_34 : decode cX10_divide 34 = .ok (.invokestatic 24, 3) := by decide +kernel
theorem dX10_divide_37 : decode cX10_divide 37 = .ok (.putfield 9, 3) := by decide +kernel
theorem dX10_divide_40 : decode cX10_divide 40 = .ok (.return_, 1) := by decide +kernel
theorem dX10_modulo_0 : decode cX10_modulo 0 = .ok (.lload_n 1, 1) := by decide +kernel
theorem dX10_modulo_1 : decode cX10_modulo 1 = .ok (.lconst 0, 1) := by decide +kernel
theorem dX10_modulo_2 : decode cX10_modulo 2 = .ok (.lcmp, 1) := by decide +kernel
theorem dX10_modulo_3 : decode cX10_modulo 3 = .ok (.ifCond .le 24, 3) := by decide +kernel
theorem dX10_modulo_6 : decode cX10_modulo 6 = .ok (.aload_n 0, 1) := by decide +kernel
theorem dX10_modulo_7 : decode cX10_modulo 7 = .ok (.getfield 9, 3) := by decide +kernel
theorem dX10_modulo_10 : decode cX10_modulo 10 = .ok (.lload_n 1, 1) := by decide +kernel
theorem dX10_modulo_11 : decode cX10_modulo 11 = .ok (.invokestatic 18, 3) := by decide +kernel
theorem dX10_modulo_14 : decode cX10_modulo 14 = .ok (.bipush 32, 2) := by decide +kernel
theorem dX10_modulo_16 : decode cX10_modulo 16 = .ok (.lshl, 1) := by decide +kernel
theorem dX10_modulo_17 : decode cX10_modulo 17 = .ok (.aload_n 0, 1) := by decide +kernel
theorem dX10_modulo_18 : decode cX10_modulo 18 = .ok (.getfield 15, 3) := by decide +kernel
theorem dX10_modulo_21 : decode cX10_modulo 21 = .ok (.lor, 1) := by decide +kernel
theorem dX10_modulo_22 : decode cX10_modulo 22 = .ok (.lload_n 1, 1) := by decide +kernel
theorem dX10_modulo_23 : decode cX10_modulo 23 = .ok (.lrem, 1) := by decide +kernel
theorem dX10_modulo_24 : decode cX10_modulo 24 = .ok (.goto 4, 3) := by decide +kernel
theorem dX10_modulo_28 : decode cX10_modulo 28 = .ok (.lreturn, 1) := by decide +kernel
theorem dX10_asLong_0 : decode cX10_asLong 0 = .ok (.aload_n 0, 1) := by decide +kernel
theorem dX10_asLong_1 : decode cX10_asLong 1 = .ok (.getfield 9, 3) := by decide +kernel
theorem dX10_asLong_4 : decode cX10_asLong 4 = .ok (.bipush 32, 2) := by decide +kernel
theorem dX10_asLong_6 : decode cX10_asLong 6 = .ok (.lshl, 1) := by decide +kernel
theorem dX10_asLong_7 : decode cX10_asLong 7 = .ok (.aload_n 0, 1) := by decide +kernel
theorem dX10_asLong_8 : decode cX10_asLong 8 = .ok (.getfield 15, 3) := by decide +kernel
theorem dX10_asLong_11 : decode cX10_asLong 11 = .ok (.lor, 1) := by decide +kernel
theorem dX10_asLong_12 : decode cX10_asLong 12 = .ok (.lreturn, 1) := by decide +kernel
theorem dX11_init_0 : decode cX11_init 0 = .ok (.aload_n 0, 1) := by decide +kernel
theorem dX11_init_1 : decode cX11_init 1 = .ok (.invokespecial 3, 3) := by decide +kernel
theorem dX11_init_4 : decode cX11_init 4 = .ok (.aload_n 0, 1) := by decide +kernel
theorem dX11_init_5 : decode cX11_init 5 = .ok (.new 9, 3) := by decide +kernel
theorem dX11_init_8 : decode cX11_init 8 = .ok (.dup, 1) := by decide +kernel
theorem dX11_init_9 : decode cX11_init 9 = .ok (.invokespecial 11, 3) := by decide +kernel
theorem dX11_init_12 : decode cX11_init 12 = .ok (.putfield 12, 3) := by decide +kernel
theorem dX11_init_15 : decode cX11_init 15 = .ok (.aload_n 0, 1) := by decide +kernel
theorem dX11_init_16 : decode cX11_init 16 = .ok (.new 18, 3) := by decide +kernel
theorem dX11_init_19 : decode cX11_init 19 = .ok (.dup, 1) := by decide +kernel
theorem dX11_init_20 : decode cX11_init 20 = .ok (.invokespecial 20, 3) := by decide +kernel
theorem dX11_init_23 : decode cX11_init 23 = .ok (.putfield 21, 3) := by decide +kernel
theorem dX11_init_26 : decode cX11_init 26 = .ok (.aload_n 0, 1) := by decide +kernel
theorem dX11_init_27 : decode cX11_init 27 = .ok (.new 25, 3) := by decide +kernel
theorem dX11_init_30 : decode cX11_init 30 = .ok (.dup, 1) := by decide +kernel
theorem dX11_init_31 : decode cX11_init 31 = .ok (.invokespecial 27, 3) := by decide +kernel
theorem dX11_init_34 : decode cX11_init 34 = .ok (.putfield 28, 3) := by decide +kernel
theorem dX11_init_37 : decode cX11_init 37 = .ok (.aload_n 0, 1) := by decide +kernel
theorem dX11_init_38 : decode cX11_init 38 = .ok (.new 32, 3) := by decide +kernel
theorem dX11_init_41 : decode cX11_init 41 = .ok (.dup, 1) := by decide +kernel
theorem dX11_init_42 : decode cX11_init 42 = .ok (.aload_n 0, 1) := by decide +kernel
theorem dX11_init_43 : decode cX11_init 43 = .ok (.getfield 12, 3) := by decide +kernel
theorem dX11_init_46 : decode cX11_init 46 = .ok (.invokespecial 34, 3) := by decide +kernel
theorem dX11_init_49 : decode cX11_init 49 = .ok (.putfield 37, 3) := by decide +kernel
theorem dX11_init_52 : decode cX11_init 52 = .ok (.aload_n 0, 1) := by decide +kernel
theorem dX11_init_53 : decode cX11_init 53 = .ok (.new 32, 3) := by decide +kernel
theorem dX11_init_56 : decode cX11_init 56 = .ok (.dup, 1) := by decide +kernel
theorem dX11_init_57 : decode cX11_init 57 = .ok (.aload_n 0, 1) := by decide +kernel
theorem dX11_init_58 : decode cX11_init 58 = .ok (.getfield 12, 3) := by decide +kernel
theorem dX11_init_61 : decode cX11_init 61 = .ok (.invokespecial 34, 3) := by decide +kernel
theorem dX11_init_64 : decode cX11_init 64 = .ok (.putfield 41, 3) := by decide +kernel
theorem dX11_init_67 : decode cX11_init 67 = .ok (.aload_n 0, 1) := by decide +kernel
theorem dX11_init_68 : decode cX11_init 68 = .ok (.new 44, 3) := by decide +kernel
theorem dX11_init_71 : decode cX11_init 71 = .ok (.dup, 1) := by decide +kernel
theorem dX11_init_72 : decode cX11_init 72 = .ok (.aload_n 0, 1) := by decide +kernel
theorem dX11_init_73 : decode cX11_init 73 = .ok (.getfield 12, 3) := by decide +kernel
theorem dX11_init_76 : decode cX11_init 76 = .ok (.invokespecial 46, 3) := by decide +kernel
theorem dX11_init_79 : decode cX11_init 79 = .ok (.putfield 47, 3) := by decide +kernel
theorem dX11_init_82 : decode cX11_init 82 = .ok (.aload_n 0, 1) := by decide +kernel
theorem dX11_init_83 : decode cX11_init 83 = .ok (.new 44, 3) := by decide +kernel
theorem dX11_init_86 : decode cX11_init 86 = .ok (.dup, 1) := by decide +kernel
theorem dX11_init_87 : decode cX11_init 87 = .ok (.aload_n 0, 1) := by decide +kernel
theorem dX11_init_88 : decode cX11_init 88 = .ok (.getfield 12, 3) := by decide +kernel
theorem dX11_init_91 : decode cX11_init 91 = .ok (.invokespecial 46, 3) := by decide +kernel
theorem dX11_init_94 : decode cX11_init 94 = .ok (.putfield 51, 3) := by decide +kernel
theorem dX11_init_97 : decode cX11_init 97 = .ok (.aload_n 0, 1) := by decide +kernel
theorem dX11_init_98 : decode cX11_init 98 = .ok (.iconst 2, 1) := by decide +kernel
theorem dX11_init_99 : decode cX11_init 99 = .ok (.anewarray 32, 3) := by decide +kernel
theorem dX11_init_102 : decode cX11_init 102 = .ok (.putfield 54, 3) := by decide +kernel
theorem dX11_init_105 : decode cX11_init 105 = .ok (.iconst 0, 1) := by decide +kernel
theorem dX11_init_106 : decode cX11_init 106 = .ok (.istore_n 1, 1) := by decide +kernel
theorem dX11_init_107 : decode cX11_init 107 = .ok (.iload_n 1, 1) := by decide +kernel
theorem dX11_init_108 : decode cX11_init 108 = .ok (.iconst 2, 1) := by decide +kernel
theorem dX11_init_109 : decode cX11_init 109 = .ok (.if_icmp .ge 26, 3) := by decide +kernel
theorem dX11_init_112 : decode cX11_init 112 = .ok (.aload_n 0, 1) := by decide +kernel
theorem dX11_init_113 : decode cX11_init 113 = .ok (.getfield 54, 3) := by decide +kernel
theorem dX11_init_116 : decode cX11_init 116 = .ok (.iload_n 1, 1) := by decide +kernel
theorem dX11_init_117 : decode cX11_init 117 = .ok (.new 32, 3) := by decide +kernel
theorem dX11_init_120 : decode cX11_init 120 = .ok (.dup, 1) := by decide +kernel
theorem dX11_init_121 : decode cX11_init 121 = .ok (.aload_n 0, 1) := by decide +kernel
theorem dX11_init_122 : decode cX11_init 122 = .ok (.getfield 12, 3) := by decide +kernel
theorem dX11_init_125 : decode cX11_init 125 = .ok (.invokespecial 34, 3) := by decide +kernel
theorem dX11_init_128 : decode cX11_init 128 = .ok (.aastore, 1) := by decide +kernel
theorem dX11_init_129 : decode cX11_init 129 = .ok (.iinc 1 1, 3) := by decide +kernel
theorem dX11_init_132 : decode cX11_init 132 = .ok (.goto (-25), 3) := by decide +kernel
theorem dX11_init_135 : decode cX11_init 135 = .ok (.aload_n 0, 1) := by decide +kernel
theorem dX11_init_136 : decode cX11_init 136 = .ok (.iconst 2, 1) := by decide +kernel
theorem dX11_init_137 : decode cX11_init 137 = .ok (.newarray .boolean, 2) := by decide +kernel
theorem dX11_init_139 : decode cX11_init 139 = .ok (.putfield 58, 3) := by decide +kernel
theorem dX11_init_142 : decode cX11_init 142 = .ok (.aload_n 0, 1) := by decide +kernel
theorem dX11_init_143 : decode cX11_init 143 = .ok (.new 62, 3) := by decide +kernel
theorem dX11_init_146 : decode cX11_init 146 = .ok (.dup, 1) := by decide +kernel
theorem dX11_init_147 : decode cX11_init 147 = .ok (.aload_n 0, 1) := by decide +kernel
theorem dX11_init_148 : decode cX11_init 148 = .ok (.getfield 12, 3) := by decide +kernel
theorem dX11_init_151 : decode cX11_init 151 = .ok (.invokespecial 64, 3) := by decide +kernel
theorem dX11_init_154 : decode cX11_init 154 = .ok (.putfield 65, 3) := by decide +kernel
theorem dX11_init_157 : decode cX11_init 157 = .ok (.aload_n 0, 1) := by decide +kernel
theorem dX11_init_158 : decode cX11_init 158 = .ok (.new 69, 3) := by decide +kernel
theorem dX11_init_161 : decode cX11_init 161 = .ok (.dup, 1) := by decide +kernel
theorem dX11_init_162 : decode cX11_init 162 = .ok (.invokespecial 71, 3) := by decide +kernel
theorem dX11_init_165 : decode cX11_init 165 = .ok (.putfield 72, 3) := by decide +kernel
theorem dX11_init_168 : decode cX11_init 168 = .ok (.aload_n 0, 1) := by decide +kernel
theorem dX11_init_169 : decode cX11_init 169 = .ok (.iconst (-1), 1) := by decide +kernel
theorem dX11_init_170 : decode cX11_init 170 = .ok (.putfield 76, 3) := by decide +kernel
theorem dX11_init_173 : decode cX11_init 173 = .ok (.return_, 1) := by decide +kernel
theorem dX11_terms_0 : decode cX11_terms 0 = .ok (.aload_n 0, 1) := by decide +kernel
theorem dX11_terms_1 : decode cX11_terms 1 = .ok (.getfield 12, 3) := by decide +kernel
theorem dX11_terms_4 : decode cX11_terms 4 = .ok (.iload_n 1, 1) := by decide +kernel
theorem dX11_terms_5 : decode cX11_terms 5 = .ok (.iload_n 2, 1) := by decide +kernel
theorem dX11_terms_6 : decode cX11_terms 6 = .ok (.invokevirtual 80, 3) := by decide +kernel
theorem dX11_terms_9 : decode cX11_terms 9 = .ok (.ifCond .ne 12, 3) := by decide +kernel
theorem dX11_terms_12 : decode cX11_terms 12 = .ok (.aload_n 0, 1) := by decide +kernel
theorem dX11_terms_13 : decode cX11_terms 13 = .ok (.getfield 72, 3) := by decide +kernel
theorem dX11_terms_16 : decode cX11_terms 16 = .ok (.iconst (-1), 1) := by decide +kernel
theorem dX11_terms_17 : decode cX11_terms 17 = .ok (.invokevirtual 84, 3) := by decide +kernel
theorem dX11_terms_20 : decode cX11_terms 20 = .ok (.ireturn, 1) := by decide +kernel
theorem dX11_terms_21 : decode cX11_terms 21 = .ok (.aload_n 0, 1) := by decide +kernel
theorem dX11_terms_22 : decode cX11_terms 22 = .ok (.getfield 12, 3) := by decide +kernel
theorem dX11_terms_25 : decode cX11_terms 25 = .ok (.iload_n 1, 1) := by decide +kernel
theorem dX11_terms_26 : decode cX11_terms 26 = .ok (.invokevirtual 88, 3) := by decide +kernel
theorem dX11_terms_29 : decode cX11_terms 29 = .ok (.istore_n 3, 1) := by decide +kernel
theorem dX11_terms_30 : decode cX11_terms 30 = .ok (.aload_n 0, 1) := by decide +kernel
theorem dX11_terms_31 : decode cX11_terms 31 = .ok (.getfield 12, 3) := by decide +kernel
theorem dX11_terms_34 : decode cX11_terms 34 = .ok (.iload_n 1, 1) := by decide +kernel
theorem dX11_terms_35 : decode cX11_terms 35 = .ok (.iload_n 2, 1) := by decide +kernel
theorem dX11_terms_36 : decode cX11_terms 36 = .ok (.invokevirtual 91, 3) := by decide +kernel
theorem dX11_terms_39 : decode cX11_terms 39 = .ok (.aload_n 0, 1) := by decide +kernel
theorem dX11_terms_40 : decode cX11_terms 40 = .ok (.getfield 72, 3) := by decide +kernel
theorem dX11_terms_43 : decode cX11_terms 43 = .ok (.iload_n 3, 1) := by decide +kernel
theorem dX11_terms_44 : decode cX11_terms 44 = .ok (.invokevirtual 95, 3) := by decide +kernel
theorem dX11_terms_47 : decode cX11_terms 47 = .ok (.ireturn, 1) := by decide +kernel
theorem dX11_feed_0 : decode cX11_feed 0 = .ok (.aload_n 0, 1) := by decide +kernel
theorem dX11_feed_1 : decode cX11_feed 1 = .ok (.getfield 21, 3) := by decide +kernel
theorem dX11_feed_4 : decode cX11_feed 4 = .ok (.invokevirtual 98, 3) := by decide +kernel
theorem dX11_feed_7 : decode cX11_feed 7 = .ok (.ifCond .ne 5, 3) := by decide +kernel
theorem dX11_feed_12 : decode cX11_feed 12 = .ok (.aload_n 0, 1) := by decide +kernel
theorem dX11_feed_13 : decode cX11_feed 13 = .ok (.getfield 21, 3) := by decide +kernel
theorem dX11_feed_16 : decode cX11_feed 16 = .ok (.iload_n 1, 1) := by decide +kernel
theorem dX11_feed_17 : decode cX11_feed 17 = .ok (.invokevirtual 102, 3) := by decide +kernel
theorem dX11_feed_20 : decode cX11_feed 20 = .ok (.aload_n 0, 1) := by decide +kernel
theorem dX11_feed_21 : decode cX11_feed 21 = .ok (.getfield 21, 3) := by decide +kernel
theorem dX11_feed_24 : decode cX11_feed 24 = .ok (.iload_n 2, 1) := by decide +kernel
theorem dX11_feed_25 : decode cX11_feed 25 = .ok (.invokevirtual 102, 3) := by decide +kernel
theorem dX11_feed_28 : decode cX11_feed 28 = .ok (.aload_n 0, 1) := by decide +kernel
theorem dX11_feed_29 : decode cX11_feed 29 = .ok (.getfield 21, 3) := by decide +kernel
theorem dX11_feed_32 : decode cX11_feed 32 = .ok (.iload_n 3, 1) := by decide +kernel
theorem dX11_feed_33 : decode cX11_feed 33 = .ok (.invokevirtual 102, 3) := by decide +kernel
theorem dX11_feed_36 : decode cX11_feed 36 = .ok (.aload_n 0, 1) := by decide +kernel
theorem dX11_feed_37 : decode cX11_feed 37 = .ok (.getfield 21, 3) := by decide +kernel
theorem dX11_feed_40 : decode cX11_feed 40 = .ok (.iload 4, 2) := by decide +kernel
theorem dX11_feed_42 : decode cX11_feed 42 = .ok (.invokevirtual 102, 3) := by decide +kernel
theorem dX11_feed_45 : decode cX11_feed 45 = .ok (.aload_n 0, 1) := by decide +kernel
theorem dX11_feed_46 : decode cX11_feed 46 = .ok (.getfield 21, 3) := by decide +kernel
theorem dX11_feed_49 : decode cX11_feed 49 = .ok (.iload 5, 2) := by decide +kernel
theorem dX11_feed_51 : decode cX11_feed 51 = .ok (.invokevirtual 102, 3) := by decide +kernel
theorem dX11_feed_54 : decode cX11_feed 54 = .ok (.aload_n 0, 1) := by decide +kernel
theorem dX11_feed_55 : decode cX11_feed 55 = .ok (.getfield 21, 3) := by decide +kernel
theorem dX11_feed_58 : decode cX11_feed 58 = .ok (.getfield 106, 3) := by decide +kernel
theorem dX11_feed_61 : decode cX11_feed 61 = .ok (.ireturn, 1) := by decide +kernel
theorem dX11_end_0 : decode cX11_end 0 = .ok (.iload_n 1, 1) := by decide +kernel
theorem dX11_end_1 : decode cX11_end 1 = .ok (.ifCond .lt 14, 3) := by decide +kernel
theorem dX11_end_4 : decode cX11_end 4 = .ok (.iload_n 1, 1) := by decide +kernel
theorem dX11_end_5 : decode cX11_end 5 = .ok (.aload_n 0, 1) := by decide +kernel
theorem dX11_end_6 : decode cX11_end 6 = .ok (.getfield 21, 3) := by decide +kernel
theorem dX11_end_9 : decode cX11_end 9 = .ok (.getfield 106, 3) := by decide +kernel
theorem dX11_end_12 : decode cX11_end 12 = .ok (.if_icmp .le 5, 3) := by decide +kernel
theorem dX11_end_15 : decode cX11_end 15 = .ok (.iconst (-1), 1) := by decide +kernel
theorem dX11_end_16 : decode cX11_end 16 = .ok (.ireturn, 1) := by decide +kernel
theorem dX11_end_17 : decode cX11_end 17 = .ok (.aload_n 0, 1) := by decide +kernel
theorem dX11_end_18 : decode cX11_end 18 = .ok (.getfield 21, 3) := by decide +kernel
theorem dX11_end_21 : decode cX11_end 21 = .ok (.iload_n 1, 1) := by decide +kernel
theorem dX11_end_22 : decode cX11_end 22 = .ok (.putfield 106, 3) := by decide +kernel
theorem dX11_end_25 : decode cX11_end 25 = .ok (.iload_n 1, 1) := by decide +kernel
theorem dX11_end_26 : decode cX11_end 26 = .ok (.ireturn, 1) := by decide +kernel
theorem dX11_tape_0 : decode cX11_tape 0 = .ok (.aload_n 0, 1) := by decide +kernel
theorem dX11_tape_1 : decode cX11_tape 1 = .ok (.getfield 21, 3) := by decide +kernel
theorem dX11_tape_4 : decode cX11_tape 4 = .ok (.iload_n 1, 1) := by decide +kernel
theorem dX11_tape_5 : decode cX11_tape 5 = .ok (.invokevirtual 109, 3) := by decide +kernel
theorem dX11_tape_8 : decode cX11_tape 8 = .ok (.ireturn, 1) := by decide +kernel
theorem dX11_task_0 : decode cX11_task 0 = .ok (.iload_n 1, 1) := by decide +kernel
theorem dX11_task_1 : decode cX11_task 1 = .ok (.invokestatic 112, 3) := by decide +kernel
theorem dX11_task_4 : decode cX11_task 4 = .ok (.ifCond .eq 10, 3) := by decide +kernel
theorem dX11_task_7 : decode cX11_task 7 = .ok (.iload_n 2, 1) := by decide +kernel
theorem dX11_task_8 : decode cX11_task 8 = .ok (.invokestatic 116, 3) := by decide +kernel
theorem dX11_task_11 : decode cX11_task 11 = .ok (.ifCond .ne 12, 3) := by decide +kernel
theorem dX11_task_14 : decode cX11_task 14 = .ok (.aload_n 0, 1) := by decide +kernel
theorem dX11_task_15 : decode cX11_task 15 = .ok (.getfield 72, 3) := by decide +kernel
theorem dX11_task_18 : decode cX11_task 18 = .ok (.iconst (-1), 1) := by decide +kernel
theorem dX11_task_19 : decode cX11_task 19 = .ok (.invokevirtual 84, 3) := by decide +kernel
theorem dX11_task_22 : decode cX11_task 22 = .ok (.ireturn, 1) := by decide +kernel
theorem dX11_task_23 : decode cX11_task 23 = .ok (.aload_n 0, 1) := by decide +kernel
theorem dX11_task_24 : decode cX11_task 24 = .ok (.getfield 37, 3) := by decide +kernel
theorem dX11_task_27 : decode cX11_task 27 = .ok (.getfield 119, 3) := by decide +kernel
theorem dX11_task_30 : decode cX11_task 30 = .ok (.bipush 12, 2) := by decide +kernel
theorem dX11_task_32 : decode cX11_task 32 = .ok (.if_icmp .lt 13, 3) := by decide +kernel
theorem dX11_task_45 : decode cX11_task 45 = .ok (.aload_n 0, 1) := by decide +kernel
theorem dX11_task_46 : decode cX11_task 46 = .ok (.getfield 65, 3) := by decide +kernel
theorem dX11_task_49 : decode cX11_task 49 = .ok (.aload_n 0, 1) := by decide +kernel
theorem dX11_task_50 : decode cX11_task 50 = .ok (.getfield 37, 3) := by decide +kernel
theorem dX11_task_53 : decode cX11_task 53 = .ok (.iconst 0, 1) := by decide +kernel
theorem dX11_task_54 : decode cX11_task 54 = .ok (.invokevirtual 122, 3) := by decide +kernel
theorem dX11_task_57 : decode cX11_task 57 = .ok (.aload_n 0, 1) := by decide +kernel
theorem dX11_task_58 : decode cX11_task 58 = .ok (.getfield 72, 3) := by decide +kernel
theorem dX11_task_61 : decode cX11_task 61 = .ok (.aload_n 0, 1) := by decide +kernel
theorem dX11_task_62 : decode cX11_task 62 = .ok (.getfield 37, 3) := by decide +kernel
theorem dX11_task_65 : decode cX11_task 65 = .ok (.iload_n 1, 1) := by decide +kernel
theorem dX11_task_66 : decode cX11_task 66 = .ok (.iload_n 2, 1) := by decide +kernel
theorem dX11_task_67 : decode cX11_task 67 = .ok (.invokevirtual 126, 3) := by decide +kernel
theorem dX11_task_70 : decode cX11_task 70 = .ok (.invokevirtual 95, 3) := by decide +kernel
theorem dX11_task_73 : decode cX11_task 73 = .ok (.ireturn, 1) := by decide +kernel
theorem dX11_join_0 : decode cX11_join 0 = .ok (.aload_n 0, 1) := by decide +kernel
theorem dX11_join_1 : decode cX11_join 1 = .ok (.getfield 37, 3) := by decide +kernel
theorem dX11_join_4 : decode cX11_join 4 = .ok (.iload_n 1, 1) := by decide +kernel
theorem dX11_join_5 : decode cX11_join 5 = .ok (.invokevirtual 130, 3) := by decide +kernel
theorem dX11_join_8 : decode cX11_join 8 = .ok (.ifCond .ne 13, 3) := by decide +kernel
theorem dX11_join_11 : decode cX11_join 11 = .ok (.aload_n 0, 1) := by decide +kernel
theorem dX11_join_12 : decode cX11_join 12 = .ok (.getfield 72, 3) := by decide +kernel
theorem dX11_join_15 : decode cX11_join 15 = .ok (.bipush (-2), 2) := by decide +kernel
theorem dX11_join_17 : decode cX11_join 17 = .ok (.invokevirtual 84, 3) := by decide +kernel
theorem dX11_join_20 : decode cX11_join 20 = .ok (.ireturn, 1) := by decide +kernel
theorem dX11_leave_0 : decode cX11_leave 0 = .ok (.aload_n 0, 1) := by decide +kernel
theorem dX11_leave_1 : decode cX11_leave 1 = .ok (.getfield 37, 3) := by decide +kernel
theorem dX11_leave_4 : decode cX11_leave 4 = .ok (.iload_n 1, 1) := by decide +kernel
theorem dX11_leave_5 : decode cX11_leave 5 = .ok (.invokevirtual 130, 3) := by decide +kernel
theorem dX11_leave_8 : decode cX11_leave 8 = .ok (.ifCond .ne 13, 3) := by decide +kernel
theorem dX11_leave_11 : decode cX11_leave 11 = .ok (.aload_n 0, 1) := by decide +kernel
theorem dX11_leave_12 : decode cX11_leave 12 = .ok (.getfield 72, 3) := by decide +kernel
theorem dX11_leave_15 : decode cX11_leave 15 = .ok (.bipush (-2), 2) := by decide +kernel
theorem dX11_leave_17 : decode cX11_leave 17 = .ok (.invokevirtual 84, 3) := by decide +kernel
theorem dX11_leave_20 : decode cX11_leave 20 = .ok (.ireturn, 1) := by decide +kernel
theorem dX11_weigh_0 : decode cX11_weigh 0 = .ok (.iload_n 2, 1) := by decide +kernel
theorem dX11_weigh_1 : decode cX11_weigh 1 = .ok (.invokestatic 112, 3) := by decide +kernel
theorem dX11_weigh_4 : decode cX11_weigh 4 = .ok (.ifCond .ne 12, 3) := by decide +kernel
theorem dX11_weigh_7 : decode cX11_weigh 7 = .ok (.aload_n 0, 1) := by decide +kernel
theorem dX11_weigh_8 : decode cX11_weigh 8 = .ok (.getfield 72, 3) := by decide +kernel
theorem dX11_weigh_11 : decode cX11_weigh 11 = .ok (.iconst (-1), 1) := by decide +kernel
theorem dX11_weigh_12 : decode cX11_weigh 12 = .ok (.invokevirtual 84, 3) := by decide +kernel
theorem dX11_weigh_15 : decode cX11_weigh 15 = .ok (.ireturn, 1) := by decide +kernel
theorem dX11_weigh_16 : decode cX11_weigh 16 = .ok (.aload_n 0, 1) := by decide +kernel
theorem dX11_weigh_17 : decode cX11_weigh 17 = .ok (.getfield 37, 3) := by decide +kernel
theorem dX11_weigh_20 : decode cX11_weigh 20 = .ok (.iload_n 1, 1) := by decide +kernel
theorem dX11_weigh_21 : decode cX11_weigh 21 = .ok (.invokevirtual 130, 3) := by decide +kernel
theorem dX11_weigh_24 : decode cX11_weigh 24 = .ok (.ifCond .ne 13, 3) := by decide +kernel
theorem dX11_weigh_27 : decode cX11_weigh 27 = .ok (.aload_n 0, 1) := by decide +kernel
theorem dX11_weigh_28 : decode cX11_weigh 28 = .ok (.getfield 72, 3) := by decide +kernel
theorem dX11_weigh_31 : decode cX11_weigh 31 = .ok (.bipush (-2), 2) := by decide +kernel
theorem dX11_weigh_33 : decode cX11_weigh 33 = .ok (.invokevirtual 84, 3) := by decide +kernel
theorem dX11_weigh_36 : decode cX11_weigh 36 = .ok (.ireturn, 1) := by decide +kernel
theorem dX11_slice_0 : decode cX11_slice 0 = .ok (.iload_n 2, 1) := by decide +kernel
theorem dX11_slice_1 : decode cX11_slice 1 = .ok (.invokestatic 116, 3) := by decide +kernel
theorem dX11_slice_4 : decode cX11_slice 4 = .ok (.ifCond .ne 12, 3) := by decide +kernel
theorem dX11_slice_7 : decode cX11_slice 7 = .ok (.aload_n 0, 1) := by decide +kernel
theorem dX11_slice_8 : decode cX11_slice 8 = .ok (.getfield 72, 3) := by decide +kernel
theorem dX11_slice_11 : decode cX11_slice 11 = .ok (.iconst (-1), 1) := by decide +kernel
theorem dX11_slice_12 : decode cX11_slice 12 = .ok (.invokevirtual 84, 3) := by decide +kernel
theorem dX11_slice_15 : decode cX11_slice 15 = .ok (.ireturn, 1) := by decide +kernel
theorem dX11_slice_16 : decode cX11_slice 16 = .ok (.aload_n 0, 1) := by decide +kernel
theorem dX11_slice_17 : decode cX11_slice 17 = .ok (.getfield 37, 3) := by decide +kernel
theorem dX11_slice_20 : decode cX11_slice 20 = .ok (.iload_n 1, 1) := by decide +kernel
theorem dX11_slice_21 : decode cX11_slice 21 = .ok (.invokevirtual 130, 3) := by decide +kernel
theorem dX11_slice_24 : decode cX11_slice 24 = .ok (.ifCond .ne 13, 3) := by decide +kernel
theorem dX11_slice_27 : decode cX11_slice 27 = .ok (.aload_n 0, 1) := by decide +kernel
theorem dX11_slice_28 : decode cX11_slice 28 = .ok (.getfield 72, 3) := by decide +kernel
theorem dX11_slice_31 : decode cX11_slice 31 = .ok (.bipush (-2), 2) := by decide +kernel
theorem dX11_slice_33 : decode cX11_slice 33 = .ok (.invokevirtual 84, 3) := by decide +kernel
theorem dX11_slice_36 : decode cX11_slice 36 = .ok (.ireturn, 1) := by decide +kernel
theorem dX11_wish_0 : decode cX11_wish 0 = .ok (.iload_n 2, 1) := by decide +kernel
theorem dX11_wish_1 : decode cX11_wish 1 = .ok (.iconst 1, 1) := by decide +kernel
theorem dX11_wish_2 : decode cX11_wish 2 = .ok (.if_icmp .lt 9, 3) := by decide +kernel
theorem dX11_wish_5 : decode cX11_wish 5 = .ok (.iload_n 2, 1) := by decide +kernel
theorem dX11_wish_6 : decode cX11_wish 6 = .ok (.bipush 99, 2) := by decide +kernel
theorem dX11_wish_8 : decode cX11_wish 8 = .ok (.if_icmp .le 12, 3) := by decide +kernel
theorem dX11_wish_11 : decode cX11_wish 11 = .ok (.aload_n 0, 1) := by decide +kernel
theorem dX11_wish_12 : decode cX11_wish 12 = .ok (.getfield 72, 3) := by decide +kernel
theorem dX11_wish_15 : decode cX11_wish 15 = .ok (.iconst (-1), 1) := by decide +kernel
theorem dX11_wish_16 : decode cX11_wish 16 = .ok (.invokevirtual 84, 3) := by decide +kernel
theorem dX11_wish_19 : decode cX11_wish 19 = .ok (.ireturn, 1) := by decide +kernel
theorem dX11_wish_20 : decode cX11_wish 20 = .ok (.aload_n 0, 1) := by decide +kernel
theorem dX11_wish_21 : decode cX11_wish 21 = .ok (.getfield 37, 3) := by decide +kernel
theorem dX11_wish_24 : decode cX11_wish 24 = .ok (.iload_n 1, 1) := by decide +kernel
theorem dX11_wish_25 : decode cX11_wish 25 = .ok (.invokevirtual 130, 3) := by decide +kernel
theorem dX11_wish_28 : decode cX11_wish 28 = .ok (.ifCond .ne 13, 3) := by decide +kernel
theorem dX11_wish_31 : decode cX11_wish 31 = .ok (.aload_n 0, 1) := by decide +kernel
theorem dX11_wish_32 : decode cX11_wish 32 = .ok (.getfield 72, 3) := by decide +kernel
theorem dX11_wish_35 : decode cX11_wish 35 = .ok (.bipush (-2), 2) := by decide +kernel
theorem dX11_wish_37 : decode cX11_wish 37 = .ok (.invokevirtual 84, 3) := by decide +kernel
theorem dX11_wish_40 : decode cX11_wish 40 = .ok (.ireturn, 1) := by decide +kernel
theorem dX11_yields_0 : decode cX11_yields 0 = .ok (.aload_n 0, 1) := by decide +kernel
theorem dX11_yields_1 : decode cX11_yields 1 = .ok (.getfield 37, 3) := by decide +kernel
theorem dX11_yields_4 : decode cX11_yields 4 = .ok (.iload_n 1, 1) := by decide +kernel
theorem dX11_yields_5 : decode cX11_yields 5 = .ok (.invokevirtual 130, 3) := by decide +kernel
theorem dX11_yields_8 : decode cX11_yields 8 = .ok (.ifCond .ne 13, 3) := by decide +kernel
theorem dX11_yields_11 : decode cX11_yields 11 = .ok (.aload_n 0, 1) := by decide +kernel
theorem dX11_yields_12 : decode cX11_yields 12 = .ok (.getfield 72, 3) := by decide +kernel
theorem dX11_yields_15 : decode cX11_yields 15 = .ok (.bipush (-2), 2) := by decide +kernel
theorem dX11_yields_17 : decode cX11_yields 17 = .ok (.invokevirtual 84, 3) := by decide +kernel
theorem dX11_yields_20 : decode cX11_yields 20 = .ok (.ireturn, 1) := by decide +kernel
theorem dX11_quota_0 : decode cX11_quota 0 = .ok (.iload_n 2, 1) := by decide +kernel
theorem dX11_quota_1 : decode cX11_quota 1 = .ok (.ifCond .lt 24, 3) := by decide +kernel
theorem dX11_quota_4 : decode cX11_quota 4 = .ok (.iload_n 2, 1) := by decide +kernel
theorem dX11_quota_5 : decode cX11_quota 5 = .ok (.bipush 50, 2) := by decide +kernel
theorem dX11_quota_7 : decode cX11_quota 7 = .ok (.if_icmp .gt 18, 3) := by decide +kernel
theorem dX11_quota_10 : decode cX11_quota 10 = .ok (.iload_n 2, 1) := by decide +kernel
theorem dX11_quota_11 : decode cX11_quota 11 = .ok (.ifCond .le 23, 3) := by decide +kernel
theorem dX11_quota_14 : decode cX11_quota 14 = .ok (.iload_n 3, 1) := by decide +kernel
theorem dX11_quota_15 : decode cX11_quota 15 = .ok (.iload_n 2, 1) := by decide +kernel
theorem dX11_quota_16 : decode cX11_quota 16 = .ok (.if_icmp .le 9, 3) := by decide +kernel
theorem dX11_quota_19 : decode cX11_quota 19 = .ok (.iload_n 3, 1) := by decide +kernel
theorem dX11_quota_20 : decode cX11_quota 20 = .ok (.bipush 60, 2) := by decide +kernel
theorem dX11_quota_22 : decode cX11_quota 22 = .ok (.if_icmp .le 12, 3) := by decide +kernel
theorem dX11_quota_25 : decode cX11_quota 25 = .ok (.aload_n 0, 1) := by decide +kernel
theorem dX11_quota_26 : decode cX11_quota 26 = .ok (.getfield 72, 3) := by decide +kernel
theorem dX11_quota_29 : decode cX11_quota 29 = .ok (.iconst (-1), 1) := by decide +kernel
theorem dX11_quota_30 : decode cX11_quota 30 = .ok (.invokevirtual 84, 3) := by decide +kernel
theorem dX11_quota_33 : decode cX11_quota 33 = .ok (.ireturn, 1) := by decide +kernel
theorem dX11_quota_34 : decode cX11_quota 34 = .ok (.aload_n 0, 1) := by decide +kernel
theorem dX11_quota_35 : decode cX11_quota 35 = .ok (.getfield 37, 3) := by decide +kernel
theorem dX11_quota_38 : decode cX11_quota 38 = .ok (.iload_n 1, 1) := by decide +kernel
theorem dX11_quota_39 : decode cX11_quota 39 = .ok (.invokevirtual 130, 3) := by decide +kernel
theorem dX11_quota_42 : decode cX11_quota 42 = .ok (.ifCond .ne 13, 3) := by decide +kernel
theorem dX11_quota_45 : decode cX11_quota 45 = .ok (.aload_n 0, 1) := by decide +kernel
theorem dX11_quota_46 : decode cX11_quota 46 = .ok (.getfield 72, 3) := by decide +kernel
theorem dX11_quota_49 : decode cX11_quota 49 = .ok (.bipush (-2), 2) := by decide +kernel
theorem dX11_quota_51 : decode cX11_quota 51 = .ok (.invokevirtual 84, 3) := by decide +kernel
theorem dX11_quota_54 : decode cX11_quota 54 = .ok (.ireturn, 1) := by decide +kernel
theorem dX11_script_0 : decode cX11_script 0 = .ok (.aload_n 0, 1) := by decide +kernel
theorem dX11_script_1 : decode cX11_script 1 = .ok (.getfield 37, 3) := by decide +kernel
theorem dX11_script_4 : decode cX11_script 4 = .ok (.iload_n 1, 1) := by decide +kernel
theorem dX11_script_5 : decode cX11_script 5 = .ok (.invokevirtual 130, 3) := by decide +kernel
theorem dX11_script_8 : decode cX11_script 8 = .ok (.ifCond .ne 13, 3) := by decide +kernel
theorem dX11_script_11 : decode cX11_script 11 = .ok (.aload_n 0, 1) := by decide +kernel
theorem dX11_script_12 : decode cX11_script 12 = .ok (.getfield 72, 3) := by decide +kernel
theorem dX11_script_15 : decode cX11_script 15 = .ok (.bipush (-2), 2) := by decide +kernel
theorem dX11_script_17 : decode cX11_script 17 = .ok (.invokevirtual 84, 3) := by decide +kernel
theorem dX11_script_20 : decode cX11_script 20 = .ok (.ireturn, 1) := by decide +kernel
theorem dX11_listing_0 : decode cX11_listing 0 = .ok (.aload_n 0, 1) := by decide +kernel
theorem dX11_listing_1 : decode cX11_listing 1 = .ok (.getfield 37, 3) := by decide +kernel
theorem dX11_listing_4 : decode cX11_listing 4 = .ok (.iload_n 1, 1) := by decide +kernel
theorem dX11_listing_5 : decode cX11_listing 5 = .ok (.invokevirtual 130, 3) := by decide +kernel
theorem dX11_listing_8 : decode cX11_listing 8 = .ok (.ifCond .ne 13, 3) := by decide +kernel
theorem dX11_listing_11 : decode cX11_listing 11 = .ok (.aload_n 0, 1) := by decide +kernel
theorem dX11_listing_12 : decode cX11_listing 12 = .ok (.getfield 72, 3) := by decide +kernel
theorem dX11_listing_15 : decode cX11_listing 15 = .ok (.bipush (-2), 2) := by decide +kernel
theorem dX11_listing_17 : decode cX11_listing 17 = .ok (.invokevirtual 84, 3) := by decide +kernel
theorem dX11_listing_20 : decode cX11_listing 20 = .ok (.ireturn, 1) := by decide +kernel
theorem dX11_fault_0 : decode cX11_fault 0 = .ok (.aload_n 0, 1) := by decide +kernel
theorem dX11_fault_1 : decode cX11_fault 1 = .ok (.getfield 76, 3) := by decide +kernel
theorem dX11_fault_4 : decode cX11_fault 4 = .ok (.ireturn, 1) := by decide +kernel
theorem dX11_ticks_0 : decode cX11_ticks 0 = .ok (.iload_n 1, 1) := by decide +kernel
theorem dX11_ticks_1 : decode cX11_ticks 1 = .ok (.iconst 1, 1) := by decide +kernel
theorem dX11_ticks_2 : decode cX11_ticks 2 = .ok (.if_icmp .lt 9, 3) := by decide +kernel
theorem dX11_ticks_5 : decode cX11_ticks 5 = .ok (.iload_n 1, 1) := by decide +kernel
theorem dX11_ticks_6 : decode cX11_ticks 6 = .ok (.bipush 60, 2) := by decide +kernel
theorem dX11_ticks_8 : decode cX11_ticks 8 = .ok (.if_icmp .le 12, 3) := by decide +kernel
theorem dX11_ticks_11 : decode cX11_ticks 11 = .ok (.aload_n 0, 1) := by decide +kernel
theorem dX11_ticks_12 : decode cX11_ticks 12 = .ok (.getfield 72, 3) := by decide +kernel
theorem dX11_ticks_15 : decode cX11_ticks 15 = .ok (.iconst (-1), 1) := by decide +kernel
theorem dX11_ticks_16 : decode cX11_ticks 16 = .ok (.invokevirtual 84, 3) := by decide +kernel
theorem dX11_ticks_19 : decode cX11_ticks 19 = .ok (.ireturn, 1) := by decide +kernel
theorem dX11_ticks_20 : decode cX11_ticks 20 = .ok (.aload_n 0, 1) := by decide +kernel
theorem dX11_ticks_21 : decode cX11_ticks 21 = .ok (.getfield 37, 3) := by decide +kernel
theorem dX11_ticks_24 : decode cX11_ticks 24 = .ok (.getfield 223, 3) := by decide +kernel
theorem dX11_ticks_27 : decode cX11_ticks 27 = .ok (.iload_n 1, 1) := by decide +kernel
theorem dX11_ticks_28 : decode cX11_ticks 28 = .ok (.iadd, 1) := by decide +kernel
theorem dX11_ticks_29 : decode cX11_ticks 29 = .ok (.sipush 9999, 3) := by decide +kernel
theorem dX11_ticks_32 : decode cX11_ticks 32 = .ok (.if_icmp .le 13, 3) := by decide +kernel
theorem dX11_ticks_45 : decode cX11_ticks 45 = .ok (.aload_n 0, 1) := by decide +kernel
theorem dX11_ticks_46 : decode cX11_ticks 46 = .ok (.getfield 65, 3) := by decide +kernel
theorem dX11_ticks_49 : decode cX11_ticks 49 = .ok (.aload_n 0, 1) := by decide +kernel
theorem dX11_ticks_50 : decode cX11_ticks 50 = .ok (.getfield 37, 3) := by decide +kernel
theorem dX11_ticks_53 : decode cX11_ticks 53 = .ok (.bipush 6, 2) := by decide +kernel
theorem dX11_ticks_55 : decode cX11_ticks 55 = .ok (.invokevirtual 122, 3) := by decide +kernel
theorem dX11_ticks_58 : decode cX11_ticks 58 = .ok (.iconst 0, 1) := by decide +kernel
theorem dX11_ticks_59 : decode cX11_ticks 59 = .ok (.istore_n 2, 1) := by decide +kernel
theorem dX11_ticks_60 : decode cX11_ticks 60 = .ok (.iconst 0, 1) := by decide +kernel
theorem dX11_ticks_61 : decode cX11_ticks 61 = .ok (.istore_n 3, 1) := by decide +kernel
theorem dX11_ticks_62 : decode cX11_ticks 62 = .ok (.iload_n 3, 1) := by decide +kernel
theorem dX11_ticks_63 : decode cX11_ticks 63 = .ok (.iload_n 1, 1) := by decide +kernel
theorem dX11_ticks_64 : decode cX11_ticks 64 = .ok (.if_icmp .ge 27, 3) := by decide +kernel
theorem dX11_ticks_67 : decode cX11_ticks 67 = .ok (.aload_n 0, 1) := by decide +kernel
theorem dX11_ticks_68 : decode cX11_ticks 68 = .ok (.getfield 37, 3) := by decide +kernel
theorem dX11_ticks_71 : decode cX11_ticks 71 = .ok (.aload_n 0, 1) := by decide +kernel
theorem dX11_ticks_72 : decode cX11_ticks 72 = .ok (.getfield 47, 3) := by decide +kernel
theorem dX11_ticks_75 : decode cX11_ticks 75 = .ok (.invokevirtual 226, 3) := by decide +kernel
theorem dX11_ticks_78 : decode cX11_ticks 78 = .ok (.iconst (-1), 1) := by decide +kernel
theorem dX11_ticks_79 : decode cX11_ticks 79 = .ok (.if_icmp .eq 6, 3) := by decide +kernel
theorem dX11_ticks_85 : decode cX11_ticks 85 = .ok (.iinc 3 1, 3) := by decide +kernel
theorem dX11_ticks_88 : decode cX11_ticks 88 = .ok (.goto (-26), 3) := by decide +kernel
theorem dX11_ticks_91 : decode cX11_ticks 91 = .ok (.aload_n 0, 1) := by decide +kernel
theorem dX11_ticks_92 : decode cX11_ticks 92 = .ok (.getfield 72, 3) := by decide +kernel
theorem dX11_ticks_95 : decode cX11_ticks 95 = .ok (.iload_n 2, 1) := by decide +kernel
theorem dX11_ticks_96 : decode cX11_ticks 96 = .ok (.invokevirtual 95, 3) := by decide +kernel
theorem dX11_ticks_99 : decode cX11_ticks 99 = .ok (.ireturn, 1) := by decide +kernel
theorem dX11_undo_0 : decode cX11_undo 0 = .ok (.aload_n 0, 1) := by decide +kernel
theorem dX11_undo_1 : decode cX11_undo 1 = .ok (.getfield 65, 3) := by decide +kernel
theorem dX11_undo_4 : decode cX11_undo 4 = .ok (.getfield 230, 3) := by decide +kernel
theorem dX11_undo_7 : decode cX11_undo 7 = .ok (.ifCond .ne 13, 3) := by decide +kernel
theorem dX11_undo_10 : decode cX11_undo 10 = .ok (.aload_n 0, 1) := by decide +kernel
theorem dX11_undo_11 : decode cX11_undo 11 = .ok (.getfield 72, 3) := by decide +kernel
theorem dX11_undo_14 : decode cX11_undo 14 = .ok (.bipush (-4), 2) := by decide +kernel
theorem dX11_undo_16 : decode cX11_undo 16 = .ok (.invokevirtual 84, 3) := by decide +kernel
theorem dX11_undo_19 : decode cX11_undo 19 = .ok (.ireturn, 1) := by decide +kernel
theorem dX11_image_0 : decode cX11_image 0 = .ok (.iload_n 1, 1) := by decide +kernel
theorem dX11_image_1 : decode cX11_image 1 = .ok (.invokestatic 235, 3) := by decide +kernel
theorem dX11_image_4 : decode cX11_image 4 = .ok (.ifCond .ne 12, 3) := by decide +kernel
theorem dX11_image_7 : decode cX11_image 7 = .ok (.aload_n 0, 1) := by decide +kernel
theorem dX11_image_8 : decode cX11_image 8 = .ok (.getfield 72, 3) := by decide +kernel
theorem dX11_image_11 : decode cX11_image 11 = .ok (.iconst (-1), 1) := by decide +kernel
theorem dX11_image_12 : decode cX11_image 12 = .ok (.invokevirtual 84, 3) := by decide +kernel
theorem dX11_image_15 : decode cX11_image 15 = .ok (.ireturn, 1) := by decide +kernel
theorem dX11_image_16 : decode cX11_image 16 = .ok (.aload_n 0, 1) := by decide +kernel
theorem dX11_image_17 : decode cX11_image 17 = .ok (.getfield 54, 3) := by decide +kernel
theorem dX11_image_20 : decode cX11_image 20 = .ok (.iload_n 1, 1) := by decide +kernel
theorem dX11_image_21 : decode cX11_image 21 = .ok (.aaload, 1) := by decide +kernel
theorem dX11_image_22 : decode cX11_image 22 = .ok (.aload_n 0, 1) := by decide +kernel
theorem dX11_image_23 : decode cX11_image 23 = .ok (.getfield 37, 3) := by decide +kernel
theorem dX11_image_26 : decode cX11_image 26 = .ok (.invokevirtual 238, 3) := by decide +kernel
theorem dX11_image_29 : decode cX11_image 29 = .ok (.aload_n 0, 1) := by decide +kernel
theorem dX11_image_30 : decode cX11_image 30 = .ok (.getfield 58, 3) := by decide +kernel
theorem dX11_image_33 : decode cX11_image 33 = .ok (.iload_n 1, 1) := by decide +kernel
theorem dX11_image_34 : decode cX11_image 34 = .ok (.iconst 1, 1) := by decide +kernel
theorem dX11_image_35 : decode cX11_image 35 = .ok (.bastore, 1) := by decide +kernel
theorem dX11_image_36 : decode cX11_image 36 = .ok (.aload_n 0, 1) := by decide +kernel
theorem dX11_image_37 : decode cX11_image 37 = .ok (.getfield 72, 3) := by decide +kernel
theorem dX11_image_40 : decode cX11_image 40 = .ok (.aload_n 0, 1) := by decide +kernel
theorem dX11_image_41 : decode cX11_image 41 = .ok (.getfield 37, 3) := by decide +kernel
theorem dX11_image_44 : decode cX11_image 44 = .ok (.getfield 223, 3) := by decide +kernel
theorem dX11_image_47 : decode cX11_image 47 = .ok (.invokevirtual 95, 3) := by decide +kernel
theorem dX11_image_50 : decode cX11_image 50 = .ok (.ireturn, 1) := by decide +kernel
theorem dX11_back_0 : decode cX11_back 0 = .ok (.iload_n 1, 1) := by decide +kernel
theorem dX11_back_1 : decode cX11_back 1 = .ok (.invokestatic 235, 3) := by decide +kernel
theorem dX11_back_4 : decode cX11_back 4 = .ok (.ifCond .ne 12, 3) := by decide +kernel
theorem dX11_back_7 : decode cX11_back 7 = .ok (.aload_n 0, 1) := by decide +kernel
theorem dX11_back_8 : decode cX11_back 8 = .ok (.getfield 72, 3) := by decide +kernel
theorem dX11_back_11 : decode cX11_back 11 = .ok (.iconst (-1), 1) := by decide +kernel
theorem dX11_back_12 : decode cX11_back 12 = .ok (.invokevirtual 84, 3) := by decide +kernel
theorem dX11_back_15 : decode cX11_back 15 = .ok (.ireturn, 1) := by decide +kernel
theorem dX11_back_16 : decode cX11_back 16 = .ok (.aload_n 0, 1) := by decide +kernel
theorem dX11_back_17 : decode cX11_back 17 = .ok (.getfield 58, 3) := by decide +kernel
theorem dX11_back_20 : decode cX11_back 20 = .ok (.iload_n 1, 1) := by decide +kernel
theorem dX11_back_21 : decode cX11_back 21 = .ok (.baload, 1) := by decide +kernel
theorem dX11_back_22 : decode cX11_back 22 = .ok (.ifCond .ne 13, 3) := by decide +kernel
theorem dX11_back_25 : decode cX11_back 25 = .ok (.aload_n 0, 1) := by decide +kernel
theorem dX11_back_26 : decode cX11_back 26 = .ok (.getfield 72, 3) := by decide +kernel
theorem dX11_back_29 : decode cX11_back 29 = .ok (.bipush (-4), 2) := by decide +kernel
theorem dX11_back_31 : decode cX11_back 31 = .ok (.invokevirtual 84, 3) := by decide +kernel
theorem dX11_back_34 : decode cX11_back 34 = .ok (.ireturn, 1) := by decide +kernel
theorem dX11_of_0 : decode cX11_of 0 = .ok (.aload_n 0, 1) := by decide +kernel
theorem dX11_of_1 : decode cX11_of 1 = .ok (.getfield 37, 3) := by decide +kernel
theorem dX11_of_4 : decode cX11_of 4 = .ok (.iload_n 1, 1) := by decide +kernel
theorem dX11_of_5 : decode cX11_of 5 = .ok (.invokevirtual 130, 3) := by decide +kernel
theorem dX11_of_8 : decode cX11_of 8 = .ok (.ifCond .eq 19, 3) := by decide +kernel
theorem dX11_of_27 : decode cX11_of 27 = .ok (.iconst (-1), 1) := by decide +kernel
theorem dX11_of_28 : decode cX11_of 28 = .ok (.ireturn, 1) := by decide +kernel
theorem dX11_exact_0 : decode cX11_exact 0 = .ok (.aload_n 0, 1) := by decide +kernel
theorem dX11_exact_1 : decode cX11_exact 1 = .ok (.getfield 37, 3) := by decide +kernel
theorem dX11_exact_4 : decode cX11_exact 4 = .ok (.iload_n 1, 1) := by decide +kernel
theorem dX11_exact_5 : decode cX11_exact 5 = .ok (.invokevirtual 130, 3) := by decide +kernel
theorem dX11_exact_8 : decode cX11_exact 8 = .ok (.ifCond .ne 7, 3) := by decide +kernel
theorem dX11_exact_11 : decode cX11_exact 11 = .ok (.ldc2_w 245, 3) := by decide +kernel
theorem dX11_exact_14 : decode cX11_exact 14 = .ok (.lreturn, 1) := by decide +kernel
theorem dX11_time_0 : decode cX11_time 0 = .ok (.iload_n 1, 1) := by decide +kernel
theorem dX11_time_1 : decode cX11_time 1 = .ok (.tableswitch 65 0 3 #[31, 39, 47, 56], 31) := by decide +kernel
theorem dX11_time_32 : decode cX11_time 32 = .ok (.aload_n 0, 1) := by decide +kernel
theorem dX11_time_33 : decode cX11_time 33 = .ok (.getfield 37, 3) := by decide +kernel
theorem dX11_time_36 : decode cX11_time 36 = .ok (.invokevirtual 268, 3) := by decide +kernel
theorem dX11_time_39 : decode cX11_time 39 = .ok (.lreturn, 1) := by decide +kernel
theorem dX11_time_40 : decode cX11_time 40 = .ok (.aload_n 0, 1) := by decide +kernel
theorem dX11_time_41 : decode cX11_time 41 = .ok (.getfield 37, 3) := by decide +kernel
theorem dX11_time_44 : decode cX11_time 44 = .ok (.invokevirtual 271, 3) := by decide +kernel
theorem dX11_time_47 : decode cX11_time 47 = .ok (.lreturn, 1) := by decide +kernel
theorem dX11_time_48 : decode cX11_time 48 = .ok (.aload_n 0, 1) := by decide +kernel
theorem dX11_time_49 : decode cX11_time 49 = .ok (.getfield 37, 3) := by decide +kernel
theorem dX11_time_52 : decode cX11_time 52 = .ok (.invokevirtual 155, 3) := by decide +kernel
theorem dX11_time_55 : decode cX11_time 55 = .ok (.i2l, 1) := by decide +kernel
theorem dX11_time_56 : decode cX11_time 56 = .ok (.lreturn, 1) := by decide +kernel
theorem dX11_time_57 : decode cX11_time 57 = .ok (.aload_n 0, 1) := by decide +kernel
theorem dX11_time_58 : decode cX11_time 58 = .ok (.getfield 37, 3) := by decide +kernel
theorem dX11_time_61 : decode cX11_time 61 = .ok (.getfield 223, 3) := by decide +kernel
theorem dX11_time_64 : decode cX11_time 64 = .ok (.i2l, 1) := by decide +kernel
theorem dX11_time_65 : decode cX11_time 65 = .ok (.lreturn, 1) := by decide +kernel
theorem dX11_time_66 : decode cX11_time 66 = .ok (.ldc2_w 245, 3) := by decide +kernel
theorem dX11_time_69 : decode cX11_time 69 = .ok (.lreturn, 1) := by decide +kernel
theorem dX11_eligible_0 : decode cX11_eligible 0 = .ok (.aload_n 0, 1) := by decide +kernel
theorem dX11_eligible_1 : decode cX11_eligible 1 = .ok (.getfield 37, 3) := by decide +kernel
theorem dX11_eligible_4 : decode cX11_eligible 4 = .ok (.invokevirtual 274, 3) := by decide +kernel
theorem dX11_eligible_7 : decode cX11_eligible 7 = .ok (.ireturn, 1) := by decide +kernel
theorem dX11_earliest_0 : decode cX11_earliest 0 = .ok (.aload_n 0, 1) := by decide +kernel
theorem dX11_earliest_1 : decode cX11_earliest 1 = .ok (.getfield 37, 3) := by decide +kernel
theorem dX11_earliest_4 : decode cX11_earliest 4 = .ok (.iload_n 1, 1) := by decide +kernel
theorem dX11_earliest_5 : decode cX11_earliest 5 = .ok (.invokevirtual 277, 3) := by decide +kernel
theorem dX11_earliest_8 : decode cX11_earliest 8 = .ok (.ireturn, 1) := by decide +kernel
theorem dX11_rank_0 : decode cX11_rank 0 = .ok (.aload_n 0, 1) := by decide +kernel
theorem dX11_rank_1 : decode cX11_rank 1 = .ok (.getfield 37, 3) := by decide +kernel
theorem dX11_rank_4 : decode cX11_rank 4 = .ok (.iload_n 1, 1) := by decide +kernel
theorem dX11_rank_5 : decode cX11_rank 5 = .ok (.invokevirtual 130, 3) := by decide +kernel
theorem dX11_rank_8 : decode cX11_rank 8 = .ok (.ifCond .eq 37, 3) := by decide +kernel
theorem dX11_rank_45 : decode cX11_rank 45 = .ok (.iconst (-1), 1) := by decide +kernel
theorem dX11_rank_46 : decode cX11_rank 46 = .ok (.ireturn, 1) := by decide +kernel
theorem dX11_ran_0 : decode cX11_ran 0 = .ok (.aload_n 0, 1) := by decide +kernel
theorem dX11_ran_1 : decode cX11_ran 1 = .ok (.getfield 37, 3) := by decide +kernel
theorem dX11_ran_4 : decode cX11_ran 4 = .ok (.iload_n 1, 1) := by decide +kernel
theorem dX11_ran_5 : decode cX11_ran 5 = .ok (.invokevirtual 284, 3) := by decide +kernel
theorem dX11_ran_8 : decode cX11_ran 8 = .ok (.ifCond .eq 17, 3) := by decide +kernel
theorem dX11_ran_25 : decode cX11_ran 25 = .ok (.iconst (-1), 1) := by decide +kernel
theorem dX11_ran_26 : decode cX11_ran 26 = .ok (.ireturn, 1) := by decide +kernel
theorem dX11_service_0 : decode cX11_service 0 = .ok (.aload_n 0, 1) := by decide +kernel
theorem dX11_service_1 : decode cX11_service 1 = .ok (.getfield 37, 3) := by decide +kernel
theorem dX11_service_4 : decode cX11_service 4 = .ok (.iload_n 1, 1) := by decide +kernel
theorem dX11_service_5 : decode cX11_service 5 = .ok (.invokevirtual 130, 3) := by decide +kernel
theorem dX11_service_8 : decode cX11_service 8 = .ok (.ifCond .eq 15, 3) := by decide +kernel
theorem dX11_service_23 : decode cX11_service 23 = .ok (.iconst (-1), 1) := by decide +kernel
theorem dX11_service_24 : decode cX11_service 24 = .ok (.ireturn, 1) := by decide +kernel
theorem dX11_share_0 : decode cX11_share 0 = .ok (.aload_n 0, 1) := by decide +kernel
theorem dX11_share_1 : decode cX11_share 1 = .ok (.getfield 37, 3) := by decide +kernel
theorem dX11_share_4 : decode cX11_share 4 = .ok (.iload_n 1, 1) := by decide +kernel
theorem dX11_share_5 : decode cX11_share 5 = .ok (.invokevirtual 130, 3) := by decide +kernel
theorem dX11_share_8 : decode cX11_share 8 = .ok (.ifCond .eq 15, 3) := by decide +kernel
theorem dX11_share_23 : decode cX11_share 23 = .ok (.ldc2_w 245, 3) := by decide +kernel
theorem dX11_share_26 : decode cX11_share 26 = .ok (.lreturn, 1) := by decide +kernel
theorem dX11_worst_0 : decode cX11_worst 0 = .ok (.aload_n 0, 1) := by decide +kernel
theorem dX11_worst_1 : decode cX11_worst 1 = .ok (.getfield 37, 3) := by decide +kernel
theorem dX11_worst_4 : decode cX11_worst 4 = .ok (.iload_n 1, 1) := by decide +kernel
theorem dX11_worst_5 : decode cX11_worst 5 = .ok (.invokevirtual 130, 3) := by decide +kernel
theorem dX11_worst_8 : decode cX11_worst 8 = .ok (.ifCond .eq 12, 3) := by decide +kernel
theorem dX11_worst_20 : decode cX11_worst 20 = .ok (.ldc2_w 245, 3) := by decide +kernel
theorem dX11_worst_23 : decode cX11_worst 23 = .ok (.lreturn, 1) := by decide +kernel
theorem dX11_ahead_0 : decode cX11_ahead 0 = .ok (.aload_n 0, 1) := by decide +kernel
theorem dX11_ahead_1 : decode cX11_ahead 1 = .ok (.iload_n 1, 1) := by decide +kernel
theorem dX11_ahead_2 : decode cX11_ahead 2 = .ok (.invokevirtual 314, 3) := by decide +kernel
theorem dX11_ahead_5 : decode cX11_ahead 5 = .ok (.ifCond .ne 5, 3) := by decide +kernel
theorem dX11_ahead_8 : decode cX11_ahead 8 = .ok (.iconst (-1), 1) := by decide +kernel
theorem dX11_ahead_9 : decode cX11_ahead 9 = .ok (.ireturn, 1) := by decide +kernel
theorem dX11_ahead_10 : decode cX11_ahead 10 = .ok (.aload_n 0, 1) := by decide +kernel
theorem dX11_ahead_11 : decode cX11_ahead 11 = .ok (.getfield 41, 3) := by decide +kernel
theorem dX11_ahead_14 : decode cX11_ahead 14 = .ok (.aload_n 0, 1) := by decide +kernel
theorem dX11_ahead_15 : decode cX11_ahead 15 = .ok (.getfield 37, 3) := by decide +kernel
theorem dX11_ahead_18 : decode cX11_ahead 18 = .ok (.invokevirtual 238, 3) := by decide +kernel
theorem dX11_ahead_21 : decode cX11_ahead 21 = .ok (.iconst (-1), 1) := by decide +kernel
theorem dX11_ahead_22 : decode cX11_ahead 22 = .ok (.istore_n 2, 1) := by decide +kernel
theorem dX11_ahead_23 : decode cX11_ahead 23 = .ok (.iconst 0, 1) := by decide +kernel
theorem dX11_ahead_24 : decode cX11_ahead 24 = .ok (.istore_n 3, 1) := by decide +kernel
theorem dX11_ahead_25 : decode cX11_ahead 25 = .ok (.iload_n 3, 1) := by decide +kernel
theorem dX11_ahead_26 : decode cX11_ahead 26 = .ok (.iload_n 1, 1) := by decide +kernel
theorem dX11_ahead_27 : decode cX11_ahead 27 = .ok (.if_icmp .ge 21, 3) := by decide +kernel
theorem dX11_ahead_30 : decode cX11_ahead 30 = .ok (.aload_n 0, 1) := by decide +kernel
theorem dX11_ahead_31 : decode cX11_ahead 31 = .ok (.getfield 41, 3) := by decide +kernel
theorem dX11_ahead_34 : decode cX11_ahead 34 = .ok (.aload_n 0, 1) := by decide +kernel
theorem dX11_ahead_35 : decode cX11_ahead 35 = .ok (.getfield 47, 3) := by decide +kernel
theorem dX11_ahead_38 : decode cX11_ahead 38 = .ok (.invokevirtual 226, 3) := by decide +kernel
theorem dX11_ahead_41 : decode cX11_ahead 41 = .ok (.istore_n 2, 1) := by decide +kernel
theorem dX11_ahead_42 : decode cX11_ahead 42 = .ok (.iinc 3 1, 3) := by decide +kernel
theorem dX11_ahead_45 : decode cX11_ahead 45 = .ok (.goto (-20), 3) := by decide +kernel
theorem dX11_ahead_48 : decode cX11_ahead 48 = .ok (.iload_n 2, 1) := by decide +kernel
theorem dX11_ahead_49 : decode cX11_ahead 49 = .ok (.ireturn, 1) := by decide +kernel
theorem dX11_finish_0 : decode cX11_finish 0 = .ok (.aload_n 0, 1) := by decide +kernel
theorem dX11_finish_1 : decode cX11_finish 1 = .ok (.getfield 37, 3) := by decide +kernel
theorem dX11_finish_4 : decode cX11_finish 4 = .ok (.iload_n 1, 1) := by decide +kernel
theorem dX11_finish_5 : decode cX11_finish 5 = .ok (.invokevirtual 130, 3) := by decide +kernel
theorem dX11_finish_8 : decode cX11_finish 8 = .ok (.ifCond .eq 21, 3) := by decide +kernel
theorem dX11_finish_29 : decode cX11_finish 29 = .ok (.iconst (-1), 1) := by decide +kernel
theorem dX11_finish_30 : decode cX11_finish 30 = .ok (.ireturn, 1) := by decide +kernel
theorem dX11_due_0 : decode cX11_due 0 = .ok (.aload_n 0, 1) := by decide +kernel
theorem dX11_due_1 : decode cX11_due 1 = .ok (.getfield 37, 3) := by decide +kernel
theorem dX11_due_4 : decode cX11_due 4 = .ok (.iload_n 1, 1) := by decide +kernel
theorem dX11_due_5 : decode cX11_due 5 = .ok (.invokevirtual 130, 3) := by decide +kernel
theorem dX11_due_8 : decode cX11_due 8 = .ok (.ifCond .ne 5, 3) := by decide +kernel
theorem dX11_due_11 : decode cX11_due 11 = .ok (.iconst (-1), 1) := by decide +kernel
theorem dX11_due_12 : decode cX11_due 12 = .ok (.ireturn, 1) := by decide +kernel
theorem dX11_least_0 : decode cX11_least 0 = .ok (.aload_n 0, 1) := by decide +kernel
theorem dX11_least_1 : decode cX11_least 1 = .ok (.getfield 37, 3) := by decide +kernel
theorem dX11_least_4 : decode cX11_least 4 = .ok (.iload_n 1, 1) := by decide +kernel
theorem dX11_least_5 : decode cX11_least 5 = .ok (.invokevirtual 130, 3) := by decide +kernel
theorem dX11_least_8 : decode cX11_least 8 = .ok (.ifCond .eq 20, 3) := by decide +kernel
theorem dX11_least_28 : decode cX11_least 28 = .ok (.iconst (-1), 1) := by decide +kernel
theorem dX11_least_29 : decode cX11_least 29 = .ok (.ireturn, 1) := by decide +kernel
theorem dX11_would_0 : decode cX11_would 0 = .ok (.iload_n 1, 1) := by decide +kernel
theorem dX11_would_1 : decode cX11_would 1 = .ok (.ifCond .lt 25, 3) := by decide +kernel
theorem dX11_would_4 : decode cX11_would 4 = .ok (.iload_n 1, 1) := by decide +kernel
theorem dX11_would_5 : decode cX11_would 5 = .ok (.iconst 4, 1) := by decide +kernel
theorem dX11_would_6 : decode cX11_would 6 = .ok (.if_icmp .gt 20, 3) := by decide +kernel
theorem dX11_would_9 : decode cX11_would 9 = .ok (.aload_n 0, 1) := by decide +kernel
theorem dX11_would_10 : decode cX11_would 10 = .ok (.iload_n 2, 1) := by decide +kernel
theorem dX11_would_11 : decode cX11_would 11 = .ok (.invokevirtual 314, 3) := by decide +kernel
theorem dX11_would_14 : decode cX11_would 14 = .ok (.ifCond .eq 12, 3) := by decide +kernel
theorem dX11_would_17 : decode cX11_would 17 = .ok (.iload_n 3, 1) := by decide +kernel
theorem dX11_would_18 : decode cX11_would 18 = .ok (.ifCond .lt 8, 3) := by decide +kernel
theorem dX11_would_21 : decode cX11_would 21 = .ok (.iload_n 3, 1) := by decide +kernel
theorem dX11_would_22 : decode cX11_would 22 = .ok (.iconst 3, 1) := by decide +kernel
theorem dX11_would_23 : decode cX11_would 23 = .ok (.if_icmp .le 7, 3) := by decide +kernel
theorem dX11_would_26 : decode cX11_would 26 = .ok (.ldc_w 325, 3) := by decide +kernel
theorem dX11_would_29 : decode cX11_would 29 = .ok (.ireturn, 1) := by decide +kernel
theorem dX11_would_30 : decode cX11_would 30 = .ok (.aload_n 0, 1) := by decide +kernel
theorem dX11_would_31 : decode cX11_would 31 = .ok (.getfield 41, 3) := by decide +kernel
theorem dX11_would_34 : decode cX11_would 34 = .ok (.aload_n 0, 1) := by decide +kernel
theorem dX11_would_35 : decode cX11_would 35 = .ok (.getfield 37, 3) := by decide +kernel
theorem dX11_would_38 : decode cX11_would 38 = .ok (.invokevirtual 238, 3) := by decide +kernel
theorem dX11_would_41 : decode cX11_would 41 = .ok (.aload_n 0, 1) := by decide +kernel
theorem dX11_would_42 : decode cX11_would 42 = .ok (.getfield 51, 3) := by decide +kernel
theorem dX11_would_45 : decode cX11_would 45 = .ok (.iload_n 1, 1) := by decide +kernel
theorem dX11_would_46 : decode cX11_would 46 = .ok (.invokevirtual 326, 3) := by decide +kernel
theorem dX11_would_49 : decode cX11_would 49 = .ok (.lconst 0, 1) := by decide +kernel
theorem dX11_would_50 : decode cX11_would 50 = .ok (.lstore 4, 2) := by decide +kernel
theorem dX11_would_52 : decode cX11_would 52 = .ok (.iconst 0, 1) := by decide +kernel
theorem dX11_would_53 : decode cX11_would 53 = .ok (.istore 6, 2) := by decide +kernel
theorem dX11_would_55 : decode cX11_would 55 = .ok (.iconst 0, 1) := by decide +kernel
theorem dX11_would_56 : decode cX11_would 56 = .ok (.istore 7, 2) := by decide +kernel
theorem dX11_would_58 : decode cX11_would 58 = .ok (.iconst 0, 1) := by decide +kernel
theorem dX11_would_59 : decode cX11_would 59 = .ok (.istore 8, 2) := by decide +kernel
theorem dX11_would_61 : decode cX11_would 61 = .ok (.iload 8, 2) := by decide +kernel
theorem dX11_would_63 : decode cX11_would 63 = .ok (.iload_n 2, 1) := by decide +kernel
theorem dX11_would_64 : decode cX11_would 64 = .ok (.if_icmp .ge 73, 3) := by decide +kernel
theorem dX11_would_67 : decode cX11_would 67 = .ok (.aload_n 0, 1) := by decide +kernel
theorem dX11_would_68 : decode cX11_would 68 = .ok (.getfield 41, 3) := by decide +kernel
theorem dX11_would_71 : decode cX11_would 71 = .ok (.getfield 329, 3) := by decide +kernel
theorem dX11_would_74 : decode cX11_would 74 = .ok (.istore 9, 2) := by decide +kernel
theorem dX11_would_76 : decode cX11_would 76 = .ok (.aload_n 0, 1) := by decide +kernel
theorem dX11_would_77 : decode cX11_would 77 = .ok (.getfield 41, 3) := by decide +kernel
theorem dX11_would_80 : decode cX11_would 80 = .ok (.aload_n 0, 1) := by decide +kernel
theorem dX11_would_81 : decode cX11_would 81 = .ok (.getfield 51, 3) := by decide +kernel
theorem dX11_would_84 : decode cX11_would 84 = .ok (.invokevirtual 226, 3) := by decide +kernel
theorem dX11_would_87 : decode cX11_would 87 = .ok (.istore 10, 2) := by decide +kernel
theorem dX11_would_89 : decode cX11_would 89 = .ok (.iload 10, 2) := by decide +kernel
theorem dX11_would_91 : decode cX11_would 91 = .ok (.iconst (-1), 1) := by decide +kernel
theorem dX11_would_92 : decode cX11_would 92 = .ok (.if_icmp .ne 9, 3) := by decide +kernel
theorem dX11_would_95 : decode cX11_would 95 = .ok (.iinc 7 1, 3) := by decide +kernel
theorem dX11_would_98 : decode cX11_would 98 = .ok (.goto 13, 3) := by decide +kernel
theorem dX11_would_111 : decode cX11_would 111 = .ok (.aload_n 0, 1) := by decide +kernel
theorem dX11_would_112 : decode cX11_would 112 = .ok (.getfield 41, 3) := by decide +kernel
theorem dX11_would_115 : decode cX11_would 115 = .ok (.lload 4, 2) := by decide +kernel
theorem dX11_would_117 : decode cX11_would 117 = .ok (.iload_n 3, 1) := by decide +kernel
theorem dX11_would_118 : decode cX11_would 118 = .ok (.ifCond .ne 7, 3) := by decide +kernel
theorem dX11_would_121 : decode cX11_would 121 = .ok (.iconst 1, 1) := by decide +kernel
theorem dX11_would_122 : decode cX11_would 122 = .ok (.goto 4, 3) := by decide +kernel
theorem dX11_would_125 : decode cX11_would 125 = .ok (.iconst 0, 1) := by decide +kernel
theorem dX11_would_126 : decode cX11_would 126 = .ok (.invokevirtual 332, 3) := by decide +kernel
theorem dX11_would_129 : decode cX11_would 129 = .ok (.lstore 4, 2) := by decide +kernel
theorem dX11_would_131 : decode cX11_would 131 = .ok (.iinc 8 1, 3) := by decide +kernel
theorem dX11_would_134 : decode cX11_would 134 = .ok (.goto (-73), 3) := by decide +kernel
theorem dX11_would_137 : decode cX11_would 137 = .ok (.iload_n 3, 1) := by decide +kernel
theorem dX11_would_138 : decode cX11_would 138 = .ok (.iconst 2, 1) := by decide +kernel
theorem dX11_would_139 : decode cX11_would 139 = .ok (.if_icmp .ne 6, 3) := by decide +kernel
theorem dX11_would_142 : decode cX11_would 142 = .ok (.iload 6, 2) := by decide +kernel
theorem dX11_would_144 : decode cX11_would 144 = .ok (.ireturn, 1) := by decide +kernel
theorem dX11_would_145 : decode cX11_would 145 = .ok (.iload_n 3, 1) := by decide +kernel
theorem dX11_would_146 : decode cX11_would 146 = .ok (.iconst 3, 1) := by decide +kernel
theorem dX11_would_147 : decode cX11_would 147 = .ok (.if_icmp .ne 8, 3) := by decide +kernel
theorem dX11_would_150 : decode cX11_would 150 = .ok (.iload 7, 2) := by decide +kernel
theorem dX11_would_152 : decode cX11_would 152 = .ok (.goto 6, 3) := by decide +kernel
theorem dX11_would_155 : decode cX11_would 155 = .ok (.lload 4, 2) := by decide +kernel
theorem dX11_would_157 : decode cX11_would 157 = .ok (.l2i, 1) := by decide +kernel
theorem dX11_would_158 : decode cX11_would 158 = .ok (.ireturn, 1) := by decide +kernel
theorem dX11_count_0 : decode cX11_count 0 = .ok (.iload_n 1, 1) := by decide +kernel
theorem dX11_count_1 : decode cX11_count 1 = .ok (.tableswitch 239 0 16 #[83, 91, 100, 109, 117, 125, 141, 149, 157, 166, 176, 186, 196, 206, 214, 222, 230], 83) := by decide +kernel
theorem dX11_count_84 : decode cX11_count 84 = .ok (.aload_n 0, 1) := by decide +kernel
theorem dX11_count_85 : decode cX11_count 85 = .ok (.getfield 37, 3) := by decide +kernel
theorem dX11_count_88 : decode cX11_count 88 = .ok (.getfield 119, 3) := by decide +kernel
theorem dX11_count_91 : decode cX11_count 91 = .ok (.ireturn, 1) := by decide +kernel
theorem dX11_count_92 : decode cX11_count 92 = .ok (.aload_n 0, 1) := by decide +kernel
theorem dX11_count_93 : decode cX11_count 93 = .ok (.getfield 37, 3) := by decide +kernel
theorem dX11_count_96 : decode cX11_count 96 = .ok (.iconst 1, 1) := by decide +kernel
theorem dX11_count_97 : decode cX11_count 97 = .ok (.invokevirtual 336, 3) := by decide +kernel
theorem dX11_count_100 : decode cX11_count 100 = .ok (.ireturn, 1) := by decide +kernel
theorem dX11_count_101 : decode cX11_count 101 = .ok (.aload_n 0, 1) := by decide +kernel
theorem dX11_count_102 : decode cX11_count 102 = .ok (.getfield 37, 3) := by decide +kernel
theorem dX11_count_105 : decode cX11_count 105 = .ok (.iconst 2, 1) := by decide +kernel
theorem dX11_count_106 : decode cX11_count 106 = .ok (.invokevirtual 336, 3) := by decide +kernel
theorem dX11_count_109 : decode cX11_count 109 = .ok (.ireturn, 1) := by decide +kernel
theorem dX11_count_110 : decode cX11_count 110 = .ok (.aload_n 0, 1) := by decide +kernel
theorem dX11_count_111 : decode cX11_count 111 = .ok (.getfield 37, 3) := by decide +kernel
theorem dX11_count_114 : decode cX11_count 114 = .ok (.invokevirtual 339, 3) := by decide +kernel
theorem dX11_count_117 : decode cX11_count 117 = .ok (.ireturn, 1) := by decide +kernel
theorem dX11_count_118 : decode cX11_count 118 = .ok (.aload_n 0, 1) := by decide +kernel
theorem dX11_count_119 : decode cX11_count 119 = .ok (.getfield 37, 3) := by decide +kernel
theorem dX11_count_122 : decode cX11_count 122 = .ok (.getfield 329, 3) := by decide +kernel
theorem dX11_count_125 : decode cX11_count 125 = .ok (.ireturn, 1) := by decide +kernel
theorem dX11_count_126 : decode cX11_count 126 = .ok (.aload_n 0, 1) := by decide +kernel
theorem dX11_count_127 : decode cX11_count 127 = .ok (.getfield 37, 3) := by decide +kernel
theorem dX11_count_130 : decode cX11_count 130 = .ok (.getfield 223, 3) := by decide +kernel
theorem dX11_count_133 : decode cX11_count 133 = .ok (.aload_n 0, 1) := by decide +kernel
theorem dX11_count_134 : decode cX11_count 134 = .ok (.getfield 37, 3) := by decide +kernel
theorem dX11_count_137 : decode cX11_count 137 = .ok (.invokevirtual 307, 3) := by decide +kernel
theorem dX11_count_140 : decode cX11_count 140 = .ok (.isub, 1) := by decide +kernel
theorem dX11_count_141 : decode cX11_count 141 = .ok (.ireturn, 1) := by decide +kernel
theorem dX11_count_142 : decode cX11_count 142 = .ok (.aload_n 0, 1) := by decide +kernel
theorem dX11_count_143 : decode cX11_count 143 = .ok (.getfield 65, 3) := by decide +kernel
theorem dX11_count_146 : decode cX11_count 146 = .ok (.getfield 230, 3) := by decide +kernel
theorem dX11_count_149 : decode cX11_count 149 = .ok (.ireturn, 1) := by decide +kernel
theorem dX11_count_150 : decode cX11_count 150 = .ok (.aload_n 0, 1) := by decide +kernel
theorem dX11_count_151 : decode cX11_count 151 = .ok (.getfield 21, 3) := by decide +kernel
theorem dX11_count_154 : decode cX11_count 154 = .ok (.getfield 106, 3) := by decide +kernel
theorem dX11_count_157 : decode cX11_count 157 = .ok (.ireturn, 1) := by decide +kernel
theorem dX11_count_158 : decode cX11_count 158 = .ok (.aload_n 0, 1) := by decide +kernel
theorem dX11_count_159 : decode cX11_count 159 = .ok (.getfield 72, 3) := by decide +kernel
theorem dX11_count_162 : decode cX11_count 162 = .ok (.iconst (-1), 1) := by decide +kernel
theorem dX11_count_163 : decode cX11_count 163 = .ok (.invokevirtual 342, 3) := by decide +kernel
theorem dX11_count_166 : decode cX11_count 166 = .ok (.ireturn, 1) := by decide +kernel
theorem dX11_count_167 : decode cX11_count 167 = .ok (.aload_n 0, 1) := by decide +kernel
theorem dX11_count_168 : decode cX11_count 168 = .ok (.getfield 72, 3) := by decide +kernel
theorem dX11_count_171 : decode cX11_count 171 = .ok (.bipush (-2), 2) := by decide +kernel
theorem dX11_count_173 : decode cX11_count 173 = .ok (.invokevirtual 342, 3) := by decide +kernel
theorem dX11_count_176 : decode cX11_count 176 = .ok (.ireturn, 1) := by decide +kernel
theorem dX11_count_177 : decode cX11_count 177 = .ok (.aload_n 0, 1) := by decide +kernel
theorem dX11_count_178 : decode cX11_count 178 = .ok (.getfield 72, 3) := by decide +kernel
theorem dX11_count_181 : decode cX11_count 181 = .ok (.bipush (-4), 2) := by decide +kernel
theorem dX11_count_183 : decode cX11_count 183 = .ok (.invokevirtual 342, 3) := by decide +kernel
theorem dX11_count_186 : decode cX11_count 186 = .ok (.ireturn, 1) := by decide +kernel
theorem dX11_count_187 : decode cX11_count 187 = .ok (.aload_n 0, 1) := by decide +kernel
theorem dX11_count_188 : decode cX11_count 188 = .ok (.getfield 72, 3) := by decide +kernel
theorem dX11_count_191 : decode cX11_count 191 = .ok (.bipush (-5), 2) := by decide +kernel
theorem dX11_count_193 : decode cX11_count 193 = .ok (.invokevirtual 342, 3) := by decide +kernel
theorem dX11_count_196 : decode cX11_count 196 = .ok (.ireturn, 1) := by decide +kernel
theorem dX11_count_197 : decode cX11_count 197 = .ok (.aload_n 0, 1) := by decide +kernel
theorem dX11_count_198 : decode cX11_count 198 = .ok (.getfield 72, 3) := by decide +kernel
theorem dX11_count_201 : decode cX11_count 201 = .ok (.bipush (-6), 2) := by decide +kernel
theorem dX11_count_203 : decode cX11_count 203 = .ok (.invokevirtual 342, 3) := by decide +kernel
theorem dX11_count_206 : decode cX11_count 206 = .ok (.ireturn, 1) := by decide +kernel
theorem dX11_count_207 : decode cX11_count 207 = .ok (.aload_n 0, 1) := by decide +kernel
theorem dX11_count_208 : decode cX11_count 208 = .ok (.getfield 12, 3) := by decide +kernel
theorem dX11_count_211 : decode cX11_count 211 = .ok (.getfield 345, 3) := by decide +kernel
theorem dX11_count_214 : decode cX11_count 214 = .ok (.ireturn, 1) := by decide +kernel
theorem dX11_count_215 : decode cX11_count 215 = .ok (.aload_n 0, 1) := by decide +kernel
theorem dX11_count_216 : decode cX11_count 216 = .ok (.getfield 12, 3) := by decide +kernel
theorem dX11_count_219 : decode cX11_count 219 = .ok (.getfield 348, 3) := by decide +kernel
theorem dX11_count_222 : decode cX11_count 222 = .ok (.ireturn, 1) := by decide +kernel
theorem dX11_count_223 : decode cX11_count 223 = .ok (.aload_n 0, 1) := by decide +kernel
theorem dX11_count_224 : decode cX11_count 224 = .ok (.getfield 12, 3) := by decide +kernel
theorem dX11_count_227 : decode cX11_count 227 = .ok (.getfield 351, 3) := by decide +kernel
theorem dX11_count_230 : decode cX11_count 230 = .ok (.ireturn, 1) := by decide +kernel
theorem dX11_count_231 : decode cX11_count 231 = .ok (.aload_n 0, 1) := by decide +kernel
theorem dX11_count_232 : decode cX11_count 232 = .ok (.getfield 37, 3) := by decide +kernel
theorem dX11_count_235 : decode cX11_count 235 = .ok (.iconst 3, 1) := by decide +kernel
theorem dX11_count_236 : decode cX11_count 236 = .ok (.invokevirtual 336, 3) := by decide +kernel
theorem dX11_count_239 : decode cX11_count 239 = .ok (.ireturn, 1) := by decide +kernel
theorem dX11_count_240 : decode cX11_count 240 = .ok (.iconst (-1), 1) := by decide +kernel
theorem dX11_count_241 : decode cX11_count 241 = .ok (.ireturn, 1) := by decide +kernel
theorem dX11_status_0 : decode cX11_status 0 = .ok (.aload_n 0, 1) := by decide +kernel
theorem dX11_status_1 : decode cX11_status 1 = .ok (.getfield 72, 3) := by decide +kernel
theorem dX11_status_4 : decode cX11_status 4 = .ok (.getfield 354, 3) := by decide +kernel
theorem dX11_status_7 : decode cX11_status 7 = .ok (.ireturn, 1) := by decide +kernel
theorem dX11_isWeight_0 : decode cX11_isWeight 0 = .ok (.iload_n 0, 1) := by decide +kernel
theorem dX11_isWeight_1 : decode cX11_isWeight 1 = .ok (.iconst 1, 1) := by decide +kernel
theorem dX11_isWeight_2 : decode cX11_isWeight 2 = .ok (.if_icmp .lt 13, 3) := by decide +kernel
theorem dX11_isWeight_5 : decode cX11_isWeight 5 = .ok (.iload_n 0, 1) := by decide +kernel
theorem dX11_isWeight_6 : decode cX11_isWeight 6 = .ok (.bipush 8, 2) := by decide +kernel
theorem dX11_isWeight_8 : decode cX11_isWeight 8 = .ok (.if_icmp .gt 7, 3) := by decide +kernel
theorem dX11_isWeight_11 : decode cX11_isWeight 11 = .ok (.iconst 1, 1) := by decide +kernel
theorem dX11_isWeight_12 : decode cX11_isWeight 12 = .ok (.goto 4, 3) := by decide +kernel
theorem dX11_isWeight_15 : decode cX11_isWeight 15 = .ok (.iconst 0, 1) := by decide +kernel
theorem dX11_isWeight_16 : decode cX11_isWeight 16 = .ok (.ireturn, 1) := by decide +kernel
theorem dX11_isSlice_0 : decode cX11_isSlice 0 = .ok (.iload_n 0, 1) := by decide +kernel
theorem dX11_isSlice_1 : decode cX11_isSlice 1 = .ok (.iconst 1, 1) := by decide +kernel
theorem dX11_isSlice_2 : decode cX11_isSlice 2 = .ok (.if_icmp .lt 13, 3) := by decide +kernel
theorem dX11_isSlice_5 : decode cX11_isSlice 5 = .ok (.iload_n 0, 1) := by decide +kernel
theorem dX11_isSlice_6 : decode cX11_isSlice 6 = .ok (.bipush 20, 2) := by decide +kernel
theorem dX11_isSlice_8 : decode cX11_isSlice 8 = .ok (.if_icmp .gt 7, 3) := by decide +kernel
theorem dX11_isSlice_11 : decode cX11_isSlice 11 = .ok (.iconst 1, 1) := by decide +kernel
theorem dX11_isSlice_12 : decode cX11_isSlice 12 = .ok (.goto 4, 3) := by decide +kernel
theorem dX11_isSlice_15 : decode cX11_isSlice 15 = .ok (.iconst 0, 1) := by decide +kernel
theorem dX11_isSlice_16 : decode cX11_isSlice 16 = .ok (.ireturn, 1) := by decide +kernel
theorem dX11_isImage_0 : decode cX11_isImage 0 = .ok (.iload_n 0, 1) := by decide +kernel
theorem dX11_isImage_1 : decode cX11_isImage 1 = .ok (.ifCond .lt 12, 3) := by decide +kernel
theorem dX11_isImage_4 : decode cX11_isImage 4 = .ok (.iload_n 0, 1) := by decide +kernel
theorem dX11_isImage_5 : decode cX11_isImage 5 = .ok (.iconst 2, 1) := by decide +kernel
theorem dX11_isImage_6 : decode cX11_isImage 6 = .ok (.if_icmp .ge 7, 3) := by decide +kernel
theorem dX11_isImage_9 : decode cX11_isImage 9 = .ok (.iconst 1, 1) := by decide +kernel
theorem dX11_isImage_10 : decode cX11_isImage 10 = .ok (.goto 4, 3) := by decide +kernel
theorem dX11_isImage_13 : decode cX11_isImage 13 = .ok (.iconst 0, 1) := by decide +kernel
theorem dX11_isImage_14 : decode cX11_isImage 14 = .ok (.ireturn, 1) := by decide +kernel
theorem dX11_canTick_0 : decode cX11_canTick 0 = .ok (.iload_n 1, 1) := by decide +kernel
theorem dX11_canTick_1 : decode cX11_canTick 1 = .ok (.iconst 1, 1) := by decide +kernel
theorem dX11_canTick_2 : decode cX11_canTick 2 = .ok (.if_icmp .lt 28, 3) := by decide +kernel
theorem dX11_canTick_5 : decode cX11_canTick 5 = .ok (.iload_n 1, 1) := by decide +kernel
theorem dX11_canTick_6 : decode cX11_canTick 6 = .ok (.bipush 60, 2) := by decide +kernel
theorem dX11_canTick_8 : decode cX11_canTick 8 = .ok (.if_icmp .gt 22, 3) := by decide +kernel
theorem dX11_canTick_11 : decode cX11_canTick 11 = .ok (.aload_n 0, 1) := by decide +kernel
theorem dX11_canTick_12 : decode cX11_canTick 12 = .ok (.getfield 37, 3) := by decide +kernel
theorem dX11_canTick_15 : decode cX11_canTick 15 = .ok (.getfield 223, 3) := by decide +kernel
theorem dX11_canTick_18 : decode cX11_canTick 18 = .ok (.iload_n 1, 1) := by decide +kernel
theorem dX11_canTick_19 : decode cX11_canTick 19 = .ok (.iadd, 1) := by decide +kernel
theorem dX11_canTick_20 : decode cX11_canTick 20 = .ok (.sipush 9999, 3) := by decide +kernel
theorem dX11_canTick_23 : decode cX11_canTick 23 = .ok (.if_icmp .gt 7, 3) := by decide +kernel
theorem dX11_canTick_26 : decode cX11_canTick 26 = .ok (.iconst 1, 1) := by decide +kernel
theorem dX11_canTick_27 : decode cX11_canTick 27 = .ok (.goto 4, 3) := by decide +kernel
theorem dX11_canTick_30 : decode cX11_canTick 30 = .ok (.iconst 0, 1) := by decide +kernel
theorem dX11_canTick_31 : decode cX11_canTick 31 = .ok (.ireturn, 1) := by decide +kernel
theorem dX12_init_0 : decode cX12_init 0 = .ok (.aload_n 0, 1) := by decide +kernel
theorem dX12_init_1 : decode cX12_init 1 = .ok (.invokespecial 1, 3) := by decide +kernel
theorem dX12_init_4 : decode cX12_init 4 = .ok (.aload_n 0, 1) := by decide +kernel
theorem dX12_init_5 : decode cX12_init 5 = .ok (.bipush 7, 2) := by decide +kernel
theorem dX12_init_7 : decode cX12_init 7 = .ok (.newarray .int, 2) := by decide +kernel
theorem dX12_init_9 : decode cX12_init 9 = .ok (.putfield 7, 3) := by decide +kernel
theorem dX12_init_12 : decode cX12_init 12 = .ok (.aload_n 0, 1) := by decide +kernel
theorem dX12_init_13 : decode cX12_init 13 = .ok (.iconst 3, 1) := by decide +kernel
theorem dX12_init_14 : decode cX12_init 14 = .ok (.newarray .int, 2) := by decide +kernel
theorem dX12_init_16 : decode cX12_init 16 = .ok (.putfield 13, 3) := by decide +kernel
theorem dX12_init_19 : decode cX12_init 19 = .ok (.aload_n 0, 1) := by decide +kernel
theorem dX12_init_20 : decode cX12_init 20 = .ok (.sipush 906, 3) := by decide +kernel
theorem dX12_init_23 : decode cX12_init 23 = .ok (.newarray .long, 2) := by decide +kernel
theorem dX12_init_25 : decode cX12_init 25 = .ok (.putfield 16, 3) := by decide +kernel
theorem dX12_init_28 : decode cX12_init 28 = .ok (.aload_n 0, 1) := by decide +kernel
theorem dX12_init_29 : decode cX12_init 29 = .ok (.sipush 9060, 3) := by decide +kernel
theorem dX12_init_32 : decode cX12_init 32 = .ok (.newarray .long, 2) := by decide +kernel
theorem dX12_init_34 : decode cX12_init 34 = .ok (.putfield 20, 3) := by decide +kernel
theorem dX12_init_37 : decode cX12_init 37 = .ok (.aload_n 0, 1) := by decide +kernel
theorem dX12_init_38 : decode cX12_init 38 = .ok (.sipush 906, 3) := by decide +kernel
theorem dX12_init_41 : decode cX12_init 41 = .ok (.newarray .long, 2) := by decide +kernel
theorem dX12_init_43 : decode cX12_init 43 = .ok (.putfield 23, 3) := by decide +kernel
theorem dX12_init_46 : decode cX12_init 46 = .ok (.aload_n 0, 1) := by decide +kernel
theorem dX12_init_47 : decode cX12_init 47 = .ok (.sipush 1812, 3) := by decide +kernel
theorem dX12_init_50 : decode cX12_init 50 = .ok (.newarray .long, 2) := by decide +kernel
theorem dX12_init_52 : decode cX12_init 52 = .ok (.putfield 26, 3) := by decide +kernel
theorem dX12_init_55 : decode cX12_init 55 = .ok (.aload_n 0, 1) := by decide +kernel
theorem dX12_init_56 : decode cX12_init 56 = .ok (.iconst 2, 1) := by decide +kernel
theorem dX12_init_57 : decode cX12_init 57 = .ok (.newarray .boolean, 2) := by decide +kernel
theorem dX12_init_59 : decode cX12_init 59 = .ok (.putfield 29, 3) := by decide +kernel
theorem dX12_init_62 : decode cX12_init 62 = .ok (.aload_n 0, 1) := by decide +kernel
theorem dX12_init_63 : decode cX12_init 63 = .ok (.bipush 10, 2) := by decide +kernel
theorem dX12_init_65 : decode cX12_init 65 = .ok (.newarray .int, 2) := by decide +kernel
theorem dX12_init_67 : decode cX12_init 67 = .ok (.putfield 33, 3) := by decide +kernel
theorem dX12_init_70 : decode cX12_init 70 = .ok (.aload_n 0, 1) := by decide +kernel
theorem dX12_init_71 : decode cX12_init 71 = .ok (.sipush 200, 3) := by decide +kernel
theorem dX12_init_74 : decode cX12_init 74 = .ok (.newarray .int, 2) := by decide +kernel
theorem dX12_init_76 : decode cX12_init 76 = .ok (.putfield 36, 3) := by decide +kernel
theorem dX12_init_79 : decode cX12_init 79 = .ok (.aload_n 0, 1) := by decide +kernel
theorem dX12_init_80 : decode cX12_init 80 = .ok (.iconst (-1), 1) := by decide +kernel
theorem dX12_init_81 : decode cX12_init 81 = .ok (.putfield 39, 3) := by decide +kernel
theorem dX12_init_84 : decode cX12_init 84 = .ok (.aload_n 0, 1) := by decide +kernel
theorem dX12_init_85 : decode cX12_init 85 = .ok (.iconst 5, 1) := by decide +kernel
theorem dX12_init_86 : decode cX12_init 86 = .ok (.newarray .long, 2) := by decide +kernel
theorem dX12_init_88 : decode cX12_init 88 = .ok (.dup, 1) := by decide +kernel
theorem dX12_init_89 : decode cX12_init 89 = .ok (.iconst 0, 1) := by decide +kernel
theorem dX12_init_90 : decode cX12_init 90 = .ok (.ldc2_w 43, 3) := by decide +kernel
theorem dX12_init_93 : decode cX12_init 93 = .ok (.lastore, 1) := by decide +kernel
theorem dX12_init_94 : decode cX12_init 94 = .ok (.dup, 1) := by decide +kernel
theorem dX12_init_95 : decode cX12_init 95 = .ok (.iconst 1, 1) := by decide +kernel
theorem dX12_init_96 : decode cX12_init 96 = .ok (.ldc2_w 45, 3) := by decide +kernel
theorem dX12_init_99 : decode cX12_init 99 = .ok (.lastore, 1) := by decide +kernel
theorem dX12_init_100 : decode cX12_init 100 = .ok (.dup, 1) := by decide +kernel
theorem dX12_init_101 : decode cX12_init 101 = .ok (.iconst 2, 1) := by decide +kernel
theorem dX12_init_102 : decode cX12_init 102 = .ok (.ldc2_w 47, 3) := by decide +kernel
theorem dX12_init_105 : decode cX12_init 105 = .ok (.lastore, 1) := by decide +kernel
theorem dX12_init_106 : decode cX12_init 106 = .ok (.dup, 1) := by decide +kernel
theorem dX12_init_107 : decode cX12_init 107 = .ok (.iconst 3, 1) := by decide +kernel
theorem dX12_init_108 : decode cX12_init 108 = .ok (.ldc2_w 49, 3) := by decide +kernel
theorem dX12_init_111 : decode cX12_init 111 = .ok (.lastore, 1) := by decide +kernel
theorem dX12_init_112 : decode cX12_init 112 = .ok (.dup, 1) := by decide +kernel
theorem dX12_init_113 : decode cX12_init 113 = .ok (.iconst 4, 1) := by decide +kernel
theorem dX12_init_114 : decode cX12_init 114 = .ok (.ldc2_w 51, 3) := by decide +kernel
theorem dX12_init_117 : decode cX12_init 117 = .ok (.lastore, 1) := by decide +kernel
theorem dX12_init_118 : decode cX12_init 118 = .ok (.putfield 53, 3) := by decide +kernel
theorem dX12_init_121 : decode cX12_init 121 = .ok (.aload_n 0, 1) := by decide +kernel
theorem dX12_init_122 : decode cX12_init 122 = .ok (.iconst 5, 1) := by decide +kernel
theorem dX12_init_123 : decode cX12_init 123 = .ok (.newarray .int, 2) := by decide +kernel
theorem dX12_init_125 : decode cX12_init 125 = .ok (.dup, 1) := by decide +kernel
theorem dX12_init_126 : decode cX12_init 126 = .ok (.iconst 0, 1) := by decide +kernel
theorem dX12_init_127 : decode cX12_init 127 = .ok (.bipush 99, 2) := by decide +kernel
theorem dX12_init_129 : decode cX12_init 129 = .ok (.iastore, 1) := by decide +kernel
theorem dX12_init_130 : decode cX12_init 130 = .ok (.dup, 1) := by decide +kernel
theorem dX12_init_131 : decode cX12_init 131 = .ok (.iconst 1, 1) := by decide +kernel
theorem dX12_init_132 : decode cX12_init 132 = .ok (.bipush 99, 2) := by decide +kernel
theorem dX12_init_134 : decode cX12_init 134 = .ok (.iastore, 1) := by decide +kernel
theorem dX12_init_135 : decode cX12_init 135 = .ok (.dup, 1) := by decide +kernel
theorem dX12_init_136 : decode cX12_init 136 = .ok (.iconst 2, 1) := by decide +kernel
theorem dX12_init_137 : decode cX12_init 137 = .ok (.bipush 8, 2) := by decide +kernel
theorem dX12_init_139 : decode cX12_init 139 = .ok (.iastore, 1) := by decide +kernel
theorem dX12_init_140 : decode cX12_init 140 = .ok (.dup, 1) := by decide +kernel
theorem dX12_init_141 : decode cX12_init 141 = .ok (.iconst 3, 1) := by decide +kernel
theorem dX12_init_142 : decode cX12_init 142 = .ok (.bipush 20, 2) := by decide +kernel
theorem dX12_init_144 : decode cX12_init 144 = .ok (.iastore, 1) := by decide +kernel
theorem dX12_init_145 : decode cX12_init 145 = .ok (.dup, 1) := by decide +kernel
theorem dX12_init_146 : decode cX12_init 146 = .ok (.iconst 4, 1) := by decide +kernel
theorem dX12_init_147 : decode cX12_init 147 = .ok (.bipush 9, 2) := by decide +kernel
theorem dX12_init_149 : decode cX12_init 149 = .ok (.iastore, 1) := by decide +kernel
theorem dX12_init_150 : decode cX12_init 150 = .ok (.putfield 56, 3) := by decide +kernel
theorem dX12_init_153 : decode cX12_init 153 = .ok (.aload_n 0, 1) := by decide +kernel
theorem dX12_init_154 : decode cX12_init 154 = .ok (.bipush 8, 2) := by decide +kernel
theorem dX12_init_156 : decode cX12_init 156 = .ok (.newarray .int, 2) := by decide +kernel
theorem dX12_init_158 : decode cX12_init 158 = .ok (.putfield 59, 3) := by decide +kernel
theorem dX12_init_161 : decode cX12_init 161 = .ok (.aload_n 0, 1) := by decide +kernel
theorem dX12_init_162 : decode cX12_init 162 = .ok (.bipush 8, 2) := by decide +kernel
theorem dX12_init_164 : decode cX12_init 164 = .ok (.newarray .int, 2) := by decide +kernel
theorem dX12_init_166 : decode cX12_init 166 = .ok (.putfield 62, 3) := by decide +kernel
theorem dX12_init_169 : decode cX12_init 169 = .ok (.aload_n 0, 1) := by decide +kernel
theorem dX12_init_170 : decode cX12_init 170 = .ok (.getfield 13, 3) := by decide +kernel
theorem dX12_init_173 : decode cX12_init 173 = .ok (.iconst 1, 1) := by decide +kernel
theorem dX12_init_174 : decode cX12_init 174 = .ok (.iconst 1, 1) := by decide +kernel
theorem dX12_init_175 : decode cX12_init 175 = .ok (.iastore, 1) := by decide +kernel
theorem dX12_init_176 : decode cX12_init 176 = .ok (.aload_n 0, 1) := by decide +kernel
theorem dX12_init_177 : decode cX12_init 177 = .ok (.getfield 13, 3) := by decide +kernel
theorem dX12_init_180 : decode cX12_init 180 = .ok (.iconst 2, 1) := by decide +kernel
theorem dX12_init_181 : decode cX12_init 181 = .ok (.iconst 1, 1) := by decide +kernel
theorem dX12_init_182 : decode cX12_init 182 = .ok (.iastore, 1) := by decide +kernel
theorem dX12_init_183 : decode cX12_init 183 = .ok (.aload_n 0, 1) := by decide +kernel
theorem dX12_init_184 : decode cX12_init 184 = .ok (.getfield 16, 3) := by decide +kernel
theorem dX12_init_187 : decode cX12_init 187 = .ok (.iconst 3, 1) := by decide +kernel
theorem dX12_init_188 : decode cX12_init 188 = .ok (.ldc2_w 65, 3) := by decide +kernel
theorem dX12_init_191 : decode cX12_init 191 = .ok (.lastore, 1) := by decide +kernel
theorem dX12_init_192 : decode cX12_init 192 = .ok (.aload_n 0, 1) := by decide +kernel
theorem dX12_init_193 : decode cX12_init 193 = .ok (.getfield 16, 3) := by decide +kernel
theorem dX12_init_196 : decode cX12_init 196 = .ok (.iconst 4, 1) := by decide +kernel
theorem dX12_init_197 : decode cX12_init 197 = .ok (.ldc2_w 65, 3) := by decide +kernel
theorem dX12_init_200 : decode cX12_init 200 = .ok (.lastore, 1) := by decide +kernel
theorem dX12_init_201 : decode cX12_init 201 = .ok (.return_, 1) := by decide +kernel
theorem dX12_in_0 : decode cX12_in 0 = .ok (.lload_n 0, 1) := by decide +kernel
theorem dX12_in_1 : decode cX12_in 1 = .ok (.lload_n 2, 1) := by decide +kernel
theorem dX12_in_2 : decode cX12_in 2 = .ok (.lcmp, 1) := by decide +kernel
theorem dX12_in_3 : decode cX12_in 3 = .ok (.ifCond .lt 14, 3) := by decide +kernel
theorem dX12_in_6 : decode cX12_in 6 = .ok (.lload_n 0, 1) := by decide +kernel
theorem dX12_in_7 : decode cX12_in 7 = .ok (.lload 4, 2) := by decide +kernel
theorem dX12_in_9 : decode cX12_in 9 = .ok (.lcmp, 1) := by decide +kernel
theorem dX12_in_10 : decode cX12_in 10 = .ok (.ifCond .gt 7, 3) := by decide +kernel
theorem dX12_in_13 : decode cX12_in 13 = .ok (.iconst 1, 1) := by decide +kernel
theorem dX12_in_14 : decode cX12_in 14 = .ok (.goto 4, 3) := by decide +kernel
theorem dX12_in_17 : decode cX12_in 17 = .ok (.iconst 0, 1) := by decide +kernel
theorem dX12_in_18 : decode cX12_in 18 = .ok (.ireturn, 1) := by decide +kernel
theorem dX12_tell_0 : decode cX12_tell 0 = .ok (.aload_n 0, 1) := by decide +kernel
theorem dX12_tell_1 : decode cX12_tell 1 = .ok (.iconst 0, 1) := by decide +kernel
theorem dX12_tell_2 : decode cX12_tell 2 = .ok (.putfield 70, 3) := by decide +kernel
theorem dX12_tell_5 : decode cX12_tell 5 = .ok (.iload_n 1, 1) := by decide +kernel
theorem dX12_tell_6 : decode cX12_tell 6 = .ok (.ireturn, 1) := by decide +kernel
theorem dX12_refuse_0 : decode cX12_refuse 0 = .ok (.aload_n 0, 1) := by decide +kernel
theorem dX12_refuse_1 : decode cX12_refuse 1 = .ok (.iload_n 1, 1) := by decide +kernel
theorem dX12_refuse_2 : decode cX12_refuse 2 = .ok (.putfield 70, 3) := by decide +kernel
theorem dX12_refuse_5 : decode cX12_refuse 5 = .ok (.aload_n 0, 1) := by decide +kernel
theorem dX12_refuse_6 : decode cX12_refuse 6 = .ok (.getfield 7, 3) := by decide +kernel
theorem dX12_refuse_9 : decode cX12_refuse 9 = .ok (.iload_n 1, 1) := by decide +kernel
theorem dX12_refuse_10 : decode cX12_refuse 10 = .ok (.ineg, 1) := by decide +kernel
theorem dX12_refuse_11 : decode cX12_refuse 11 = .ok (.dup2, 1) := by decide +kernel
theorem dX12_refuse_12 : decode cX12_refuse 12 = .ok (.iaload, 1) := by decide +kernel
theorem dX12_refuse_13 : decode cX12_refuse 13 = .ok (.iconst 1, 1) := by decide +kernel
theorem dX12_refuse_14 : decode cX12_refuse 14 = .ok (.iadd, 1) := by decide +kernel
theorem dX12_refuse_15 : decode cX12_refuse 15 = .ok (.iastore, 1) := by decide +kernel
theorem dX12_refuse_16 : decode cX12_refuse 16 = .ok (.iload_n 1, 1) := by decide +kernel
theorem dX12_refuse_17 : decode cX12_refuse 17 = .ok (.ireturn, 1) := by decide +kernel
theorem dX12_remember_0 : decode cX12_remember 0 = .ok (.aload_n 0, 1) := by decide +kernel
theorem dX12_remember_1 : decode cX12_remember 1 = .ok (.getfield 73, 3) := by decide +kernel
theorem dX12_remember_4 : decode cX12_remember 4 = .ok (.bipush 10, 2) := by decide +kernel
theorem dX12_remember_6 : decode cX12_remember 6 = .ok (.if_icmp .ne 72, 3) := by decide +kernel
theorem dX12_remember_78 : decode cX12_remember 78 = .ok (.iconst 0, 1) := by decide +kernel
theorem dX12_remember_79 : decode cX12_remember 79 = .ok (.istore_n 2, 1) := by decide +kernel
theorem dX12_remember_80 : decode cX12_remember 80 = .ok (.iload_n 2, 1) := by decide +kernel
theorem dX12_remember_81 : decode cX12_remember 81 = .ok (.sipush 906, 3) := by decide +kernel
theorem dX12_remember_84 : decode cX12_remember 84 = .ok (.if_icmp .ge 30, 3) := by decide +kernel
theorem dX12_remember_87 : decode cX12_remember 87 = .ok (.aload_n 0, 1) := by decide +kernel
theorem dX12_remember_88 : decode cX12_remember 88 = .ok (.getfield 20, 3) := by decide +kernel
theorem dX12_remember_91 : decode cX12_remember 91 = .ok (.sipush 906, 3) := by decide +kernel
theorem dX12_remember_94 : decode cX12_remember 94 = .ok (.aload_n 0, 1) := by decide +kernel
theorem dX12_remember_95 : decode cX12_remember 95 = .ok (.getfield 73, 3) := by decide +kernel
theorem dX12_remember_98 : decode cX12_remember 98 = .ok (.imul, 1) := by decide +kernel
theorem dX12_remember_99 : decode cX12_remember 99 = .ok (.iload_n 2, 1) := by decide +kernel
theorem dX12_remember_100 : decode cX12_remember 100 = .ok (.iadd, 1) := by decide +kernel
theorem dX12_remember_101 : decode cX12_remember 101 = .ok (.aload_n 0, 1) := by decide +kernel
theorem dX12_remember_102 : decode cX12_remember 102 = .ok (.getfield 16, 3) := by decide +kernel
theorem dX12_remember_105 : decode cX12_remember 105 = .ok (.iload_n 2, 1) := by decide +kernel
theorem dX12_remember_106 : decode cX12_remember 106 = .ok (.laload, 1) := by decide +kernel
theorem dX12_remember_107 : decode cX12_remember 107 = .ok (.lastore, 1) := by decide +kernel
theorem dX12_remember_108 : decode cX12_remember 108 = .ok (.iinc 2 1, 3) := by decide +kernel
theorem dX12_remember_111 : decode cX12_remember 111 = .ok (.goto (-31), 3) := by decide +kernel
theorem dX12_remember_114 : decode cX12_remember 114 = .ok (.aload_n 0, 1) := by decide +kernel
theorem dX12_remember_115 : decode cX12_remember 115 = .ok (.getfield 33, 3) := by decide +kernel
theorem dX12_remember_118 : decode cX12_remember 118 = .ok (.aload_n 0, 1) := by decide +kernel
theorem dX12_remember_119 : decode cX12_remember 119 = .ok (.getfield 73, 3) := by decide +kernel
theorem dX12_remember_122 : decode cX12_remember 122 = .ok (.iload_n 1, 1) := by decide +kernel
theorem dX12_remember_123 : decode cX12_remember 123 = .ok (.iastore, 1) := by decide +kernel
theorem dX12_remember_124 : decode cX12_remember 124 = .ok (.aload_n 0, 1) := by decide +kernel
theorem dX12_remember_125 : decode cX12_remember 125 = .ok (.dup, 1) := by decide +kernel
theorem dX12_remember_126 : decode cX12_remember 126 = .ok (.getfield 73, 3) := by decide +kernel
theorem dX12_remember_129 : decode cX12_remember 129 = .ok (.iconst 1, 1) := by decide +kernel
theorem dX12_remember_130 : decode cX12_remember 130 = .ok (.iadd, 1) := by decide +kernel
theorem dX12_remember_131 : decode cX12_remember 131 = .ok (.putfield 73, 3) := by decide +kernel
theorem dX12_remember_134 : decode cX12_remember 134 = .ok (.return_, 1) := by decide +kernel
theorem dX12_undo_0 : decode cX12_undo 0 = .ok (.aload_n 0, 1) := by decide +kernel
theorem dX12_undo_1 : decode cX12_undo 1 = .ok (.iconst 0, 1) := by decide +kernel
theorem dX12_undo_2 : decode cX12_undo 2 = .ok (.putfield 67, 3) := by decide +kernel
theorem dX12_undo_5 : decode cX12_undo 5 = .ok (.aload_n 0, 1) := by decide +kernel
theorem dX12_undo_6 : decode cX12_undo 6 = .ok (.getfield 73, 3) := by decide +kernel
theorem dX12_undo_9 : decode cX12_undo 9 = .ok (.ifCond .ne 10, 3) := by decide +kernel
theorem dX12_undo_12 : decode cX12_undo 12 = .ok (.aload_n 0, 1) := by decide +kernel
theorem dX12_undo_13 : decode cX12_undo 13 = .ok (.bipush (-4), 2) := by decide +kernel
theorem dX12_undo_15 : decode cX12_undo 15 = .ok (.invokevirtual 76, 3) := by decide +kernel
theorem dX12_undo_18 : decode cX12_undo 18 = .ok (.ireturn, 1) := by decide +kernel
theorem dX12_begin_0 : decode cX12_begin 0 = .ok (.iconst 0, 1) := by decide +kernel
theorem dX12_begin_1 : decode cX12_begin 1 = .ok (.istore_n 1, 1) := by decide +kernel
theorem dX12_begin_2 : decode cX12_begin 2 = .ok (.iload_n 1, 1) := by decide +kernel
theorem dX12_begin_3 : decode cX12_begin 3 = .ok (.sipush 906, 3) := by decide +kernel
theorem dX12_begin_6 : decode cX12_begin 6 = .ok (.if_icmp .ge 21, 3) := by decide +kernel
theorem dX12_begin_9 : decode cX12_begin 9 = .ok (.aload_n 0, 1) := by decide +kernel
theorem dX12_begin_10 : decode cX12_begin 10 = .ok (.getfield 23, 3) := by decide +kernel
theorem dX12_begin_13 : decode cX12_begin 13 = .ok (.iload_n 1, 1) := by decide +kernel
theorem dX12_begin_14 : decode cX12_begin 14 = .ok (.aload_n 0, 1) := by decide +kernel
theorem dX12_begin_15 : decode cX12_begin 15 = .ok (.getfield 16, 3) := by decide +kernel
theorem dX12_begin_18 : decode cX12_begin 18 = .ok (.iload_n 1, 1) := by decide +kernel
theorem dX12_begin_19 : decode cX12_begin 19 = .ok (.laload, 1) := by decide +kernel
theorem dX12_begin_20 : decode cX12_begin 20 = .ok (.lastore, 1) := by decide +kernel
theorem dX12_begin_21 : decode cX12_begin 21 = .ok (.iinc 1 1, 3) := by decide +kernel
theorem dX12_begin_24 : decode cX12_begin 24 = .ok (.goto (-22), 3) := by decide +kernel
theorem dX12_begin_27 : decode cX12_begin 27 = .ok (.return_, 1) := by decide +kernel
theorem dX12_over_0 : decode cX12_over 0 = .ok (.iconst 0, 1) := by decide +kernel
theorem dX12_over_1 : decode cX12_over 1 = .ok (.istore_n 1, 1) := by decide +kernel
theorem dX12_over_2 : decode cX12_over 2 = .ok (.iload_n 1, 1) := by decide +kernel
theorem dX12_over_3 : decode cX12_over 3 = .ok (.sipush 906, 3) := by decide +kernel
theorem dX12_over_6 : decode cX12_over 6 = .ok (.if_icmp .ge 21, 3) := by decide +kernel
theorem dX12_over_9 : decode cX12_over 9 = .ok (.aload_n 0, 1) := by decide +kernel
theorem dX12_over_10 : decode cX12_over 10 = .ok (.getfield 16, 3) := by decide +kernel
theorem dX12_over_13 : decode cX12_over 13 = .ok (.iload_n 1, 1) := by decide +kernel
theorem dX12_over_14 : decode cX12_over 14 = .ok (.aload_n 0, 1) := by decide +kernel
theorem dX12_over_15 : decode cX12_over 15 = .ok (.getfield 23, 3) := by decide +kernel
theorem dX12_over_18 : decode cX12_over 18 = .ok (.iload_n 1, 1) := by decide +kernel
theorem dX12_over_19 : decode cX12_over 19 = .ok (.laload, 1) := by decide +kernel
theorem dX12_over_20 : decode cX12_over 20 = .ok (.lastore, 1) := by decide +kernel
theorem dX12_over_21 : decode cX12_over 21 = .ok (.iinc 1 1, 3) := by decide +kernel
theorem dX12_over_24 : decode cX12_over 24 = .ok (.goto (-22), 3) := by decide +kernel
theorem dX12_over_27 : decode cX12_over 27 = .ok (.return_, 1) := by decide +kernel
theorem dX12_at_0 : decode cX12_at 0 = .ok (.bipush 6, 2) := by decide +kernel
theorem dX12_at_2 : decode cX12_at 2 = .ok (.bipush 43, 2) := by decide +kernel
theorem dX12_at_4 : decode cX12_at 4 = .ok (.iload_n 0, 1) := by decide +kernel
theorem dX12_at_5 : decode cX12_at 5 = .ok (.imul, 1) := by decide +kernel
theorem dX12_at_6 : decode cX12_at 6 = .ok (.iadd, 1) := by decide +kernel
theorem dX12_at_7 : decode cX12_at 7 = .ok (.ireturn, 1) := by decide +kernel
theorem dX12_isTask_0 : decode cX12_isTask 0 = .ok (.iload_n 1, 1) := by decide +kernel
theorem dX12_isTask_1 : decode cX12_isTask 1 = .ok (.i2l, 1) := by decide +kernel
theorem dX12_isTask_2 : decode cX12_isTask 2 = .ok (.lconst 0, 1) := by decide +kernel
theorem dX12_isTask_3 : decode cX12_isTask 3 = .ok (.aload_n 0, 1) := by decide +kernel
theorem dX12_isTask_4 : decode cX12_isTask 4 = .ok (.getfield 16, 3) := by decide +kernel
theorem dX12_isTask_7 : decode cX12_isTask 7 = .ok (.iconst 0, 1) := by decide +kernel
theorem dX12_isTask_8 : decode cX12_isTask 8 = .ok (.laload, 1) := by decide +kernel
theorem dX12_isTask_9 : decode cX12_isTask 9 = .ok (.lconst 1, 1) := by decide +kernel
theorem dX12_isTask_10 : decode cX12_isTask 10 = .ok (.lsub, 1) := by decide +kernel
theorem dX12_isTask_11 : decode cX12_isTask 11 = .ok (.invokestatic 83, 3) := by decide +kernel
theorem dX12_isTask_14 : decode cX12_isTask 14 = .ok (.ireturn, 1) := by decide +kernel
theorem dX12_heavy_0 : decode cX12_heavy 0 = .ok (.lconst 0, 1) := by decide +kernel
theorem dX12_heavy_1 : decode cX12_heavy 1 = .ok (.lstore_n 1, 1) := by decide +kernel
theorem dX12_heavy_2 : decode cX12_heavy 2 = .ok (.iconst 0, 1) := by decide +kernel
theorem dX12_heavy_3 : decode cX12_heavy 3 = .ok (.istore_n 3, 1) := by decide +kernel
theorem dX12_heavy_4 : decode cX12_heavy 4 = .ok (.iload_n 3, 1) := by decide +kernel
theorem dX12_heavy_5 : decode cX12_heavy 5 = .ok (.i2l, 1) := by decide +kernel
theorem dX12_heavy_6 : decode cX12_heavy 6 = .ok (.aload_n 0, 1) := by decide +kernel
theorem dX12_heavy_7 : decode cX12_heavy 7 = .ok (.getfield 16, 3) := by decide +kernel
theorem dX12_heavy_10 : decode cX12_heavy 10 = .ok (.iconst 0, 1) := by decide +kernel
theorem dX12_heavy_11 : decode cX12_heavy 11 = .ok (.laload, 1) := by decide +kernel
theorem dX12_heavy_12 : decode cX12_heavy 12 = .ok (.lcmp, 1) := by decide +kernel
theorem dX12_heavy_13 : decode cX12_heavy 13 = .ok (.ifCond .ge 29, 3) := by decide +kernel
theorem dX12_heavy_42 : decode cX12_heavy 42 = .ok (.lload_n 1, 1) := by decide +kernel
theorem dX12_heavy_43 : decode cX12_heavy 43 = .ok (.lreturn, 1) := by decide +kernel
theorem dX12_terms_0 : decode cX12_terms 0 = .ok (.aload_n 0, 1) := by decide +kernel
theorem dX12_terms_1 : decode cX12_terms 1 = .ok (.iconst 0, 1) := by decide +kernel
theorem dX12_terms_2 : decode cX12_terms 2 = .ok (.putfield 67, 3) := by decide +kernel
theorem dX12_terms_5 : decode cX12_terms 5 = .ok (.iload_n 1, 1) := by decide +kernel
theorem dX12_terms_6 : decode cX12_terms 6 = .ok (.i2l, 1) := by decide +kernel
theorem dX12_terms_7 : decode cX12_terms 7 = .ok (.lconst 0, 1) := by decide +kernel
theorem dX12_terms_8 : decode cX12_terms 8 = .ok (.ldc2_w 122, 3) := by decide +kernel
theorem dX12_terms_11 : decode cX12_terms 11 = .ok (.invokestatic 83, 3) := by decide +kernel
theorem dX12_terms_14 : decode cX12_terms 14 = .ok (.ifCond .eq 34, 3) := by decide +kernel
theorem dX12_terms_17 : decode cX12_terms 17 = .ok (.iload_n 2, 1) := by decide +kernel
theorem dX12_terms_18 : decode cX12_terms 18 = .ok (.i2l, 1) := by decide +kernel
theorem dX12_terms_19 : decode cX12_terms 19 = .ok (.lconst 0, 1) := by decide +kernel
theorem dX12_terms_20 : decode cX12_terms 20 = .ok (.iload_n 1, 1) := by decide +kernel
theorem dX12_terms_21 : decode cX12_terms 21 = .ok (.ifCond .ne 7, 3) := by decide +kernel
theorem dX12_terms_24 : decode cX12_terms 24 = .ok (.lconst 1, 1) := by decide +kernel
theorem dX12_terms_25 : decode cX12_terms 25 = .ok (.goto 17, 3) := by decide +kernel
theorem dX12_terms_28 : decode cX12_terms 28 = .ok (.iload_n 1, 1) := by decide +kernel
theorem dX12_terms_29 : decode cX12_terms 29 = .ok (.iconst 1, 1) := by decide +kernel
theorem dX12_terms_30 : decode cX12_terms 30 = .ok (.if_icmp .ne 9, 3) := by decide +kernel
theorem dX12_terms_33 : decode cX12_terms 33 = .ok (.ldc2_w 124, 3) := by decide +kernel
theorem dX12_terms_36 : decode cX12_terms 36 = .ok (.goto 6, 3) := by decide +kernel
theorem dX12_terms_39 : decode cX12_terms 39 = .ok (.ldc2_w 126, 3) := by decide +kernel
theorem dX12_terms_42 : decode cX12_terms 42 = .ok (.invokestatic 83, 3) := by decide +kernel
theorem dX12_terms_45 : decode cX12_terms 45 = .ok (.ifCond .ne 9, 3) := by decide +kernel
theorem dX12_terms_48 : decode cX12_terms 48 = .ok (.aload_n 0, 1) := by decide +kernel
theorem dX12_terms_49 : decode cX12_terms 49 = .ok (.iconst (-1), 1) := by decide +kernel
theorem dX12_terms_50 : decode cX12_terms 50 = .ok (.invokevirtual 76, 3) := by decide +kernel
theorem dX12_terms_53 : decode cX12_terms 53 = .ok (.ireturn, 1) := by decide +kernel
theorem dX12_terms_54 : decode cX12_terms 54 = .ok (.aload_n 0, 1) := by decide +kernel
theorem dX12_terms_55 : decode cX12_terms 55 = .ok (.getfield 13, 3) := by decide +kernel
theorem dX12_terms_58 : decode cX12_terms 58 = .ok (.iload_n 1, 1) := by decide +kernel
theorem dX12_terms_59 : decode cX12_terms 59 = .ok (.iaload, 1) := by decide +kernel
theorem dX12_terms_60 : decode cX12_terms 60 = .ok (.istore_n 3, 1) := by decide +kernel
theorem dX12_terms_61 : decode cX12_terms 61 = .ok (.aload_n 0, 1) := by decide +kernel
theorem dX12_terms_62 : decode cX12_terms 62 = .ok (.getfield 13, 3) := by decide +kernel
theorem dX12_terms_65 : decode cX12_terms 65 = .ok (.iload_n 1, 1) := by decide +kernel
theorem dX12_terms_66 : decode cX12_terms 66 = .ok (.iload_n 2, 1) := by decide +kernel
theorem dX12_terms_67 : decode cX12_terms 67 = .ok (.iastore, 1) := by decide +kernel
theorem dX12_terms_68 : decode cX12_terms 68 = .ok (.aload_n 0, 1) := by decide +kernel
theorem dX12_terms_69 : decode cX12_terms 69 = .ok (.iload_n 3, 1) := by decide +kernel
theorem dX12_terms_70 : decode cX12_terms 70 = .ok (.invokevirtual 80, 3) := by decide +kernel
theorem dX12_terms_73 : decode cX12_terms 73 = .ok (.ireturn, 1) := by decide +kernel
theorem dX12_four_0 : decode cX12_four 0 = .ok (.bipush 24, 2) := by decide +kernel
theorem dX12_four_2 : decode cX12_four 2 = .ok (.istore_n 2, 1) := by decide +kernel
theorem dX12_four_3 : decode cX12_four 3 = .ok (.iload_n 2, 1) := by decide +kernel
theorem dX12_four_4 : decode cX12_four 4 = .ok (.ifCond .lt 35, 3) := by decide +kernel
theorem dX12_four_7 : decode cX12_four 7 = .ok (.aload_n 0, 1) := by decide +kernel
theorem dX12_four_8 : decode cX12_four 8 = .ok (.getfield 36, 3) := by decide +kernel
theorem dX12_four_11 : decode cX12_four 11 = .ok (.aload_n 0, 1) := by decide +kernel
theorem dX12_four_12 : decode cX12_four 12 = .ok (.getfield 128, 3) := by decide +kernel
theorem dX12_four_15 : decode cX12_four 15 = .ok (.iload_n 1, 1) := by decide +kernel
theorem dX12_four_16 : decode cX12_four 16 = .ok (.iload_n 2, 1) := by decide +kernel
theorem dX12_four_17 : decode cX12_four 17 = .ok (.ishr, 1) := by decide +kernel
theorem dX12_four_18 : decode cX12_four 18 = .ok (.sipush 255, 3) := by decide +kernel
theorem dX12_four_21 : decode cX12_four 21 = .ok (.iand, 1) := by decide +kernel
theorem dX12_four_22 : decode cX12_four 22 = .ok (.iastore, 1) := by decide +kernel
theorem dX12_four_23 : decode cX12_four 23 = .ok (.aload_n 0, 1) := by decide +kernel
theorem dX12_four_24 : decode cX12_four 24 = .ok (.dup, 1) := by decide +kernel
theorem dX12_four_25 : decode cX12_four 25 = .ok (.getfield 128, 3) := by decide +kernel
theorem dX12_four_28 : decode cX12_four 28 = .ok (.iconst 1, 1) := by decide +kernel
theorem dX12_four_29 : decode cX12_four 29 = .ok (.iadd, 1) := by decide +kernel
theorem dX12_four_30 : decode cX12_four 30 = .ok (.putfield 128, 3) := by decide +kernel
theorem dX12_four_33 : decode cX12_four 33 = .ok (.iinc 2 (-8), 3) := by decide +kernel
theorem dX12_four_36 : decode cX12_four 36 = .ok (.goto (-33), 3) := by decide +kernel
theorem dX12_four_39 : decode cX12_four 39 = .ok (.return_, 1) := by decide +kernel
theorem dX12_feed_0 : decode cX12_feed 0 = .ok (.aload_n 0, 1) := by decide +kernel
theorem dX12_feed_1 : decode cX12_feed 1 = .ok (.iconst 0, 1) := by decide +kernel
theorem dX12_feed_2 : decode cX12_feed 2 = .ok (.putfield 67, 3) := by decide +kernel
theorem dX12_feed_5 : decode cX12_feed 5 = .ok (.aload_n 0, 1) := by decide +kernel
theorem dX12_feed_6 : decode cX12_feed 6 = .ok (.getfield 128, 3) := by decide +kernel
theorem dX12_feed_9 : decode cX12_feed 9 = .ok (.bipush 20, 2) := by decide +kernel
theorem dX12_feed_11 : decode cX12_feed 11 = .ok (.iadd, 1) := by decide +kernel
theorem dX12_feed_12 : decode cX12_feed 12 = .ok (.sipush 200, 3) := by decide +kernel
theorem dX12_feed_15 : decode cX12_feed 15 = .ok (.if_icmp .le 5, 3) := by decide +kernel
theorem dX12_feed_20 : decode cX12_feed 20 = .ok (.aload_n 0, 1) := by decide +kernel
theorem dX12_feed_21 : decode cX12_feed 21 = .ok (.iload_n 1, 1) := by decide +kernel
theorem dX12_feed_22 : decode cX12_feed 22 = .ok (.invokevirtual 131, 3) := by decide +kernel
theorem dX12_feed_25 : decode cX12_feed 25 = .ok (.aload_n 0, 1) := by decide +kernel
theorem dX12_feed_26 : decode cX12_feed 26 = .ok (.iload_n 2, 1) := by decide +kernel
theorem dX12_feed_27 : decode cX12_feed 27 = .ok (.invokevirtual 131, 3) := by decide +kernel
theorem dX12_feed_30 : decode cX12_feed 30 = .ok (.aload_n 0, 1) := by decide +kernel
theorem dX12_feed_31 : decode cX12_feed 31 = .ok (.iload_n 3, 1) := by decide +kernel
theorem dX12_feed_32 : decode cX12_feed 32 = .ok (.invokevirtual 131, 3) := by decide +kernel
theorem dX12_feed_35 : decode cX12_feed 35 = .ok (.aload_n 0, 1) := by decide +kernel
theorem dX12_feed_36 : decode cX12_feed 36 = .ok (.iload 4, 2) := by decide +kernel
theorem dX12_feed_38 : decode cX12_feed 38 = .ok (.invokevirtual 131, 3) := by decide +kernel
theorem dX12_feed_41 : decode cX12_feed 41 = .ok (.aload_n 0, 1) := by decide +kernel
theorem dX12_feed_42 : decode cX12_feed 42 = .ok (.iload 5, 2) := by decide +kernel
theorem dX12_feed_44 : decode cX12_feed 44 = .ok (.invokevirtual 131, 3) := by decide +kernel
theorem dX12_feed_47 : decode cX12_feed 47 = .ok (.aload_n 0, 1) := by decide +kernel
theorem dX12_feed_48 : decode cX12_feed 48 = .ok (.getfield 128, 3) := by decide +kernel
theorem dX12_feed_51 : decode cX12_feed 51 = .ok (.ireturn, 1) := by decide +kernel
theorem dX12_end_0 : decode cX12_end 0 = .ok (.aload_n 0, 1) := by decide +kernel
theorem dX12_end_1 : decode cX12_end 1 = .ok (.iconst 0, 1) := by decide +kernel
theorem dX12_end_2 : decode cX12_end 2 = .ok (.putfield 67, 3) := by decide +kernel
theorem dX12_end_5 : decode cX12_end 5 = .ok (.iload_n 1, 1) := by decide +kernel
theorem dX12_end_6 : decode cX12_end 6 = .ok (.ifCond .lt 11, 3) := by decide +kernel
theorem dX12_end_9 : decode cX12_end 9 = .ok (.iload_n 1, 1) := by decide +kernel
theorem dX12_end_10 : decode cX12_end 10 = .ok (.aload_n 0, 1) := by decide +kernel
theorem dX12_end_11 : decode cX12_end 11 = .ok (.getfield 128, 3) := by decide +kernel
theorem dX12_end_14 : decode cX12_end 14 = .ok (.if_icmp .le 5, 3) := by decide +kernel
theorem dX12_end_17 : decode cX12_end 17 = .ok (.iconst (-1), 1) := by decide +kernel
theorem dX12_end_18 : decode cX12_end 18 = .ok (.ireturn, 1) := by decide +kernel
theorem dX12_end_19 : decode cX12_end 19 = .ok (.aload_n 0, 1) := by decide +kernel
theorem dX12_end_20 : decode cX12_end 20 = .ok (.iload_n 1, 1) := by decide +kernel
theorem dX12_end_21 : decode cX12_end 21 = .ok (.putfield 128, 3) := by decide +kernel
theorem dX12_end_24 : decode cX12_end 24 = .ok (.iload_n 1, 1) := by decide +kernel
theorem dX12_end_25 : decode cX12_end 25 = .ok (.ireturn, 1) := by decide +kernel
theorem dX12_tape_0 : decode cX12_tape 0 = .ok (.aload_n 0, 1) := by decide +kernel
theorem dX12_tape_1 : decode cX12_tape 1 = .ok (.iconst 0, 1) := by decide +kernel
theorem dX12_tape_2 : decode cX12_tape 2 = .ok (.putfield 67, 3) := by decide +kernel
theorem dX12_tape_5 : decode cX12_tape 5 = .ok (.iload_n 1, 1) := by decide +kernel
theorem dX12_tape_6 : decode cX12_tape 6 = .ok (.i2l, 1) := by decide +kernel
theorem dX12_tape_7 : decode cX12_tape 7 = .ok (.lconst 0, 1) := by decide +kernel
theorem dX12_tape_8 : decode cX12_tape 8 = .ok (.aload_n 0, 1) := by decide +kernel
theorem dX12_tape_9 : decode cX12_tape 9 = .ok (.getfield 128, 3) := by decide +kernel
theorem dX12_tape_12 : decode cX12_tape 12 = .ok (.i2l, 1) := by decide +kernel
theorem dX12_tape_13 : decode cX12_tape 13 = .ok (.lconst 1, 1) := by decide +kernel
theorem dX12_tape_14 : decode cX12_tape 14 = .ok (.lsub, 1) := by decide +kernel
theorem dX12_tape_15 : decode cX12_tape 15 = .ok (.invokestatic 83, 3) := by decide +kernel
theorem dX12_tape_18 : decode cX12_tape 18 = .ok (.ifCond .eq 12, 3) := by decide +kernel
theorem dX12_tape_30 : decode cX12_tape 30 = .ok (.iconst (-1), 1) := by decide +kernel
theorem dX12_tape_31 : decode cX12_tape 31 = .ok (.ireturn, 1) := by decide +kernel
theorem dX12_task_0 : decode cX12_task 0 = .ok (.aload_n 0, 1) := by decide +kernel
theorem dX12_task_1 : decode cX12_task 1 = .ok (.iconst 0, 1) := by decide +kernel
theorem dX12_task_2 : decode cX12_task 2 = .ok (.putfield 67, 3) := by decide +kernel
theorem dX12_task_5 : decode cX12_task 5 = .ok (.iload_n 1, 1) := by decide +kernel
theorem dX12_task_6 : decode cX12_task 6 = .ok (.i2l, 1) := by decide +kernel
theorem dX12_task_7 : decode cX12_task 7 = .ok (.lconst 1, 1) := by decide +kernel
theorem dX12_task_8 : decode cX12_task 8 = .ok (.ldc2_w 135, 3) := by decide +kernel
theorem dX12_task_11 : decode cX12_task 11 = .ok (.invokestatic 83, 3) := by decide +kernel
theorem dX12_task_14 : decode cX12_task 14 = .ok (.ifCond .eq 15, 3) := by decide +kernel
theorem dX12_task_17 : decode cX12_task 17 = .ok (.iload_n 2, 1) := by decide +kernel
theorem dX12_task_18 : decode cX12_task 18 = .ok (.i2l, 1) := by decide +kernel
theorem dX12_task_19 : decode cX12_task 19 = .ok (.lconst 1, 1) := by decide +kernel
theorem dX12_task_20 : decode cX12_task 20 = .ok (.ldc2_w 137, 3) := by decide +kernel
theorem dX12_task_23 : decode cX12_task 23 = .ok (.invokestatic 83, 3) := by decide +kernel
theorem dX12_task_26 : decode cX12_task 26 = .ok (.ifCond .ne 9, 3) := by decide +kernel
theorem dX12_task_29 : decode cX12_task 29 = .ok (.aload_n 0, 1) := by decide +kernel
theorem dX12_task_30 : decode cX12_task 30 = .ok (.iconst (-1), 1) := by decide +kernel
theorem dX12_task_31 : decode cX12_task 31 = .ok (.invokevirtual 76, 3) := by decide +kernel
theorem dX12_task_34 : decode cX12_task 34 = .ok (.ireturn, 1) := by decide +kernel
theorem dX12_task_35 : decode cX12_task 35 = .ok (.aload_n 0, 1) := by decide +kernel
theorem dX12_task_36 : decode cX12_task 36 = .ok (.getfield 16, 3) := by decide +kernel
theorem dX12_task_39 : decode cX12_task 39 = .ok (.iconst 0, 1) := by decide +kernel
theorem dX12_task_40 : decode cX12_task 40 = .ok (.laload, 1) := by decide +kernel
theorem dX12_task_41 : decode cX12_task 41 = .ok (.l2i, 1) := by decide +kernel
theorem dX12_task_42 : decode cX12_task 42 = .ok (.istore_n 3, 1) := by decide +kernel
theorem dX12_task_43 : decode cX12_task 43 = .ok (.iload_n 3, 1) := by decide +kernel
theorem dX12_task_44 : decode cX12_task 44 = .ok (.bipush 12, 2) := by decide +kernel
theorem dX12_task_46 : decode cX12_task 46 = .ok (.if_icmp .ne 10, 3) := by decide +kernel
theorem dX12_task_56 : decode cX12_task 56 = .ok (.aload_n 0, 1) := by decide +kernel
theorem dX12_task_57 : decode cX12_task 57 = .ok (.iconst 0, 1) := by decide +kernel
theorem dX12_task_58 : decode cX12_task 58 = .ok (.invokevirtual 139, 3) := by decide +kernel
theorem dX12_task_61 : decode cX12_task 61 = .ok (.iconst 0, 1) := by decide +kernel
theorem dX12_task_62 : decode cX12_task 62 = .ok (.istore 4, 2) := by decide +kernel
theorem dX12_task_64 : decode cX12_task 64 = .ok (.iload 4, 2) := by decide +kernel
theorem dX12_task_66 : decode cX12_task 66 = .ok (.bipush 43, 2) := by decide +kernel
theorem dX12_task_68 : decode cX12_task 68 = .ok (.if_icmp .ge 22, 3) := by decide +kernel
theorem dX12_task_71 : decode cX12_task 71 = .ok (.aload_n 0, 1) := by decide +kernel
theorem dX12_task_72 : decode cX12_task 72 = .ok (.getfield 16, 3) := by decide +kernel
theorem dX12_task_75 : decode cX12_task 75 = .ok (.iload_n 3, 1) := by decide +kernel
theorem dX12_task_76 : decode cX12_task 76 = .ok (.invokestatic 87, 3) := by decide +kernel
theorem dX12_task_79 : decode cX12_task 79 = .ok (.iload 4, 2) := by decide +kernel
theorem dX12_task_81 : decode cX12_task 81 = .ok (.iadd, 1) := by decide +kernel
theorem dX12_task_82 : decode cX12_task 82 = .ok (.lconst 0, 1) := by decide +kernel
theorem dX12_task_83 : decode cX12_task 83 = .ok (.lastore, 1) := by decide +kernel
theorem dX12_task_84 : decode cX12_task 84 = .ok (.iinc 4 1, 3) := by decide +kernel
theorem dX12_task_87 : decode cX12_task 87 = .ok (.goto (-23), 3) := by decide +kernel
theorem dX12_task_90 : decode cX12_task 90 = .ok (.aload_n 0, 1) := by decide +kernel
theorem dX12_task_91 : decode cX12_task 91 = .ok (.getfield 16, 3) := by decide +kernel
theorem dX12_task_94 : decode cX12_task 94 = .ok (.iload_n 3, 1) := by decide +kernel
theorem dX12_task_95 : decode cX12_task 95 = .ok (.invokestatic 87, 3) := by decide +kernel
theorem dX12_task_98 : decode cX12_task 98 = .ok (.iconst 0, 1) := by decide +kernel
theorem dX12_task_99 : decode cX12_task 99 = .ok (.iadd, 1) := by decide +kernel
theorem dX12_task_100 : decode cX12_task 100 = .ok (.iload_n 1, 1) := by decide +kernel
theorem dX12_task_101 : decode cX12_task 101 = .ok (.i2l, 1) := by decide +kernel
theorem dX12_task_102 : decode cX12_task 102 = .ok (.lastore, 1) := by decide +kernel
theorem dX12_task_103 : decode cX12_task 103 = .ok (.aload_n 0, 1) := by decide +kernel
theorem dX12_task_104 : decode cX12_task 104 = .ok (.getfield 16, 3) := by decide +kernel
theorem dX12_task_107 : decode cX12_task 107 = .ok (.iload_n 3, 1) := by decide +kernel
theorem dX12_task_108 : decode cX12_task 108 = .ok (.invokestatic 87, 3) := by decide +kernel
theorem dX12_task_111 : decode cX12_task 111 = .ok (.iconst 1, 1) := by decide +kernel
theorem dX12_task_112 : decode cX12_task 112 = .ok (.iadd, 1) := by decide +kernel
theorem dX12_task_113 : decode cX12_task 113 = .ok (.iload_n 2, 1) := by decide +kernel
theorem dX12_task_114 : decode cX12_task 114 = .ok (.i2l, 1) := by decide +kernel
theorem dX12_task_115 : decode cX12_task 115 = .ok (.lastore, 1) := by decide +kernel
theorem dX12_task_116 : decode cX12_task 116 = .ok (.aload_n 0, 1) := by decide +kernel
theorem dX12_task_117 : decode cX12_task 117 = .ok (.getfield 16, 3) := by decide +kernel
theorem dX12_task_120 : decode cX12_task 120 = .ok (.iconst 0, 1) := by decide +kernel
theorem dX12_task_121 : decode cX12_task 121 = .ok (.dup2, 1) := by decide +kernel
theorem dX12_task_122 : decode cX12_task 122 = .ok (.laload, 1) := by decide +kernel
theorem dX12_task_123 : decode cX12_task 123 = .ok (.lconst 1, 1) := by decide +kernel
theorem dX12_task_124 : decode cX12_task 124 = .ok (.ladd, 1) := by decide +kernel
theorem dX12_task_125 : decode cX12_task 125 = .ok (.lastore, 1) := by decide +kernel
theorem dX12_task_126 : decode cX12_task 126 = .ok (.aload_n 0, 1) := by decide +kernel
theorem dX12_task_127 : decode cX12_task 127 = .ok (.iload_n 3, 1) := by decide +kernel
theorem dX12_task_128 : decode cX12_task 128 = .ok (.invokevirtual 80, 3) := by decide +kernel
theorem dX12_task_131 : decode cX12_task 131 = .ok (.ireturn, 1) := by decide +kernel
theorem dX12_join_0 : decode cX12_join 0 = .ok (.aload_n 0, 1) := by decide +kernel
theorem dX12_join_1 : decode cX12_join 1 = .ok (.iconst 0, 1) := by decide +kernel
theorem dX12_join_2 : decode cX12_join 2 = .ok (.putfield 67, 3) := by decide +kernel
theorem dX12_join_5 : decode cX12_join 5 = .ok (.aload_n 0, 1) := by decide +kernel
theorem dX12_join_6 : decode cX12_join 6 = .ok (.iload_n 1, 1) := by decide +kernel
theorem dX12_join_7 : decode cX12_join 7 = .ok (.invokevirtual 142, 3) := by decide +kernel
theorem dX12_join_10 : decode cX12_join 10 = .ok (.ifCond .ne 10, 3) := by decide +kernel
theorem dX12_join_13 : decode cX12_join 13 = .ok (.aload_n 0, 1) := by decide +kernel
theorem dX12_join_14 : decode cX12_join 14 = .ok (.bipush (-2), 2) := by decide +kernel
theorem dX12_join_16 : decode cX12_join 16 = .ok (.invokevirtual 76, 3) := by decide +kernel
theorem dX12_join_19 : decode cX12_join 19 = .ok (.ireturn, 1) := by decide +kernel
theorem dX12_leave_0 : decode cX12_leave 0 = .ok (.aload_n 0, 1) := by decide +kernel
theorem dX12_leave_1 : decode cX12_leave 1 = .ok (.iconst 0, 1) := by decide +kernel
theorem dX12_leave_2 : decode cX12_leave 2 = .ok (.putfield 67, 3) := by decide +kernel
theorem dX12_leave_5 : decode cX12_leave 5 = .ok (.aload_n 0, 1) := by decide +kernel
theorem dX12_leave_6 : decode cX12_leave 6 = .ok (.iload_n 1, 1) := by decide +kernel
theorem dX12_leave_7 : decode cX12_leave 7 = .ok (.invokevirtual 142, 3) := by decide +kernel
theorem dX12_leave_10 : decode cX12_leave 10 = .ok (.ifCond .ne 10, 3) := by decide +kernel
theorem dX12_leave_13 : decode cX12_leave 13 = .ok (.aload_n 0, 1) := by decide +kernel
theorem dX12_leave_14 : decode cX12_leave 14 = .ok (.bipush (-2), 2) := by decide +kernel
theorem dX12_leave_16 : decode cX12_leave 16 = .ok (.invokevirtual 76, 3) := by decide +kernel
theorem dX12_leave_19 : decode cX12_leave 19 = .ok (.ireturn, 1) := by decide +kernel
theorem dX12_weigh_0 : decode cX12_weigh 0 = .ok (.aload_n 0, 1) := by decide +kernel
theorem dX12_weigh_1 : decode cX12_weigh 1 = .ok (.iconst 0, 1) := by decide +kernel
theorem dX12_weigh_2 : decode cX12_weigh 2 = .ok (.putfield 67, 3) := by decide +kernel
theorem dX12_weigh_5 : decode cX12_weigh 5 = .ok (.iload_n 2, 1) := by decide +kernel
theorem dX12_weigh_6 : decode cX12_weigh 6 = .ok (.i2l, 1) := by decide +kernel
theorem dX12_weigh_7 : decode cX12_weigh 7 = .ok (.lconst 1, 1) := by decide +kernel
theorem dX12_weigh_8 : decode cX12_weigh 8 = .ok (.ldc2_w 135, 3) := by decide +kernel
theorem dX12_weigh_11 : decode cX12_weigh 11 = .ok (.invokestatic 83, 3) := by decide +kernel
theorem dX12_weigh_14 : decode cX12_weigh 14 = .ok (.ifCond .ne 9, 3) := by decide +kernel
theorem dX12_weigh_17 : decode cX12_weigh 17 = .ok (.aload_n 0, 1) := by decide +kernel
theorem dX12_weigh_18 : decode cX12_weigh 18 = .ok (.iconst (-1), 1) := by decide +kernel
theorem dX12_weigh_19 : decode cX12_weigh 19 = .ok (.invokevirtual 76, 3) := by decide +kernel
theorem dX12_weigh_22 : decode cX12_weigh 22 = .ok (.ireturn, 1) := by decide +kernel
theorem dX12_weigh_23 : decode cX12_weigh 23 = .ok (.aload_n 0, 1) := by decide +kernel
theorem dX12_weigh_24 : decode cX12_weigh 24 = .ok (.iload_n 1, 1) := by decide +kernel
theorem dX12_weigh_25 : decode cX12_weigh 25 = .ok (.invokevirtual 142, 3) := by decide +kernel
theorem dX12_weigh_28 : decode cX12_weigh 28 = .ok (.ifCond .ne 10, 3) := by decide +kernel
theorem dX12_weigh_31 : decode cX12_weigh 31 = .ok (.aload_n 0, 1) := by decide +kernel
theorem dX12_weigh_32 : decode cX12_weigh 32 = .ok (.bipush (-2), 2) := by decide +kernel
theorem dX12_weigh_34 : decode cX12_weigh 34 = .ok (.invokevirtual 76, 3) := by decide +kernel
theorem dX12_weigh_37 : decode cX12_weigh 37 = .ok (.ireturn, 1) := by decide +kernel
theorem dX12_slice_0 : decode cX12_slice 0 = .ok (.aload_n 0, 1) := by decide +kernel
theorem dX12_slice_1 : decode cX12_slice 1 = .ok (.iconst 0, 1) := by decide +kernel
theorem dX12_slice_2 : decode cX12_slice 2 = .ok (.putfield 67, 3) := by decide +kernel
theorem dX12_slice_5 : decode cX12_slice 5 = .ok (.iload_n 2, 1) := by decide +kernel
theorem dX12_slice_6 : decode cX12_slice 6 = .ok (.i2l, 1) := by decide +kernel
theorem dX12_slice_7 : decode cX12_slice 7 = .ok (.lconst 1, 1) := by decide +kernel
theorem dX12_slice_8 : decode cX12_slice 8 = .ok (.ldc2_w 137, 3) := by decide +kernel
theorem dX12_slice_11 : decode cX12_slice 11 = .ok (.invokestatic 83, 3) := by decide +kernel
theorem dX12_slice_14 : decode cX12_slice 14 = .ok (.ifCond .ne 9, 3) := by decide +kernel
theorem dX12_slice_17 : decode cX12_slice 17 = .ok (.aload_n 0, 1) := by decide +kernel
theorem dX12_slice_18 : decode cX12_slice 18 = .ok (.iconst (-1), 1) := by decide +kernel
theorem dX12_slice_19 : decode cX12_slice 19 = .ok (.invokevirtual 76, 3) := by decide +kernel
theorem dX12_slice_22 : decode cX12_slice 22 = .ok (.ireturn, 1) := by decide +kernel
theorem dX12_slice_23 : decode cX12_slice 23 = .ok (.aload_n 0, 1) := by decide +kernel
theorem dX12_slice_24 : decode cX12_slice 24 = .ok (.iload_n 1, 1) := by decide +kernel
theorem dX12_slice_25 : decode cX12_slice 25 = .ok (.invokevirtual 142, 3) := by decide +kernel
theorem dX12_slice_28 : decode cX12_slice 28 = .ok (.ifCond .ne 10, 3) := by decide +kernel
theorem dX12_slice_31 : decode cX12_slice 31 = .ok (.aload_n 0, 1) := by decide +kernel
theorem dX12_slice_32 : decode cX12_slice 32 = .ok (.bipush (-2), 2) := by decide +kernel
theorem dX12_slice_34 : decode cX12_slice 34 = .ok (.invokevirtual 76, 3) := by decide +kernel
theorem dX12_slice_37 : decode cX12_slice 37 = .ok (.ireturn, 1) := by decide +kernel
theorem dX12_wish_0 : decode cX12_wish 0 = .ok (.aload_n 0, 1) := by decide +kernel
theorem dX12_wish_1 : decode cX12_wish 1 = .ok (.iconst 0, 1) := by decide +kernel
theorem dX12_wish_2 : decode cX12_wish 2 = .ok (.putfield 67, 3) := by decide +kernel
theorem dX12_wish_5 : decode cX12_wish 5 = .ok (.iload_n 2, 1) := by decide +kernel
theorem dX12_wish_6 : decode cX12_wish 6 = .ok (.i2l, 1) := by decide +kernel
theorem dX12_wish_7 : decode cX12_wish 7 = .ok (.lconst 1, 1) := by decide +kernel
theorem dX12_wish_8 : decode cX12_wish 8 = .ok (.ldc2_w 165, 3) := by decide +kernel
theorem dX12_wish_11 : decode cX12_wish 11 = .ok (.invokestatic 83, 3) := by decide +kernel
theorem dX12_wish_14 : decode cX12_wish 14 = .ok (.ifCond .ne 9, 3) := by decide +kernel
theorem dX12_wish_17 : decode cX12_wish 17 = .ok (.aload_n 0, 1) := by decide +kernel
theorem dX12_wish_18 : decode cX12_wish 18 = .ok (.iconst (-1), 1) := by decide +kernel
theorem dX12_wish_19 : decode cX12_wish 19 = .ok (.invokevirtual 76, 3) := by decide +kernel
theorem dX12_wish_22 : decode cX12_wish 22 = .ok (.ireturn, 1) := by decide +kernel
theorem dX12_wish_23 : decode cX12_wish 23 = .ok (.aload_n 0, 1) := by decide +kernel
theorem dX12_wish_24 : decode cX12_wish 24 = .ok (.iload_n 1, 1) := by decide +kernel
theorem dX12_wish_25 : decode cX12_wish 25 = .ok (.invokevirtual 142, 3) := by decide +kernel
theorem dX12_wish_28 : decode cX12_wish 28 = .ok (.ifCond .ne 10, 3) := by decide +kernel
theorem dX12_wish_31 : decode cX12_wish 31 = .ok (.aload_n 0, 1) := by decide +kernel
theorem dX12_wish_32 : decode cX12_wish 32 = .ok (.bipush (-2), 2) := by decide +kernel
theorem dX12_wish_34 : decode cX12_wish 34 = .ok (.invokevirtual 76, 3) := by decide +kernel
theorem dX12_wish_37 : decode cX12_wish 37 = .ok (.ireturn, 1) := by decide +kernel
theorem dX12_yields_0 : decode cX12_yields 0 = .ok (.aload_n 0, 1) := by decide +kernel
theorem dX12_yields_1 : decode cX12_yields 1 = .ok (.iconst 0, 1) := by decide +kernel
theorem dX12_yields_2 : decode cX12_yields 2 = .ok (.putfield 67, 3) := by decide +kernel
theorem dX12_yields_5 : decode cX12_yields 5 = .ok (.aload_n 0, 1) := by decide +kernel
theorem dX12_yields_6 : decode cX12_yields 6 = .ok (.iload_n 1, 1) := by decide +kernel
theorem dX12_yields_7 : decode cX12_yields 7 = .ok (.invokevirtual 142, 3) := by decide +kernel
theorem dX12_yields_10 : decode cX12_yields 10 = .ok (.ifCond .ne 10, 3) := by decide +kernel
theorem dX12_yields_13 : decode cX12_yields 13 = .ok (.aload_n 0, 1) := by decide +kernel
theorem dX12_yields_14 : decode cX12_yields 14 = .ok (.bipush (-2), 2) := by decide +kernel
theorem dX12_yields_16 : decode cX12_yields 16 = .ok (.invokevirtual 76, 3) := by decide +kernel
theorem dX12_yields_19 : decode cX12_yields 19 = .ok (.ireturn, 1) := by decide +kernel
theorem dX12_quota_0 : decode cX12_quota 0 = .ok (.aload_n 0, 1) := by decide +kernel
theorem dX12_quota_1 : decode cX12_quota 1 = .ok (.iconst 0, 1) := by decide +kernel
theorem dX12_quota_2 : decode cX12_quota 2 = .ok (.putfield 67, 3) := by decide +kernel
theorem dX12_quota_5 : decode cX12_quota 5 = .ok (.iload_n 2, 1) := by decide +kernel
theorem dX12_quota_6 : decode cX12_quota 6 = .ok (.i2l, 1) := by decide +kernel
theorem dX12_quota_7 : decode cX12_quota 7 = .ok (.lconst 0, 1) := by decide +kernel
theorem dX12_quota_8 : decode cX12_quota 8 = .ok (.ldc2_w 170, 3) := by decide +kernel
theorem dX12_quota_11 : decode cX12_quota 11 = .ok (.invokestatic 83, 3) := by decide +kernel
theorem dX12_quota_14 : decode cX12_quota 14 = .ok (.ifCond .eq 22, 3) := by decide +kernel
theorem dX12_quota_17 : decode cX12_quota 17 = .ok (.iload_n 2, 1) := by decide +kernel
theorem dX12_quota_18 : decode cX12_quota 18 = .ok (.ifCond .le 24, 3) := by decide +kernel
theorem dX12_quota_21 : decode cX12_quota 21 = .ok (.iload_n 3, 1) := by decide +kernel
theorem dX12_quota_22 : decode cX12_quota 22 = .ok (.i2l, 1) := by decide +kernel
theorem dX12_quota_23 : decode cX12_quota 23 = .ok (.iload_n 2, 1) := by decide +kernel
theorem dX12_quota_24 : decode cX12_quota 24 = .ok (.i2l, 1) := by decide +kernel
theorem dX12_quota_25 : decode cX12_quota 25 = .ok (.lconst 1, 1) := by decide +kernel
theorem dX12_quota_26 : decode cX12_quota 26 = .ok (.ladd, 1) := by decide +kernel
theorem dX12_quota_27 : decode cX12_quota 27 = .ok (.ldc2_w 172, 3) := by decide +kernel
theorem dX12_quota_30 : decode cX12_quota 30 = .ok (.invokestatic 83, 3) := by decide +kernel
theorem dX12_quota_33 : decode cX12_quota 33 = .ok (.ifCond .ne 9, 3) := by decide +kernel
theorem dX12_quota_36 : decode cX12_quota 36 = .ok (.aload_n 0, 1) := by decide +kernel
theorem dX12_quota_37 : decode cX12_quota 37 = .ok (.iconst (-1), 1) := by decide +kernel
theorem dX12_quota_38 : decode cX12_quota 38 = .ok (.invokevirtual 76, 3) := by decide +kernel
theorem dX12_quota_41 : decode cX12_quota 41 = .ok (.ireturn, 1) := by decide +kernel
theorem dX12_quota_42 : decode cX12_quota 42 = .ok (.aload_n 0, 1) := by decide +kernel
theorem dX12_quota_43 : decode cX12_quota 43 = .ok (.iload_n 1, 1) := by decide +kernel
theorem dX12_quota_44 : decode cX12_quota 44 = .ok (.invokevirtual 142, 3) := by decide +kernel
theorem dX12_quota_47 : decode cX12_quota 47 = .ok (.ifCond .ne 10, 3) := by decide +kernel
theorem dX12_quota_50 : decode cX12_quota 50 = .ok (.aload_n 0, 1) := by decide +kernel
theorem dX12_quota_51 : decode cX12_quota 51 = .ok (.bipush (-2), 2) := by decide +kernel
theorem dX12_quota_53 : decode cX12_quota 53 = .ok (.invokevirtual 76, 3) := by decide +kernel
theorem dX12_quota_56 : decode cX12_quota 56 = .ok (.ireturn, 1) := by decide +kernel
theorem dX12_image_0 : decode cX12_image 0 = .ok (.aload_n 0, 1) := by decide +kernel
theorem dX12_image_1 : decode cX12_image 1 = .ok (.iconst 0, 1) := by decide +kernel
theorem dX12_image_2 : decode cX12_image 2 = .ok (.putfield 67, 3) := by decide +kernel
theorem dX12_image_5 : decode cX12_image 5 = .ok (.iload_n 1, 1) := by decide +kernel
theorem dX12_image_6 : decode cX12_image 6 = .ok (.i2l, 1) := by decide +kernel
theorem dX12_image_7 : decode cX12_image 7 = .ok (.lconst 0, 1) := by decide +kernel
theorem dX12_image_8 : decode cX12_image 8 = .ok (.lconst 1, 1) := by decide +kernel
theorem dX12_image_9 : decode cX12_image 9 = .ok (.invokestatic 83, 3) := by decide +kernel
theorem dX12_image_12 : decode cX12_image 12 = .ok (.ifCond .ne 9, 3) := by decide +kernel
theorem dX12_image_15 : decode cX12_image 15 = .ok (.aload_n 0, 1) := by decide +kernel
theorem dX12_image_16 : decode cX12_image 16 = .ok (.iconst (-1), 1) := by decide +kernel
theorem dX12_image_17 : decode cX12_image 17 = .ok (.invokevirtual 76, 3) := by decide +kernel
theorem dX12_image_20 : decode cX12_image 20 = .ok (.ireturn, 1) := by decide +kernel
theorem dX12_image_21 : decode cX12_image 21 = .ok (.iconst 0, 1) := by decide +kernel
theorem dX12_image_22 : decode cX12_image 22 = .ok (.istore_n 2, 1) := by decide +kernel
theorem dX12_image_23 : decode cX12_image 23 = .ok (.iload_n 2, 1) := by decide +kernel
theorem dX12_image_24 : decode cX12_image 24 = .ok (.sipush 906, 3) := by decide +kernel
theorem dX12_image_27 : decode cX12_image 27 = .ok (.if_icmp .ge 27, 3) := by decide +kernel
theorem dX12_image_30 : decode cX12_image 30 = .ok (.aload_n 0, 1) := by decide +kernel
theorem dX12_image_31 : decode cX12_image 31 = .ok (.getfield 26, 3) := by decide +kernel
theorem dX12_image_34 : decode cX12_image 34 = .ok (.sipush 906, 3) := by decide +kernel
theorem dX12_image_37 : decode cX12_image 37 = .ok (.iload_n 1, 1) := by decide +kernel
theorem dX12_image_38 : decode cX12_image 38 = .ok (.imul, 1) := by decide +kernel
theorem dX12_image_39 : decode cX12_image 39 = .ok (.iload_n 2, 1) := by decide +kernel
theorem dX12_image_40 : decode cX12_image 40 = .ok (.iadd, 1) := by decide +kernel
theorem dX12_image_41 : decode cX12_image 41 = .ok (.aload_n 0, 1) := by decide +kernel
theorem dX12_image_42 : decode cX12_image 42 = .ok (.getfield 16, 3) := by decide +kernel
theorem dX12_image_45 : decode cX12_image 45 = .ok (.iload_n 2, 1) := by decide +kernel
theorem dX12_image_46 : decode cX12_image 46 = .ok (.laload, 1) := by decide +kernel
theorem dX12_image_47 : decode cX12_image 47 = .ok (.lastore, 1) := by decide +kernel
theorem dX12_image_48 : decode cX12_image 48 = .ok (.iinc 2 1, 3) := by decide +kernel
theorem dX12_image_51 : decode cX12_image 51 = .ok (.goto (-28), 3) := by decide +kernel
theorem dX12_image_54 : decode cX12_image 54 = .ok (.aload_n 0, 1) := by decide +kernel
theorem dX12_image_55 : decode cX12_image 55 = .ok (.getfield 29, 3) := by decide +kernel
theorem dX12_image_58 : decode cX12_image 58 = .ok (.iload_n 1, 1) := by decide +kernel
theorem dX12_image_59 : decode cX12_image 59 = .ok (.iconst 1, 1) := by decide +kernel
theorem dX12_image_60 : decode cX12_image 60 = .ok (.bastore, 1) := by decide +kernel
theorem dX12_image_61 : decode cX12_image 61 = .ok (.aload_n 0, 1) := by decide +kernel
theorem dX12_image_62 : decode cX12_image 62 = .ok (.aload_n 0, 1) := by decide +kernel
theorem dX12_image_63 : decode cX12_image 63 = .ok (.getfield 16, 3) := by decide +kernel
theorem dX12_image_66 : decode cX12_image 66 = .ok (.iconst 1, 1) := by decide +kernel
theorem dX12_image_67 : decode cX12_image 67 = .ok (.laload, 1) := by decide +kernel
theorem dX12_image_68 : decode cX12_image 68 = .ok (.l2i, 1) := by decide +kernel
theorem dX12_image_69 : decode cX12_image 69 = .ok (.invokevirtual 80, 3) := by decide +kernel
theorem dX12_image_72 : decode cX12_image 72 = .ok (.ireturn, 1) := by decide +kernel
theorem dX12_back_0 : decode cX12_back 0 = .ok (.aload_n 0, 1) := by decide +kernel
theorem dX12_back_1 : decode cX12_back 1 = .ok (.iconst 0, 1) := by decide +kernel
theorem dX12_back_2 : decode cX12_back 2 = .ok (.putfield 67, 3) := by decide +kernel
theorem dX12_back_5 : decode cX12_back 5 = .ok (.iload_n 1, 1) := by decide +kernel
theorem dX12_back_6 : decode cX12_back 6 = .ok (.i2l, 1) := by decide +kernel
theorem dX12_back_7 : decode cX12_back 7 = .ok (.lconst 0, 1) := by decide +kernel
theorem dX12_back_8 : decode cX12_back 8 = .ok (.lconst 1, 1) := by decide +kernel
theorem dX12_back_9 : decode cX12_back 9 = .ok (.invokestatic 83, 3) := by decide +kernel
theorem dX12_back_12 : decode cX12_back 12 = .ok (.ifCond .ne 9, 3) := by decide +kernel
theorem dX12_back_15 : decode cX12_back 15 = .ok (.aload_n 0, 1) := by decide +kernel
theorem dX12_back_16 : decode cX12_back 16 = .ok (.iconst (-1), 1) := by decide +kernel
theorem dX12_back_17 : decode cX12_back 17 = .ok (.invokevirtual 76, 3) := by decide +kernel
theorem dX12_back_20 : decode cX12_back 20 = .ok (.ireturn, 1) := by decide +kernel
theorem dX12_back_21 : decode cX12_back 21 = .ok (.aload_n 0, 1) := by decide +kernel
theorem dX12_back_22 : decode cX12_back 22 = .ok (.getfield 29, 3) := by decide +kernel
theorem dX12_back_25 : decode cX12_back 25 = .ok (.iload_n 1, 1) := by decide +kernel
theorem dX12_back_26 : decode cX12_back 26 = .ok (.baload, 1) := by decide +kernel
theorem dX12_back_27 : decode cX12_back 27 = .ok (.ifCond .ne 10, 3) := by decide +kernel
theorem dX12_back_30 : decode cX12_back 30 = .ok (.aload_n 0, 1) := by decide +kernel
theorem dX12_back_31 : decode cX12_back 31 = .ok (.bipush (-4), 2) := by decide +kernel
theorem dX12_back_33 : decode cX12_back 33 = .ok (.invokevirtual 76, 3) := by decide +kernel
theorem dX12_back_36 : decode cX12_back 36 = .ok (.ireturn, 1) := by decide +kernel
theorem dX12_script_0 : decode cX12_script 0 = .ok (.aload_n 0, 1) := by decide +kernel
theorem dX12_script_1 : decode cX12_script 1 = .ok (.iconst 0, 1) := by decide +kernel
theorem dX12_script_2 : decode cX12_script 2 = .ok (.putfield 67, 3) := by decide +kernel
theorem dX12_script_5 : decode cX12_script 5 = .ok (.aload_n 0, 1) := by decide +kernel
theorem dX12_script_6 : decode cX12_script 6 = .ok (.iload_n 1, 1) := by decide +kernel
theorem dX12_script_7 : decode cX12_script 7 = .ok (.invokevirtual 142, 3) := by decide +kernel
theorem dX12_script_10 : decode cX12_script 10 = .ok (.ifCond .ne 10, 3) := by decide +kernel
theorem dX12_script_13 : decode cX12_script 13 = .ok (.aload_n 0, 1) := by decide +kernel
theorem dX12_script_14 : decode cX12_script 14 = .ok (.bipush (-2), 2) := by decide +kernel
theorem dX12_script_16 : decode cX12_script 16 = .ok (.invokevirtual 76, 3) := by decide +kernel
theorem dX12_script_19 : decode cX12_script 19 = .ok (.ireturn, 1) := by decide +kernel
theorem dX12_listing_0 : decode cX12_listing 0 = .ok (.aload_n 0, 1) := by decide +kernel
theorem dX12_listing_1 : decode cX12_listing 1 = .ok (.iconst 0, 1) := by decide +kernel
theorem dX12_listing_2 : decode cX12_listing 2 = .ok (.putfield 67, 3) := by decide +kernel
theorem dX12_listing_5 : decode cX12_listing 5 = .ok (.aload_n 0, 1) := by decide +kernel
theorem dX12_listing_6 : decode cX12_listing 6 = .ok (.iload_n 1, 1) := by decide +kernel
theorem dX12_listing_7 : decode cX12_listing 7 = .ok (.invokevirtual 142, 3) := by decide +kernel
theorem dX12_listing_10 : decode cX12_listing 10 = .ok (.ifCond .ne 10, 3) := by decide +kernel
theorem dX12_listing_13 : decode cX12_listing 13 = .ok (.aload_n 0, 1) := by decide +kernel
theorem dX12_listing_14 : decode cX12_listing 14 = .ok (.bipush (-2), 2) := by decide +kernel
theorem dX12_listing_16 : decode cX12_listing 16 = .ok (.invokevirtual 76, 3) := by decide +kernel
theorem dX12_listing_19 : decode cX12_listing 19 = .ok (.ireturn, 1) := by decide +kernel
theorem dX12_fault_0 : decode cX12_fault 0 = .ok (.aload_n 0, 1) := by decide +kernel
theorem dX12_fault_1 : decode cX12_fault 1 = .ok (.iconst 0, 1) := by decide +kernel
theorem dX12_fault_2 : decode cX12_fault 2 = .ok (.putfield 67, 3) := by decide +kernel
theorem dX12_fault_5 : decode cX12_fault 5 = .ok (.aload_n 0, 1) := by decide +kernel
theorem dX12_fault_6 : decode cX12_fault 6 = .ok (.getfield 39, 3) := by decide +kernel
theorem dX12_fault_9 : decode cX12_fault 9 = .ok (.ireturn, 1) := by decide +kernel
theorem dX12_byDeadline_0 : decode cX12_byDeadline 0 = .ok (.iconst (-1), 1) := by decide +kernel
theorem dX12_byDeadline_1 : decode cX12_byDeadline 1 = .ok (.istore_n 2, 1) := by decide +kernel
theorem dX12_byDeadline_2 : decode cX12_byDeadline 2 = .ok (.iconst 0, 1) := by decide +kernel
theorem dX12_byDeadline_3 : decode cX12_byDeadline 3 = .ok (.istore_n 3, 1) := by decide +kernel
theorem dX12_byDeadline_4 : decode cX12_byDeadline 4 = .ok (.iload_n 3, 1) := by decide +kernel
theorem dX12_byDeadline_5 : decode cX12_byDeadline 5 = .ok (.i2l, 1) := by decide +kernel
theorem dX12_byDeadline_6 : decode cX12_byDeadline 6 = .ok (.aload_n 0, 1) := by decide +kernel
theorem dX12_byDeadline_7 : decode cX12_byDeadline 7 = .ok (.getfield 16, 3) := by decide +kernel
theorem dX12_byDeadline_10 : decode cX12_byDeadline 10 = .ok (.iconst 0, 1) := by decide +kernel
theorem dX12_byDeadline_11 : decode cX12_byDeadline 11 = .ok (.laload, 1) := by decide +kernel
theorem dX12_byDeadline_12 : decode cX12_byDeadline 12 = .ok (.lcmp, 1) := by decide +kernel
theorem dX12_byDeadline_13 : decode cX12_byDeadline 13 = .ok (.ifCond .ge 54, 3) := by decide +kernel
theorem dX12_byDeadline_67 : decode cX12_byDeadline 67 = .ok (.iload_n 2, 1) := by decide +kernel
theorem dX12_byDeadline_68 : decode cX12_byDeadline 68 = .ok (.ireturn, 1) := by decide +kernel
theorem dX12_byVirtual_0 : decode cX12_byVirtual 0 = .ok (.iconst (-1), 1) := by decide +kernel
theorem dX12_byVirtual_1 : decode cX12_byVirtual 1 = .ok (.istore_n 1, 1) := by decide +kernel
theorem dX12_byVirtual_2 : decode cX12_byVirtual 2 = .ok (.iconst 0, 1) := by decide +kernel
theorem dX12_byVirtual_3 : decode cX12_byVirtual 3 = .ok (.istore_n 2, 1) := by decide +kernel
theorem dX12_byVirtual_4 : decode cX12_byVirtual 4 = .ok (.iload_n 2, 1) := by decide +kernel
theorem dX12_byVirtual_5 : decode cX12_byVirtual 5 = .ok (.i2l, 1) := by decide +kernel
theorem dX12_byVirtual_6 : decode cX12_byVirtual 6 = .ok (.aload_n 0, 1) := by decide +kernel
theorem dX12_byVirtual_7 : decode cX12_byVirtual 7 = .ok (.getfield 16, 3) := by decide +kernel
theorem dX12_byVirtual_10 : decode cX12_byVirtual 10 = .ok (.iconst 0, 1) := by decide +kernel
theorem dX12_byVirtual_11 : decode cX12_byVirtual 11 = .ok (.laload, 1) := by decide +kernel
theorem dX12_byVirtual_12 : decode cX12_byVirtual 12 = .ok (.lcmp, 1) := by decide +kernel
theorem dX12_byVirtual_13 : decode cX12_byVirtual 13 = .ok (.ifCond .ge 42, 3) := by decide +kernel
theorem dX12_byVirtual_55 : decode cX12_byVirtual 55 = .ok (.iload_n 1, 1) := by decide +kernel
theorem dX12_byVirtual_56 : decode cX12_byVirtual 56 = .ok (.ireturn, 1) := by decide +kernel
theorem dX12_inTurn_0 : decode cX12_inTurn 0 = .ok (.aload_n 0, 1) := by decide +kernel
theorem dX12_inTurn_1 : decode cX12_inTurn 1 = .ok (.getfield 16, 3) := by decide +kernel
theorem dX12_inTurn_4 : decode cX12_inTurn 4 = .ok (.iconst 0, 1) := by decide +kernel
theorem dX12_inTurn_5 : decode cX12_inTurn 5 = .ok (.laload, 1) := by decide +kernel
theorem dX12_inTurn_6 : decode cX12_inTurn 6 = .ok (.l2i, 1) := by decide +kernel
theorem dX12_inTurn_7 : decode cX12_inTurn 7 = .ok (.istore_n 1, 1) := by decide +kernel
theorem dX12_inTurn_8 : decode cX12_inTurn 8 = .ok (.aload_n 0, 1) := by decide +kernel
theorem dX12_inTurn_9 : decode cX12_inTurn 9 = .ok (.getfield 16, 3) := by decide +kernel
theorem dX12_inTurn_12 : decode cX12_inTurn 12 = .ok (.iconst 3, 1) := by decide +kernel
theorem dX12_inTurn_13 : decode cX12_inTurn 13 = .ok (.laload, 1) := by decide +kernel
theorem dX12_inTurn_14 : decode cX12_inTurn 14 = .ok (.l2i, 1) := by decide +kernel
theorem dX12_inTurn_15 : decode cX12_inTurn 15 = .ok (.istore_n 2, 1) := by decide +kernel
theorem dX12_inTurn_16 : decode cX12_inTurn 16 = .ok (.iconst (-1), 1) := by decide +kernel
theorem dX12_inTurn_17 : decode cX12_inTurn 17 = .ok (.istore_n 3, 1) := by decide +kernel
theorem dX12_inTurn_18 : decode cX12_inTurn 18 = .ok (.iload_n 1, 1) := by decide +kernel
theorem dX12_inTurn_19 : decode cX12_inTurn 19 = .ok (.istore 4, 2) := by decide +kernel
theorem dX12_inTurn_21 : decode cX12_inTurn 21 = .ok (.iload 4, 2) := by decide +kernel
theorem dX12_inTurn_23 : decode cX12_inTurn 23 = .ok (.ifCond .le 33, 3) := by decide +kernel
theorem dX12_inTurn_56 : decode cX12_inTurn 56 = .ok (.iload_n 3, 1) := by decide +kernel
theorem dX12_inTurn_57 : decode cX12_inTurn 57 = .ok (.ireturn, 1) := by decide +kernel
theorem dX12_byDraws_0 : decode cX12_byDraws 0 = .ok (.aload_n 0, 1) := by decide +kernel
theorem dX12_byDraws_1 : decode cX12_byDraws 1 = .ok (.invokevirtual 105, 3) := by decide +kernel
theorem dX12_byDraws_4 : decode cX12_byDraws 4 = .ok (.lstore_n 1, 1) := by decide +kernel
theorem dX12_byDraws_5 : decode cX12_byDraws 5 = .ok (.lload_n 1, 1) := by decide +kernel
theorem dX12_byDraws_6 : decode cX12_byDraws 6 = .ok (.lconst 0, 1) := by decide +kernel
theorem dX12_byDraws_7 : decode cX12_byDraws 7 = .ok (.lcmp, 1) := by decide +kernel
theorem dX12_byDraws_8 : decode cX12_byDraws 8 = .ok (.ifCond .ne 5, 3) := by decide +kernel
theorem dX12_byDraws_11 : decode cX12_byDraws 11 = .ok (.iconst (-1), 1) := by decide +kernel
theorem dX12_byDraws_12 : decode cX12_byDraws 12 = .ok (.ireturn, 1) := by decide +kernel
theorem dX12_chosen_0 : decode cX12_chosen 0 = .ok (.iload_n 1, 1) := by decide +kernel
theorem dX12_chosen_1 : decode cX12_chosen 1 = .ok (.tableswitch 52 1 4 #[31, 36, 42, 47], 31) := by decide +kernel
theorem dX12_chosen_32 : decode cX12_chosen 32 = .ok (.aload_n 0, 1) := by decide +kernel
theorem dX12_chosen_33 : decode cX12_chosen 33 = .ok (.invokevirtual 256, 3) := by decide +kernel
theorem dX12_chosen_36 : decode cX12_chosen 36 = .ok (.ireturn, 1) := by decide +kernel
theorem dX12_chosen_37 : decode cX12_chosen 37 = .ok (.aload_n 0, 1) := by decide +kernel
theorem dX12_chosen_38 : decode cX12_chosen 38 = .ok (.iconst 0, 1) := by decide +kernel
theorem dX12_chosen_39 : decode cX12_chosen 39 = .ok (.invokevirtual 260, 3) := by decide +kernel
theorem dX12_chosen_42 : decode cX12_chosen 42 = .ok (.ireturn, 1) := by decide +kernel
theorem dX12_chosen_43 : decode cX12_chosen 43 = .ok (.aload_n 0, 1) := by decide +kernel
theorem dX12_chosen_44 : decode cX12_chosen 44 = .ok (.invokevirtual 264, 3) := by decide +kernel
theorem dX12_chosen_47 : decode cX12_chosen 47 = .ok (.ireturn, 1) := by decide +kernel
theorem dX12_chosen_48 : decode cX12_chosen 48 = .ok (.aload_n 0, 1) := by decide +kernel
theorem dX12_chosen_49 : decode cX12_chosen 49 = .ok (.invokevirtual 267, 3) := by decide +kernel
theorem dX12_chosen_52 : decode cX12_chosen 52 = .ok (.ireturn, 1) := by decide +kernel
theorem dX12_chosen_53 : decode cX12_chosen 53 = .ok (.aload_n 0, 1) := by decide +kernel
theorem dX12_chosen_54 : decode cX12_chosen 54 = .ok (.getfield 16, 3) := by decide +kernel
theorem dX12_chosen_57 : decode cX12_chosen 57 = .ok (.iconst 4, 1) := by decide +kernel
theorem dX12_chosen_58 : decode cX12_chosen 58 = .ok (.laload, 1) := by decide +kernel
theorem dX12_chosen_59 : decode cX12_chosen 59 = .ok (.l2i, 1) := by decide +kernel
theorem dX12_chosen_60 : decode cX12_chosen 60 = .ok (.istore_n 2, 1) := by decide +kernel
theorem dX12_chosen_61 : decode cX12_chosen 61 = .ok (.aload_n 0, 1) := by decide +kernel
theorem dX12_chosen_62 : decode cX12_chosen 62 = .ok (.getfield 13, 3) := by decide +kernel
theorem dX12_chosen_65 : decode cX12_chosen 65 = .ok (.iconst 0, 1) := by decide +kernel
theorem dX12_chosen_66 : decode cX12_chosen 66 = .ok (.iaload, 1) := by decide +kernel
theorem dX12_chosen_67 : decode cX12_chosen 67 = .ok (.iconst 1, 1) := by decide +kernel
theorem dX12_chosen_68 : decode cX12_chosen 68 = .ok (.if_icmp .ne 12, 3) := by decide +kernel
theorem dX12_chosen_80 : decode cX12_chosen 80 = .ok (.aload_n 0, 1) := by decide +kernel
theorem dX12_chosen_81 : decode cX12_chosen 81 = .ok (.iconst 1, 1) := by decide +kernel
theorem dX12_chosen_82 : decode cX12_chosen 82 = .ok (.invokevirtual 260, 3) := by decide +kernel
theorem dX12_chosen_85 : decode cX12_chosen 85 = .ok (.ireturn, 1) := by decide +kernel
theorem dX12_log_0 : decode cX12_log 0 = .ok (.aload_n 0, 1) := by decide +kernel
theorem dX12_log_1 : decode cX12_log 1 = .ok (.getfield 16, 3) := by decide +kernel
theorem dX12_log_4 : decode cX12_log 4 = .ok (.iconst 5, 1) := by decide +kernel
theorem dX12_log_5 : decode cX12_log 5 = .ok (.laload, 1) := by decide +kernel
theorem dX12_log_6 : decode cX12_log 6 = .ok (.ldc2_w 270, 3) := by decide +kernel
theorem dX12_log_9 : decode cX12_log 9 = .ok (.lcmp, 1) := by decide +kernel
theorem dX12_log_10 : decode cX12_log 10 = .ok (.ifCond .ne 44, 3) := by decide +kernel
theorem dX12_log_54 : decode cX12_log 54 = .ok (.sipush 522, 3) := by decide +kernel
theorem dX12_log_57 : decode cX12_log 57 = .ok (.iconst 3, 1) := by decide +kernel
theorem dX12_log_58 : decode cX12_log 58 = .ok (.aload_n 0, 1) := by decide +kernel
theorem dX12_log_59 : decode cX12_log 59 = .ok (.getfield 16, 3) := by decide +kernel
theorem dX12_log_62 : decode cX12_log 62 = .ok (.iconst 5, 1) := by decide +kernel
theorem dX12_log_63 : decode cX12_log 63 = .ok (.laload, 1) := by decide +kernel
theorem dX12_log_64 : decode cX12_log 64 = .ok (.l2i, 1) := by decide +kernel
theorem dX12_log_65 : decode cX12_log 65 = .ok (.imul, 1) := by decide +kernel
theorem dX12_log_66 : decode cX12_log 66 = .ok (.iadd, 1) := by decide +kernel
theorem dX12_log_67 : decode cX12_log 67 = .ok (.istore_n 2, 1) := by decide +kernel
theorem dX12_log_68 : decode cX12_log 68 = .ok (.aload_n 0, 1) := by decide +kernel
theorem dX12_log_69 : decode cX12_log 69 = .ok (.getfield 16, 3) := by decide +kernel
theorem dX12_log_72 : decode cX12_log 72 = .ok (.iload_n 2, 1) := by decide +kernel
theorem dX12_log_73 : decode cX12_log 73 = .ok (.iload_n 1, 1) := by decide +kernel
theorem dX12_log_74 : decode cX12_log 74 = .ok (.i2l, 1) := by decide +kernel
theorem dX12_log_75 : decode cX12_log 75 = .ok (.lastore, 1) := by decide +kernel
theorem dX12_log_76 : decode cX12_log 76 = .ok (.aload_n 0, 1) := by decide +kernel
theorem dX12_log_77 : decode cX12_log 77 = .ok (.getfield 16, 3) := by decide +kernel
theorem dX12_log_80 : decode cX12_log 80 = .ok (.iload_n 2, 1) := by decide +kernel
theorem dX12_log_81 : decode cX12_log 81 = .ok (.iconst 1, 1) := by decide +kernel
theorem dX12_log_82 : decode cX12_log 82 = .ok (.iadd, 1) := by decide +kernel
theorem dX12_log_83 : decode cX12_log 83 = .ok (.aload_n 0, 1) := by decide +kernel
theorem dX12_log_84 : decode cX12_log 84 = .ok (.invokevirtual 105, 3) := by decide +kernel
theorem dX12_log_87 : decode cX12_log 87 = .ok (.lastore, 1) := by decide +kernel
theorem dX12_log_88 : decode cX12_log 88 = .ok (.aload_n 0, 1) := by decide +kernel
theorem dX12_log_89 : decode cX12_log 89 = .ok (.getfield 16, 3) := by decide +kernel
theorem dX12_log_92 : decode cX12_log 92 = .ok (.iload_n 2, 1) := by decide +kernel
theorem dX12_log_93 : decode cX12_log 93 = .ok (.iconst 2, 1) := by decide +kernel
theorem dX12_log_94 : decode cX12_log 94 = .ok (.iadd, 1) := by decide +kernel
theorem dX12_log_95 : decode cX12_log 95 = .ok (.lconst 0, 1) := by decide +kernel
theorem dX12_log_96 : decode cX12_log 96 = .ok (.lastore, 1) := by decide +kernel
theorem dX12_log_97 : decode cX12_log 97 = .ok (.iconst 0, 1) := by decide +kernel
theorem dX12_log_98 : decode cX12_log 98 = .ok (.istore_n 3, 1) := by decide +kernel
theorem dX12_log_99 : decode cX12_log 99 = .ok (.iload_n 3, 1) := by decide +kernel
theorem dX12_log_100 : decode cX12_log 100 = .ok (.i2l, 1) := by decide +kernel
theorem dX12_log_101 : decode cX12_log 101 = .ok (.aload_n 0, 1) := by decide +kernel
theorem dX12_log_102 : decode cX12_log 102 = .ok (.getfield 16, 3) := by decide +kernel
theorem dX12_log_105 : decode cX12_log 105 = .ok (.iconst 0, 1) := by decide +kernel
theorem dX12_log_106 : decode cX12_log 106 = .ok (.laload, 1) := by decide +kernel
theorem dX12_log_107 : decode cX12_log 107 = .ok (.lcmp, 1) := by decide +kernel
theorem dX12_log_108 : decode cX12_log 108 = .ok (.ifCond .ge 41, 3) := by decide +kernel
theorem dX12_log_149 : decode cX12_log 149 = .ok (.aload_n 0, 1) := by decide +kernel
theorem dX12_log_150 : decode cX12_log 150 = .ok (.getfield 16, 3) := by decide +kernel
theorem dX12_log_153 : decode cX12_log 153 = .ok (.iconst 5, 1) := by decide +kernel
theorem dX12_log_154 : decode cX12_log 154 = .ok (.dup2, 1) := by decide +kernel
theorem dX12_log_155 : decode cX12_log 155 = .ok (.laload, 1) := by decide +kernel
theorem dX12_log_156 : decode cX12_log 156 = .ok (.lconst 1, 1) := by decide +kernel
theorem dX12_log_157 : decode cX12_log 157 = .ok (.ladd, 1) := by decide +kernel
theorem dX12_log_158 : decode cX12_log 158 = .ok (.lastore, 1) := by decide +kernel
theorem dX12_log_159 : decode cX12_log 159 = .ok (.return_, 1) := by decide +kernel
theorem dX12_tick_0 : decode cX12_tick 0 = .ok (.iconst 0, 1) := by decide +kernel
theorem dX12_tick_1 : decode cX12_tick 1 = .ok (.istore_n 2, 1) := by decide +kernel
theorem dX12_tick_2 : decode cX12_tick 2 = .ok (.iload_n 2, 1) := by decide +kernel
theorem dX12_tick_3 : decode cX12_tick 3 = .ok (.i2l, 1) := by decide +kernel
theorem dX12_tick_4 : decode cX12_tick 4 = .ok (.aload_n 0, 1) := by decide +kernel
theorem dX12_tick_5 : decode cX12_tick 5 = .ok (.getfield 16, 3) := by decide +kernel
theorem dX12_tick_8 : decode cX12_tick 8 = .ok (.iconst 0, 1) := by decide +kernel
theorem dX12_tick_9 : decode cX12_tick 9 = .ok (.laload, 1) := by decide +kernel
theorem dX12_tick_10 : decode cX12_tick 10 = .ok (.lcmp, 1) := by decide +kernel
theorem dX12_tick_11 : decode cX12_tick 11 = .ok (.ifCond .ge 79, 3) := by decide +kernel
theorem dX12_tick_90 : decode cX12_tick 90 = .ok (.iconst 0, 1) := by decide +kernel
theorem dX12_tick_91 : decode cX12_tick 91 = .ok (.istore_n 2, 1) := by decide +kernel
theorem dX12_tick_92 : decode cX12_tick 92 = .ok (.iload_n 2, 1) := by decide +kernel
theorem dX12_tick_93 : decode cX12_tick 93 = .ok (.i2l, 1) := by decide +kernel
theorem dX12_tick_94 : decode cX12_tick 94 = .ok (.aload_n 0, 1) := by decide +kernel
theorem dX12_tick_95 : decode cX12_tick 95 = .ok (.getfield 16, 3) := by decide +kernel
theorem dX12_tick_98 : decode cX12_tick 98 = .ok (.iconst 0, 1) := by decide +kernel
theorem dX12_tick_99 : decode cX12_tick 99 = .ok (.laload, 1) := by decide +kernel
theorem dX12_tick_100 : decode cX12_tick 100 = .ok (.lcmp, 1) := by decide +kernel
theorem dX12_tick_101 : decode cX12_tick 101 = .ok (.ifCond .ge 96, 3) := by decide +kernel
theorem dX12_tick_197 : decode cX12_tick 197 = .ok (.aload_n 0, 1) := by decide +kernel
theorem dX12_tick_198 : decode cX12_tick 198 = .ok (.iload_n 1, 1) := by decide +kernel
theorem dX12_tick_199 : decode cX12_tick 199 = .ok (.invokevirtual 277, 3) := by decide +kernel
theorem dX12_tick_202 : decode cX12_tick 202 = .ok (.istore_n 2, 1) := by decide +kernel
theorem dX12_tick_203 : decode cX12_tick 203 = .ok (.aload_n 0, 1) := by decide +kernel
theorem dX12_tick_204 : decode cX12_tick 204 = .ok (.iload_n 2, 1) := by decide +kernel
theorem dX12_tick_205 : decode cX12_tick 205 = .ok (.invokevirtual 280, 3) := by decide +kernel
theorem dX12_tick_208 : decode cX12_tick 208 = .ok (.aload_n 0, 1) := by decide +kernel
theorem dX12_tick_209 : decode cX12_tick 209 = .ok (.getfield 16, 3) := by decide +kernel
theorem dX12_tick_212 : decode cX12_tick 212 = .ok (.iconst 4, 1) := by decide +kernel
theorem dX12_tick_213 : decode cX12_tick 213 = .ok (.iload_n 2, 1) := by decide +kernel
theorem dX12_tick_214 : decode cX12_tick 214 = .ok (.i2l, 1) := by decide +kernel
theorem dX12_tick_215 : decode cX12_tick 215 = .ok (.lastore, 1) := by decide +kernel
theorem dX12_tick_216 : decode cX12_tick 216 = .ok (.iload_n 2, 1) := by decide +kernel
theorem dX12_tick_217 : decode cX12_tick 217 = .ok (.iconst (-1), 1) := by decide +kernel
theorem dX12_tick_218 : decode cX12_tick 218 = .ok (.if_icmp .eq 119, 3) := by decide +kernel
theorem dX12_tick_337 : decode cX12_tick 337 = .ok (.aload_n 0, 1) := by decide +kernel
theorem dX12_tick_338 : decode cX12_tick 338 = .ok (.getfield 16, 3) := by decide +kernel
theorem dX12_tick_341 : decode cX12_tick 341 = .ok (.iconst 1, 1) := by decide +kernel
theorem dX12_tick_342 : decode cX12_tick 342 = .ok (.dup2, 1) := by decide +kernel
theorem dX12_tick_343 : decode cX12_tick 343 = .ok (.laload, 1) := by decide +kernel
theorem dX12_tick_344 : decode cX12_tick 344 = .ok (.lconst 1, 1) := by decide +kernel
theorem dX12_tick_345 : decode cX12_tick 345 = .ok (.ladd, 1) := by decide +kernel
theorem dX12_tick_346 : decode cX12_tick 346 = .ok (.lastore, 1) := by decide +kernel
theorem dX12_tick_347 : decode cX12_tick 347 = .ok (.iload_n 2, 1) := by decide +kernel
theorem dX12_tick_348 : decode cX12_tick 348 = .ok (.ireturn, 1) := by decide +kernel
theorem dX12_ticks_0 : decode cX12_ticks 0 = .ok (.aload_n 0, 1) := by decide +kernel
theorem dX12_ticks_1 : decode cX12_ticks 1 = .ok (.iconst 0, 1) := by decide +kernel
theorem dX12_ticks_2 : decode cX12_ticks 2 = .ok (.putfield 67, 3) := by decide +kernel
theorem dX12_ticks_5 : decode cX12_ticks 5 = .ok (.iload_n 1, 1) := by decide +kernel
theorem dX12_ticks_6 : decode cX12_ticks 6 = .ok (.i2l, 1) := by decide +kernel
theorem dX12_ticks_7 : decode cX12_ticks 7 = .ok (.lconst 1, 1) := by decide +kernel
theorem dX12_ticks_8 : decode cX12_ticks 8 = .ok (.ldc2_w 172, 3) := by decide +kernel
theorem dX12_ticks_11 : decode cX12_ticks 11 = .ok (.invokestatic 83, 3) := by decide +kernel
theorem dX12_ticks_14 : decode cX12_ticks 14 = .ok (.ifCond .ne 9, 3) := by decide +kernel
theorem dX12_ticks_17 : decode cX12_ticks 17 = .ok (.aload_n 0, 1) := by decide +kernel
theorem dX12_ticks_18 : decode cX12_ticks 18 = .ok (.iconst (-1), 1) := by decide +kernel
theorem dX12_ticks_19 : decode cX12_ticks 19 = .ok (.invokevirtual 76, 3) := by decide +kernel
theorem dX12_ticks_22 : decode cX12_ticks 22 = .ok (.ireturn, 1) := by decide +kernel
theorem dX12_ticks_23 : decode cX12_ticks 23 = .ok (.aload_n 0, 1) := by decide +kernel
theorem dX12_ticks_24 : decode cX12_ticks 24 = .ok (.getfield 16, 3) := by decide +kernel
theorem dX12_ticks_27 : decode cX12_ticks 27 = .ok (.iconst 1, 1) := by decide +kernel
theorem dX12_ticks_28 : decode cX12_ticks 28 = .ok (.laload, 1) := by decide +kernel
theorem dX12_ticks_29 : decode cX12_ticks 29 = .ok (.iload_n 1, 1) := by decide +kernel
theorem dX12_ticks_30 : decode cX12_ticks 30 = .ok (.i2l, 1) := by decide +kernel
theorem dX12_ticks_31 : decode cX12_ticks 31 = .ok (.ladd, 1) := by decide +kernel
theorem dX12_ticks_32 : decode cX12_ticks 32 = .ok (.ldc2_w 286, 3) := by decide +kernel
theorem dX12_ticks_35 : decode cX12_ticks 35 = .ok (.lcmp, 1) := by decide +kernel
theorem dX12_ticks_36 : decode cX12_ticks 36 = .ok (.ifCond .le 10, 3) := by decide +kernel
theorem dX12_ticks_46 : decode cX12_ticks 46 = .ok (.aload_n 0, 1) := by decide +kernel
theorem dX12_ticks_47 : decode cX12_ticks 47 = .ok (.bipush 6, 2) := by decide +kernel
theorem dX12_ticks_49 : decode cX12_ticks 49 = .ok (.invokevirtual 139, 3) := by decide +kernel
theorem dX12_ticks_52 : decode cX12_ticks 52 = .ok (.iconst 0, 1) := by decide +kernel
theorem dX12_ticks_53 : decode cX12_ticks 53 = .ok (.istore_n 2, 1) := by decide +kernel
theorem dX12_ticks_54 : decode cX12_ticks 54 = .ok (.iconst 0, 1) := by decide +kernel
theorem dX12_ticks_55 : decode cX12_ticks 55 = .ok (.istore_n 3, 1) := by decide +kernel
theorem dX12_ticks_56 : decode cX12_ticks 56 = .ok (.iload_n 3, 1) := by decide +kernel
theorem dX12_ticks_57 : decode cX12_ticks 57 = .ok (.iload_n 1, 1) := by decide +kernel
theorem dX12_ticks_58 : decode cX12_ticks 58 = .ok (.if_icmp .ge 26, 3) := by decide +kernel
theorem dX12_ticks_61 : decode cX12_ticks 61 = .ok (.iload_n 2, 1) := by decide +kernel
theorem dX12_ticks_62 : decode cX12_ticks 62 = .ok (.aload_n 0, 1) := by decide +kernel
theorem dX12_ticks_63 : decode cX12_ticks 63 = .ok (.iconst 0, 1) := by decide +kernel
theorem dX12_ticks_64 : decode cX12_ticks 64 = .ok (.invokevirtual 288, 3) := by decide +kernel
theorem dX12_ticks_67 : decode cX12_ticks 67 = .ok (.iconst (-1), 1) := by decide +kernel
theorem dX12_ticks_68 : decode cX12_ticks 68 = .ok (.if_icmp .ne 7, 3) := by decide +kernel
theorem dX12_ticks_71 : decode cX12_ticks 71 = .ok (.iconst 0, 1) := by decide +kernel
theorem dX12_ticks_72 : decode cX12_ticks 72 = .ok (.goto 4, 3) := by decide +kernel
theorem dX12_ticks_76 : decode cX12_ticks 76 = .ok (.iadd, 1) := by decide +kernel
theorem dX12_ticks_77 : decode cX12_ticks 77 = .ok (.istore_n 2, 1) := by decide +kernel
theorem dX12_ticks_78 : decode cX12_ticks 78 = .ok (.iinc 3 1, 3) := by decide +kernel
theorem dX12_ticks_81 : decode cX12_ticks 81 = .ok (.goto (-25), 3) := by decide +kernel
theorem dX12_ticks_84 : decode cX12_ticks 84 = .ok (.aload_n 0, 1) := by decide +kernel
theorem dX12_ticks_85 : decode cX12_ticks 85 = .ok (.iload_n 2, 1) := by decide +kernel
theorem dX12_ticks_86 : decode cX12_ticks 86 = .ok (.invokevirtual 80, 3) := by decide +kernel
theorem dX12_ticks_89 : decode cX12_ticks 89 = .ok (.ireturn, 1) := by decide +kernel
theorem dX12_of_0 : decode cX12_of 0 = .ok (.aload_n 0, 1) := by decide +kernel
theorem dX12_of_1 : decode cX12_of 1 = .ok (.iconst 0, 1) := by decide +kernel
theorem dX12_of_2 : decode cX12_of 2 = .ok (.putfield 67, 3) := by decide +kernel
theorem dX12_of_5 : decode cX12_of 5 = .ok (.aload_n 0, 1) := by decide +kernel
theorem dX12_of_6 : decode cX12_of 6 = .ok (.iload_n 1, 1) := by decide +kernel
theorem dX12_of_7 : decode cX12_of 7 = .ok (.invokevirtual 142, 3) := by decide +kernel
theorem dX12_of_10 : decode cX12_of 10 = .ok (.ifCond .ne 5, 3) := by decide +kernel
theorem dX12_of_13 : decode cX12_of 13 = .ok (.iconst (-1), 1) := by decide +kernel
theorem dX12_of_14 : decode cX12_of 14 = .ok (.ireturn, 1) := by decide +kernel
theorem dX12_exact_0 : decode cX12_exact 0 = .ok (.aload_n 0, 1) := by decide +kernel
theorem dX12_exact_1 : decode cX12_exact 1 = .ok (.iconst 0, 1) := by decide +kernel
theorem dX12_exact_2 : decode cX12_exact 2 = .ok (.putfield 67, 3) := by decide +kernel
theorem dX12_exact_5 : decode cX12_exact 5 = .ok (.aload_n 0, 1) := by decide +kernel
theorem dX12_exact_6 : decode cX12_exact 6 = .ok (.iload_n 1, 1) := by decide +kernel
theorem dX12_exact_7 : decode cX12_exact 7 = .ok (.invokevirtual 142, 3) := by decide +kernel
theorem dX12_exact_10 : decode cX12_exact 10 = .ok (.ifCond .ne 7, 3) := by decide +kernel
theorem dX12_exact_13 : decode cX12_exact 13 = .ok (.ldc2_w 291, 3) := by decide +kernel
theorem dX12_exact_16 : decode cX12_exact 16 = .ok (.lreturn, 1) := by decide +kernel
theorem dX12_time_0 : decode cX12_time 0 = .ok (.aload_n 0, 1) := by decide +kernel
theorem dX12_time_1 : decode cX12_time 1 = .ok (.iconst 0, 1) := by decide +kernel
theorem dX12_time_2 : decode cX12_time 2 = .ok (.putfield 67, 3) := by decide +kernel
theorem dX12_time_5 : decode cX12_time 5 = .ok (.aload_n 0, 1) := by decide +kernel
theorem dX12_time_6 : decode cX12_time 6 = .ok (.invokevirtual 105, 3) := by decide +kernel
theorem dX12_time_9 : decode cX12_time 9 = .ok (.lstore_n 2, 1) := by decide +kernel
theorem dX12_time_10 : decode cX12_time 10 = .ok (.iload_n 1, 1) := by decide +kernel
theorem dX12_time_11 : decode cX12_time 11 = .ok (.tableswitch 88 0 3 #[29, 53, 79, 81], 29) := by decide +kernel
theorem dX12_time_40 : decode cX12_time 40 = .ok (.lload_n 2, 1) := by decide +kernel
theorem dX12_time_41 : decode cX12_time 41 = .ok (.lconst 0, 1) := by decide +kernel
theorem dX12_time_42 : decode cX12_time 42 = .ok (.lcmp, 1) := by decide +kernel
theorem dX12_time_43 : decode cX12_time 43 = .ok (.ifCond .ne 12, 3) := by decide +kernel
theorem dX12_time_46 : decode cX12_time 46 = .ok (.aload_n 0, 1) := by decide +kernel
theorem dX12_time_47 : decode cX12_time 47 = .ok (.getfield 16, 3) := by decide +kernel
theorem dX12_time_50 : decode cX12_time 50 = .ok (.iconst 2, 1) := by decide +kernel
theorem dX12_time_51 : decode cX12_time 51 = .ok (.laload, 1) := by decide +kernel
theorem dX12_time_52 : decode cX12_time 52 = .ok (.goto 11, 3) := by decide +kernel
theorem dX12_time_63 : decode cX12_time 63 = .ok (.lreturn, 1) := by decide +kernel
theorem dX12_time_64 : decode cX12_time 64 = .ok (.lload_n 2, 1) := by decide +kernel
theorem dX12_time_65 : decode cX12_time 65 = .ok (.lconst 0, 1) := by decide +kernel
theorem dX12_time_66 : decode cX12_time 66 = .ok (.lcmp, 1) := by decide +kernel
theorem dX12_time_67 : decode cX12_time 67 = .ok (.ifCond .ne 7, 3) := by decide +kernel
theorem dX12_time_70 : decode cX12_time 70 = .ok (.lconst 0, 1) := by decide +kernel
theorem dX12_time_71 : decode cX12_time 71 = .ok (.goto 18, 3) := by decide +kernel
theorem dX12_time_89 : decode cX12_time 89 = .ok (.lreturn, 1) := by decide +kernel
theorem dX12_time_90 : decode cX12_time 90 = .ok (.lload_n 2, 1) := by decide +kernel
theorem dX12_time_91 : decode cX12_time 91 = .ok (.lreturn, 1) := by decide +kernel
theorem dX12_time_92 : decode cX12_time 92 = .ok (.aload_n 0, 1) := by decide +kernel
theorem dX12_time_93 : decode cX12_time 93 = .ok (.getfield 16, 3) := by decide +kernel
theorem dX12_time_96 : decode cX12_time 96 = .ok (.iconst 1, 1) := by decide +kernel
theorem dX12_time_97 : decode cX12_time 97 = .ok (.laload, 1) := by decide +kernel
theorem dX12_time_98 : decode cX12_time 98 = .ok (.lreturn, 1) := by decide +kernel
theorem dX12_time_99 : decode cX12_time 99 = .ok (.ldc2_w 291, 3) := by decide +kernel
theorem dX12_time_102 : decode cX12_time 102 = .ok (.lreturn, 1) := by decide +kernel
theorem dX12_eligible_0 : decode cX12_eligible 0 = .ok (.aload_n 0, 1) := by decide +kernel
theorem dX12_eligible_1 : decode cX12_eligible 1 = .ok (.iconst 0, 1) := by decide +kernel
theorem dX12_eligible_2 : decode cX12_eligible 2 = .ok (.putfield 67, 3) := by decide +kernel
theorem dX12_eligible_5 : decode cX12_eligible 5 = .ok (.iconst 0, 1) := by decide +kernel
theorem dX12_eligible_6 : decode cX12_eligible 6 = .ok (.istore_n 1, 1) := by decide +kernel
theorem dX12_eligible_7 : decode cX12_eligible 7 = .ok (.iconst 0, 1) := by decide +kernel
theorem dX12_eligible_8 : decode cX12_eligible 8 = .ok (.istore_n 2, 1) := by decide +kernel
theorem dX12_eligible_9 : decode cX12_eligible 9 = .ok (.iload_n 2, 1) := by decide +kernel
theorem dX12_eligible_10 : decode cX12_eligible 10 = .ok (.i2l, 1) := by decide +kernel
theorem dX12_eligible_11 : decode cX12_eligible 11 = .ok (.aload_n 0, 1) := by decide +kernel
theorem dX12_eligible_12 : decode cX12_eligible 12 = .ok (.getfield 16, 3) := by decide +kernel
theorem dX12_eligible_15 : decode cX12_eligible 15 = .ok (.iconst 0, 1) := by decide +kernel
theorem dX12_eligible_16 : decode cX12_eligible 16 = .ok (.laload, 1) := by decide +kernel
theorem dX12_eligible_17 : decode cX12_eligible 17 = .ok (.lcmp, 1) := by decide +kernel
theorem dX12_eligible_18 : decode cX12_eligible 18 = .ok (.ifCond .ge 27, 3) := by decide +kernel
theorem dX12_eligible_45 : decode cX12_eligible 45 = .ok (.iload_n 1, 1) := by decide +kernel
theorem dX12_eligible_46 : decode cX12_eligible 46 = .ok (.ireturn, 1) := by decide +kernel
theorem dX12_earliest_0 : decode cX12_earliest 0 = .ok (.aload_n 0, 1) := by decide +kernel
theorem dX12_earliest_1 : decode cX12_earliest 1 = .ok (.iconst 0, 1) := by decide +kernel
theorem dX12_earliest_2 : decode cX12_earliest 2 = .ok (.putfield 67, 3) := by decide +kernel
theorem dX12_earliest_5 : decode cX12_earliest 5 = .ok (.iconst (-1), 1) := by decide +kernel
theorem dX12_earliest_6 : decode cX12_earliest 6 = .ok (.istore_n 2, 1) := by decide +kernel
theorem dX12_earliest_7 : decode cX12_earliest 7 = .ok (.iconst 0, 1) := by decide +kernel
theorem dX12_earliest_8 : decode cX12_earliest 8 = .ok (.istore_n 3, 1) := by decide +kernel
theorem dX12_earliest_9 : decode cX12_earliest 9 = .ok (.iload_n 3, 1) := by decide +kernel
theorem dX12_earliest_10 : decode cX12_earliest 10 = .ok (.i2l, 1) := by decide +kernel
theorem dX12_earliest_11 : decode cX12_earliest 11 = .ok (.aload_n 0, 1) := by decide +kernel
theorem dX12_earliest_12 : decode cX12_earliest 12 = .ok (.getfield 16, 3) := by decide +kernel
theorem dX12_earliest_15 : decode cX12_earliest 15 = .ok (.iconst 0, 1) := by decide +kernel
theorem dX12_earliest_16 : decode cX12_earliest 16 = .ok (.laload, 1) := by decide +kernel
theorem dX12_earliest_17 : decode cX12_earliest 17 = .ok (.lcmp, 1) := by decide +kernel
theorem dX12_earliest_18 : decode cX12_earliest 18 = .ok (.ifCond .ge 32, 3) := by decide +kernel
theorem dX12_earliest_50 : decode cX12_earliest 50 = .ok (.iload_n 2, 1) := by decide +kernel
theorem dX12_earliest_51 : decode cX12_earliest 51 = .ok (.ireturn, 1) := by decide +kernel
theorem dX12_rank_0 : decode cX12_rank 0 = .ok (.aload_n 0, 1) := by decide +kernel
theorem dX12_rank_1 : decode cX12_rank 1 = .ok (.iconst 0, 1) := by decide +kernel
theorem dX12_rank_2 : decode cX12_rank 2 = .ok (.putfield 67, 3) := by decide +kernel
theorem dX12_rank_5 : decode cX12_rank 5 = .ok (.aload_n 0, 1) := by decide +kernel
theorem dX12_rank_6 : decode cX12_rank 6 = .ok (.iload_n 1, 1) := by decide +kernel
theorem dX12_rank_7 : decode cX12_rank 7 = .ok (.invokevirtual 142, 3) := by decide +kernel
theorem dX12_rank_10 : decode cX12_rank 10 = .ok (.ifCond .eq 11, 3) := by decide +kernel
theorem dX12_rank_21 : decode cX12_rank 21 = .ok (.iconst (-1), 1) := by decide +kernel
theorem dX12_rank_22 : decode cX12_rank 22 = .ok (.ireturn, 1) := by decide +kernel
theorem dX12_logAt_0 : decode cX12_logAt 0 = .ok (.aload_n 0, 1) := by decide +kernel
theorem dX12_logAt_1 : decode cX12_logAt 1 = .ok (.getfield 16, 3) := by decide +kernel
theorem dX12_logAt_4 : decode cX12_logAt 4 = .ok (.iconst 1, 1) := by decide +kernel
theorem dX12_logAt_5 : decode cX12_logAt 5 = .ok (.laload, 1) := by decide +kernel
theorem dX12_logAt_6 : decode cX12_logAt 6 = .ok (.aload_n 0, 1) := by decide +kernel
theorem dX12_logAt_7 : decode cX12_logAt 7 = .ok (.getfield 16, 3) := by decide +kernel
theorem dX12_logAt_10 : decode cX12_logAt 10 = .ok (.iconst 5, 1) := by decide +kernel
theorem dX12_logAt_11 : decode cX12_logAt 11 = .ok (.laload, 1) := by decide +kernel
theorem dX12_logAt_12 : decode cX12_logAt 12 = .ok (.lsub, 1) := by decide +kernel
theorem dX12_logAt_13 : decode cX12_logAt 13 = .ok (.lstore_n 3, 1) := by decide +kernel
theorem dX12_logAt_14 : decode cX12_logAt 14 = .ok (.lload_n 1, 1) := by decide +kernel
theorem dX12_logAt_15 : decode cX12_logAt 15 = .ok (.lload_n 3, 1) := by decide +kernel
theorem dX12_logAt_16 : decode cX12_logAt 16 = .ok (.aload_n 0, 1) := by decide +kernel
theorem dX12_logAt_17 : decode cX12_logAt 17 = .ok (.getfield 16, 3) := by decide +kernel
theorem dX12_logAt_20 : decode cX12_logAt 20 = .ok (.iconst 1, 1) := by decide +kernel
theorem dX12_logAt_21 : decode cX12_logAt 21 = .ok (.laload, 1) := by decide +kernel
theorem dX12_logAt_22 : decode cX12_logAt 22 = .ok (.lconst 1, 1) := by decide +kernel
theorem dX12_logAt_23 : decode cX12_logAt 23 = .ok (.lsub, 1) := by decide +kernel
theorem dX12_logAt_24 : decode cX12_logAt 24 = .ok (.invokestatic 83, 3) := by decide +kernel
theorem dX12_logAt_27 : decode cX12_logAt 27 = .ok (.ifCond .eq 16, 3) := by decide +kernel
theorem dX12_logAt_43 : decode cX12_logAt 43 = .ok (.iconst (-1), 1) := by decide +kernel
theorem dX12_logAt_44 : decode cX12_logAt 44 = .ok (.ireturn, 1) := by decide +kernel
theorem dX12_ran_0 : decode cX12_ran 0 = .ok (.aload_n 0, 1) := by decide +kernel
theorem dX12_ran_1 : decode cX12_ran 1 = .ok (.iconst 0, 1) := by decide +kernel
theorem dX12_ran_2 : decode cX12_ran 2 = .ok (.putfield 67, 3) := by decide +kernel
theorem dX12_ran_5 : decode cX12_ran 5 = .ok (.aload_n 0, 1) := by decide +kernel
theorem dX12_ran_6 : decode cX12_ran 6 = .ok (.iload_n 1, 1) := by decide +kernel
theorem dX12_ran_7 : decode cX12_ran 7 = .ok (.i2l, 1) := by decide +kernel
theorem dX12_ran_8 : decode cX12_ran 8 = .ok (.invokevirtual 296, 3) := by decide +kernel
theorem dX12_ran_11 : decode cX12_ran 11 = .ok (.istore_n 2, 1) := by decide +kernel
theorem dX12_ran_12 : decode cX12_ran 12 = .ok (.iload_n 2, 1) := by decide +kernel
theorem dX12_ran_13 : decode cX12_ran 13 = .ok (.iconst (-1), 1) := by decide +kernel
theorem dX12_ran_14 : decode cX12_ran 14 = .ok (.if_icmp .ne 7, 3) := by decide +kernel
theorem dX12_ran_17 : decode cX12_ran 17 = .ok (.iconst (-1), 1) := by decide +kernel
theorem dX12_ran_18 : decode cX12_ran 18 = .ok (.goto 10, 3) := by decide +kernel
theorem dX12_ran_28 : decode cX12_ran 28 = .ok (.ireturn, 1) := by decide +kernel
theorem dX12_service_0 : decode cX12_service 0 = .ok (.aload_n 0, 1) := by decide +kernel
theorem dX12_service_1 : decode cX12_service 1 = .ok (.iconst 0, 1) := by decide +kernel
theorem dX12_service_2 : decode cX12_service 2 = .ok (.putfield 67, 3) := by decide +kernel
theorem dX12_service_5 : decode cX12_service 5 = .ok (.aload_n 0, 1) := by decide +kernel
theorem dX12_service_6 : decode cX12_service 6 = .ok (.iload_n 1, 1) := by decide +kernel
theorem dX12_service_7 : decode cX12_service 7 = .ok (.invokevirtual 142, 3) := by decide +kernel
theorem dX12_service_10 : decode cX12_service 10 = .ok (.ifCond .eq 12, 3) := by decide +kernel
theorem dX12_service_22 : decode cX12_service 22 = .ok (.iconst (-1), 1) := by decide +kernel
theorem dX12_service_23 : decode cX12_service 23 = .ok (.ireturn, 1) := by decide +kernel
theorem dX12_share_0 : decode cX12_share 0 = .ok (.aload_n 0, 1) := by decide +kernel
theorem dX12_share_1 : decode cX12_share 1 = .ok (.iconst 0, 1) := by decide +kernel
theorem dX12_share_2 : decode cX12_share 2 = .ok (.putfield 67, 3) := by decide +kernel
theorem dX12_share_5 : decode cX12_share 5 = .ok (.aload_n 0, 1) := by decide +kernel
theorem dX12_share_6 : decode cX12_share 6 = .ok (.iload_n 1, 1) := by decide +kernel
theorem dX12_share_7 : decode cX12_share 7 = .ok (.invokevirtual 142, 3) := by decide +kernel
theorem dX12_share_10 : decode cX12_share 10 = .ok (.ifCond .eq 12, 3) := by decide +kernel
theorem dX12_share_22 : decode cX12_share 22 = .ok (.ldc2_w 291, 3) := by decide +kernel
theorem dX12_share_25 : decode cX12_share 25 = .ok (.lreturn, 1) := by decide +kernel
theorem dX12_worst_0 : decode cX12_worst 0 = .ok (.aload_n 0, 1) := by decide +kernel
theorem dX12_worst_1 : decode cX12_worst 1 = .ok (.iconst 0, 1) := by decide +kernel
theorem dX12_worst_2 : decode cX12_worst 2 = .ok (.putfield 67, 3) := by decide +kernel
theorem dX12_worst_5 : decode cX12_worst 5 = .ok (.aload_n 0, 1) := by decide +kernel
theorem dX12_worst_6 : decode cX12_worst 6 = .ok (.iload_n 1, 1) := by decide +kernel
theorem dX12_worst_7 : decode cX12_worst 7 = .ok (.invokevirtual 142, 3) := by decide +kernel
theorem dX12_worst_10 : decode cX12_worst 10 = .ok (.ifCond .eq 13, 3) := by decide +kernel
theorem dX12_worst_23 : decode cX12_worst 23 = .ok (.ldc2_w 291, 3) := by decide +kernel
theorem dX12_worst_26 : decode cX12_worst 26 = .ok (.lreturn, 1) := by decide +kernel
theorem dX12_ahead_0 : decode cX12_ahead 0 = .ok (.aload_n 0, 1) := by decide +kernel
theorem dX12_ahead_1 : decode cX12_ahead 1 = .ok (.iconst 0, 1) := by decide +kernel
theorem dX12_ahead_2 : decode cX12_ahead 2 = .ok (.putfield 67, 3) := by decide +kernel
theorem dX12_ahead_5 : decode cX12_ahead 5 = .ok (.iload_n 1, 1) := by decide +kernel
theorem dX12_ahead_6 : decode cX12_ahead 6 = .ok (.i2l, 1) := by decide +kernel
theorem dX12_ahead_7 : decode cX12_ahead 7 = .ok (.lconst 1, 1) := by decide +kernel
theorem dX12_ahead_8 : decode cX12_ahead 8 = .ok (.ldc2_w 172, 3) := by decide +kernel
theorem dX12_ahead_11 : decode cX12_ahead 11 = .ok (.invokestatic 83, 3) := by decide +kernel
theorem dX12_ahead_14 : decode cX12_ahead 14 = .ok (.ifCond .eq 19, 3) := by decide +kernel
theorem dX12_ahead_17 : decode cX12_ahead 17 = .ok (.aload_n 0, 1) := by decide +kernel
theorem dX12_ahead_18 : decode cX12_ahead 18 = .ok (.getfield 16, 3) := by decide +kernel
theorem dX12_ahead_21 : decode cX12_ahead 21 = .ok (.iconst 1, 1) := by decide +kernel
theorem dX12_ahead_22 : decode cX12_ahead 22 = .ok (.laload, 1) := by decide +kernel
theorem dX12_ahead_23 : decode cX12_ahead 23 = .ok (.iload_n 1, 1) := by decide +kernel
theorem dX12_ahead_24 : decode cX12_ahead 24 = .ok (.i2l, 1) := by decide +kernel
theorem dX12_ahead_25 : decode cX12_ahead 25 = .ok (.ladd, 1) := by decide +kernel
theorem dX12_ahead_26 : decode cX12_ahead 26 = .ok (.ldc2_w 286, 3) := by decide +kernel
theorem dX12_ahead_29 : decode cX12_ahead 29 = .ok (.lcmp, 1) := by decide +kernel
theorem dX12_ahead_30 : decode cX12_ahead 30 = .ok (.ifCond .le 5, 3) := by decide +kernel
theorem dX12_ahead_33 : decode cX12_ahead 33 = .ok (.iconst (-1), 1) := by decide +kernel
theorem dX12_ahead_34 : decode cX12_ahead 34 = .ok (.ireturn, 1) := by decide +kernel
theorem dX12_ahead_35 : decode cX12_ahead 35 = .ok (.aload_n 0, 1) := by decide +kernel
theorem dX12_ahead_36 : decode cX12_ahead 36 = .ok (.invokevirtual 310, 3) := by decide +kernel
theorem dX12_ahead_39 : decode cX12_ahead 39 = .ok (.iconst (-1), 1) := by decide +kernel
theorem dX12_ahead_40 : decode cX12_ahead 40 = .ok (.istore_n 2, 1) := by decide +kernel
theorem dX12_ahead_41 : decode cX12_ahead 41 = .ok (.iconst 0, 1) := by decide +kernel
theorem dX12_ahead_42 : decode cX12_ahead 42 = .ok (.istore_n 3, 1) := by decide +kernel
theorem dX12_ahead_43 : decode cX12_ahead 43 = .ok (.iload_n 3, 1) := by decide +kernel
theorem dX12_ahead_44 : decode cX12_ahead 44 = .ok (.iload_n 1, 1) := by decide +kernel
theorem dX12_ahead_45 : decode cX12_ahead 45 = .ok (.if_icmp .ge 15, 3) := by decide +kernel
theorem dX12_ahead_48 : decode cX12_ahead 48 = .ok (.aload_n 0, 1) := by decide +kernel
theorem dX12_ahead_49 : decode cX12_ahead 49 = .ok (.iconst 0, 1) := by decide +kernel
theorem dX12_ahead_50 : decode cX12_ahead 50 = .ok (.invokevirtual 288, 3) := by decide +kernel
theorem dX12_ahead_53 : decode cX12_ahead 53 = .ok (.istore_n 2, 1) := by decide +kernel
theorem dX12_ahead_54 : decode cX12_ahead 54 = .ok (.iinc 3 1, 3) := by decide +kernel
theorem dX12_ahead_57 : decode cX12_ahead 57 = .ok (.goto (-14), 3) := by decide +kernel
theorem dX12_ahead_60 : decode cX12_ahead 60 = .ok (.aload_n 0, 1) := by decide +kernel
theorem dX12_ahead_61 : decode cX12_ahead 61 = .ok (.invokevirtual 313, 3) := by decide +kernel
theorem dX12_ahead_64 : decode cX12_ahead 64 = .ok (.iload_n 2, 1) := by decide +kernel
theorem dX12_ahead_65 : decode cX12_ahead 65 = .ok (.ireturn, 1) := by decide +kernel
theorem dX12_finish_0 : decode cX12_finish 0 = .ok (.aload_n 0, 1) := by decide +kernel
theorem dX12_finish_1 : decode cX12_finish 1 = .ok (.iconst 0, 1) := by decide +kernel
theorem dX12_finish_2 : decode cX12_finish 2 = .ok (.putfield 67, 3) := by decide +kernel
theorem dX12_finish_5 : decode cX12_finish 5 = .ok (.aload_n 0, 1) := by decide +kernel
theorem dX12_finish_6 : decode cX12_finish 6 = .ok (.iload_n 1, 1) := by decide +kernel
theorem dX12_finish_7 : decode cX12_finish 7 = .ok (.invokevirtual 142, 3) := by decide +kernel
theorem dX12_finish_10 : decode cX12_finish 10 = .ok (.ifCond .eq 20, 3) := by decide +kernel
theorem dX12_finish_30 : decode cX12_finish 30 = .ok (.iconst (-1), 1) := by decide +kernel
theorem dX12_finish_31 : decode cX12_finish 31 = .ok (.ireturn, 1) := by decide +kernel
theorem dX12_due_0 : decode cX12_due 0 = .ok (.aload_n 0, 1) := by decide +kernel
theorem dX12_due_1 : decode cX12_due 1 = .ok (.iconst 0, 1) := by decide +kernel
theorem dX12_due_2 : decode cX12_due 2 = .ok (.putfield 67, 3) := by decide +kernel
theorem dX12_due_5 : decode cX12_due 5 = .ok (.aload_n 0, 1) := by decide +kernel
theorem dX12_due_6 : decode cX12_due 6 = .ok (.iload_n 1, 1) := by decide +kernel
theorem dX12_due_7 : decode cX12_due 7 = .ok (.invokevirtual 142, 3) := by decide +kernel
theorem dX12_due_10 : decode cX12_due 10 = .ok (.ifCond .ne 5, 3) := by decide +kernel
theorem dX12_due_13 : decode cX12_due 13 = .ok (.iconst (-1), 1) := by decide +kernel
theorem dX12_due_14 : decode cX12_due 14 = .ok (.ireturn, 1) := by decide +kernel
theorem dX12_least_0 : decode cX12_least 0 = .ok (.aload_n 0, 1) := by decide +kernel
theorem dX12_least_1 : decode cX12_least 1 = .ok (.iconst 0, 1) := by decide +kernel
theorem dX12_least_2 : decode cX12_least 2 = .ok (.putfield 67, 3) := by decide +kernel
theorem dX12_least_5 : decode cX12_least 5 = .ok (.aload_n 0, 1) := by decide +kernel
theorem dX12_least_6 : decode cX12_least 6 = .ok (.iload_n 1, 1) := by decide +kernel
theorem dX12_least_7 : decode cX12_least 7 = .ok (.invokevirtual 142, 3) := by decide +kernel
theorem dX12_least_10 : decode cX12_least 10 = .ok (.ifCond .eq 42, 3) := by decide +kernel
theorem dX12_least_52 : decode cX12_least 52 = .ok (.iconst (-1), 1) := by decide +kernel
theorem dX12_least_53 : decode cX12_least 53 = .ok (.ireturn, 1) := by decide +kernel
theorem dX12_lookAtLags_0 : decode cX12_lookAtLags 0 = .ok (.iconst 0, 1) := by decide +kernel
theorem dX12_lookAtLags_1 : decode cX12_lookAtLags 1 = .ok (.istore_n 1, 1) := by decide +kernel
theorem dX12_lookAtLags_2 : decode cX12_lookAtLags 2 = .ok (.iload_n 1, 1) := by decide +kernel
theorem dX12_lookAtLags_3 : decode cX12_lookAtLags 3 = .ok (.i2l, 1) := by decide +kernel
theorem dX12_lookAtLags_4 : decode cX12_lookAtLags 4 = .ok (.aload_n 0, 1) := by decide +kernel
theorem dX12_lookAtLags_5 : decode cX12_lookAtLags 5 = .ok (.getfield 16, 3) := by decide +kernel
theorem dX12_lookAtLags_8 : decode cX12_lookAtLags 8 = .ok (.iconst 0, 1) := by decide +kernel
theorem dX12_lookAtLags_9 : decode cX12_lookAtLags 9 = .ok (.laload, 1) := by decide +kernel
theorem dX12_lookAtLags_10 : decode cX12_lookAtLags 10 = .ok (.lcmp, 1) := by decide +kernel
theorem dX12_lookAtLags_11 : decode cX12_lookAtLags 11 = .ok (.ifCond .ge 80, 3) := by decide +kernel
theorem dX12_lookAtLags_91 : decode cX12_lookAtLags 91 = .ok (.return_, 1) := by decide +kernel
theorem dX12_would_0 : decode cX12_would 0 = .ok (.aload_n 0, 1) := by decide +kernel
theorem dX12_would_1 : decode cX12_would 1 = .ok (.iconst 0, 1) := by decide +kernel
theorem dX12_would_2 : decode cX12_would 2 = .ok (.putfield 67, 3) := by decide +kernel
theorem dX12_would_5 : decode cX12_would 5 = .ok (.iload_n 1, 1) := by decide +kernel
theorem dX12_would_6 : decode cX12_would 6 = .ok (.i2l, 1) := by decide +kernel
theorem dX12_would_7 : decode cX12_would 7 = .ok (.lconst 0, 1) := by decide +kernel
theorem dX12_would_8 : decode cX12_would 8 = .ok (.ldc2_w 227, 3) := by decide +kernel
theorem dX12_would_11 : decode cX12_would 11 = .ok (.invokestatic 83, 3) := by decide +kernel
theorem dX12_would_14 : decode cX12_would 14 = .ok (.ifCond .eq 43, 3) := by decide +kernel
theorem dX12_would_17 : decode cX12_would 17 = .ok (.iload_n 2, 1) := by decide +kernel
theorem dX12_would_18 : decode cX12_would 18 = .ok (.i2l, 1) := by decide +kernel
theorem dX12_would_19 : decode cX12_would 19 = .ok (.lconst 1, 1) := by decide +kernel
theorem dX12_would_20 : decode cX12_would 20 = .ok (.ldc2_w 172, 3) := by decide +kernel
theorem dX12_would_23 : decode cX12_would 23 = .ok (.invokestatic 83, 3) := by decide +kernel
theorem dX12_would_26 : decode cX12_would 26 = .ok (.ifCond .eq 31, 3) := by decide +kernel
theorem dX12_would_29 : decode cX12_would 29 = .ok (.iload_n 3, 1) := by decide +kernel
theorem dX12_would_30 : decode cX12_would 30 = .ok (.i2l, 1) := by decide +kernel
theorem dX12_would_31 : decode cX12_would 31 = .ok (.lconst 0, 1) := by decide +kernel
theorem dX12_would_32 : decode cX12_would 32 = .ok (.ldc2_w 124, 3) := by decide +kernel
theorem dX12_would_35 : decode cX12_would 35 = .ok (.invokestatic 83, 3) := by decide +kernel
theorem dX12_would_38 : decode cX12_would 38 = .ok (.ifCond .eq 19, 3) := by decide +kernel
theorem dX12_would_41 : decode cX12_would 41 = .ok (.aload_n 0, 1) := by decide +kernel
theorem dX12_would_42 : decode cX12_would 42 = .ok (.getfield 16, 3) := by decide +kernel
theorem dX12_would_45 : decode cX12_would 45 = .ok (.iconst 1, 1) := by decide +kernel
theorem dX12_would_46 : decode cX12_would 46 = .ok (.laload, 1) := by decide +kernel
theorem dX12_would_47 : decode cX12_would 47 = .ok (.iload_n 2, 1) := by decide +kernel
theorem dX12_would_48 : decode cX12_would 48 = .ok (.i2l, 1) := by decide +kernel
theorem dX12_would_49 : decode cX12_would 49 = .ok (.ladd, 1) := by decide +kernel
theorem dX12_would_50 : decode cX12_would 50 = .ok (.ldc2_w 286, 3) := by decide +kernel
theorem dX12_would_53 : decode cX12_would 53 = .ok (.lcmp, 1) := by decide +kernel
theorem dX12_would_54 : decode cX12_would 54 = .ok (.ifCond .le 7, 3) := by decide +kernel
theorem dX12_would_57 : decode cX12_would 57 = .ok (.ldc_w 330, 3) := by decide +kernel
theorem dX12_would_60 : decode cX12_would 60 = .ok (.ireturn, 1) := by decide +kernel
theorem dX12_would_61 : decode cX12_would 61 = .ok (.aload_n 0, 1) := by decide +kernel
theorem dX12_would_62 : decode cX12_would 62 = .ok (.invokevirtual 310, 3) := by decide +kernel
theorem dX12_would_65 : decode cX12_would 65 = .ok (.aload_n 0, 1) := by decide +kernel
theorem dX12_would_66 : decode cX12_would 66 = .ok (.aload_n 0, 1) := by decide +kernel
theorem dX12_would_67 : decode cX12_would 67 = .ok (.getfield 13, 3) := by decide +kernel
theorem dX12_would_70 : decode cX12_would 70 = .ok (.iconst 2, 1) := by decide +kernel
theorem dX12_would_71 : decode cX12_would 71 = .ok (.iaload, 1) := by decide +kernel
theorem dX12_would_72 : decode cX12_would 72 = .ok (.i2l, 1) := by decide +kernel
theorem dX12_would_73 : decode cX12_would 73 = .ok (.putfield 249, 3) := by decide +kernel
theorem dX12_would_76 : decode cX12_would 76 = .ok (.aload_n 0, 1) := by decide +kernel
theorem dX12_would_77 : decode cX12_would 77 = .ok (.lconst 0, 1) := by decide +kernel
theorem dX12_would_78 : decode cX12_would 78 = .ok (.putfield 322, 3) := by decide +kernel
theorem dX12_would_81 : decode cX12_would 81 = .ok (.aload_n 0, 1) := by decide +kernel
theorem dX12_would_82 : decode cX12_would 82 = .ok (.lconst 0, 1) := by decide +kernel
theorem dX12_would_83 : decode cX12_would 83 = .ok (.putfield 325, 3) := by decide +kernel
theorem dX12_would_86 : decode cX12_would 86 = .ok (.iconst 0, 1) := by decide +kernel
theorem dX12_would_87 : decode cX12_would 87 = .ok (.istore 4, 2) := by decide +kernel
theorem dX12_would_89 : decode cX12_would 89 = .ok (.iconst 0, 1) := by decide +kernel
theorem dX12_would_90 : decode cX12_would 90 = .ok (.istore 5, 2) := by decide +kernel
theorem dX12_would_92 : decode cX12_would 92 = .ok (.iconst 0, 1) := by decide +kernel
theorem dX12_would_93 : decode cX12_would 93 = .ok (.istore 6, 2) := by decide +kernel
theorem dX12_would_95 : decode cX12_would 95 = .ok (.iload 6, 2) := by decide +kernel
theorem dX12_would_97 : decode cX12_would 97 = .ok (.iload_n 2, 1) := by decide +kernel
theorem dX12_would_98 : decode cX12_would 98 = .ok (.if_icmp .ge 69, 3) := by decide +kernel
theorem dX12_would_101 : decode cX12_would 101 = .ok (.aload_n 0, 1) := by decide +kernel
theorem dX12_would_102 : decode cX12_would 102 = .ok (.getfield 16, 3) := by decide +kernel
theorem dX12_would_105 : decode cX12_would 105 = .ok (.iconst 3, 1) := by decide +kernel
theorem dX12_would_106 : decode cX12_would 106 = .ok (.laload, 1) := by decide +kernel
theorem dX12_would_107 : decode cX12_would 107 = .ok (.lstore 7, 2) := by decide +kernel
theorem dX12_would_109 : decode cX12_would 109 = .ok (.aload_n 0, 1) := by decide +kernel
theorem dX12_would_110 : decode cX12_would 110 = .ok (.iload_n 1, 1) := by decide +kernel
theorem dX12_would_111 : decode cX12_would 111 = .ok (.invokevirtual 288, 3) := by decide +kernel
theorem dX12_would_114 : decode cX12_would 114 = .ok (.istore 9, 2) := by decide +kernel
theorem dX12_would_116 : decode cX12_would 116 = .ok (.iload 5, 2) := by decide +kernel
theorem dX12_would_118 : decode cX12_would 118 = .ok (.iload 9, 2) := by decide +kernel
theorem dX12_would_120 : decode cX12_would 120 = .ok (.iconst (-1), 1) := by decide +kernel
theorem dX12_would_121 : decode cX12_would 121 = .ok (.if_icmp .ne 7, 3) := by decide +kernel
theorem dX12_would_124 : decode cX12_would 124 = .ok (.iconst 1, 1) := by decide +kernel
theorem dX12_would_125 : decode cX12_would 125 = .ok (.goto 4, 3) := by decide +kernel
theorem dX12_would_129 : decode cX12_would 129 = .ok (.iadd, 1) := by decide +kernel
theorem dX12_would_130 : decode cX12_would 130 = .ok (.istore 5, 2) := by decide +kernel
theorem dX12_would_132 : decode cX12_would 132 = .ok (.iload 4, 2) := by decide +kernel
theorem dX12_would_134 : decode cX12_would 134 = .ok (.iload 9, 2) := by decide +kernel
theorem dX12_would_136 : decode cX12_would 136 = .ok (.iconst (-1), 1) := by decide +kernel
theorem dX12_would_137 : decode cX12_would 137 = .ok (.if_icmp .eq 16, 3) := by decide +kernel
theorem dX12_would_153 : decode cX12_would 153 = .ok (.iconst 0, 1) := by decide +kernel
theorem dX12_would_154 : decode cX12_would 154 = .ok (.iadd, 1) := by decide +kernel
theorem dX12_would_155 : decode cX12_would 155 = .ok (.istore 4, 2) := by decide +kernel
theorem dX12_would_157 : decode cX12_would 157 = .ok (.aload_n 0, 1) := by decide +kernel
theorem dX12_would_158 : decode cX12_would 158 = .ok (.invokevirtual 331, 3) := by decide +kernel
theorem dX12_would_161 : decode cX12_would 161 = .ok (.iinc 6 1, 3) := by decide +kernel
theorem dX12_would_164 : decode cX12_would 164 = .ok (.goto (-69), 3) := by decide +kernel
theorem dX12_would_167 : decode cX12_would 167 = .ok (.aload_n 0, 1) := by decide +kernel
theorem dX12_would_168 : decode cX12_would 168 = .ok (.invokevirtual 313, 3) := by decide +kernel
theorem dX12_would_171 : decode cX12_would 171 = .ok (.iload_n 3, 1) := by decide +kernel
theorem dX12_would_172 : decode cX12_would 172 = .ok (.ifCond .ne 11, 3) := by decide +kernel
theorem dX12_would_175 : decode cX12_would 175 = .ok (.aload_n 0, 1) := by decide +kernel
theorem dX12_would_176 : decode cX12_would 176 = .ok (.getfield 322, 3) := by decide +kernel
theorem dX12_would_179 : decode cX12_would 179 = .ok (.l2i, 1) := by decide +kernel
theorem dX12_would_180 : decode cX12_would 180 = .ok (.goto 28, 3) := by decide +kernel
theorem dX12_would_183 : decode cX12_would 183 = .ok (.iload_n 3, 1) := by decide +kernel
theorem dX12_would_184 : decode cX12_would 184 = .ok (.iconst 1, 1) := by decide +kernel
theorem dX12_would_185 : decode cX12_would 185 = .ok (.if_icmp .ne 11, 3) := by decide +kernel
theorem dX12_would_188 : decode cX12_would 188 = .ok (.aload_n 0, 1) := by decide +kernel
theorem dX12_would_189 : decode cX12_would 189 = .ok (.getfield 325, 3) := by decide +kernel
theorem dX12_would_192 : decode cX12_would 192 = .ok (.l2i, 1) := by decide +kernel
theorem dX12_would_193 : decode cX12_would 193 = .ok (.goto 15, 3) := by decide +kernel
theorem dX12_would_196 : decode cX12_would 196 = .ok (.iload_n 3, 1) := by decide +kernel
theorem dX12_would_197 : decode cX12_would 197 = .ok (.iconst 2, 1) := by decide +kernel
theorem dX12_would_198 : decode cX12_would 198 = .ok (.if_icmp .ne 8, 3) := by decide +kernel
theorem dX12_would_201 : decode cX12_would 201 = .ok (.iload 4, 2) := by decide +kernel
theorem dX12_would_203 : decode cX12_would 203 = .ok (.goto 5, 3) := by decide +kernel
theorem dX12_would_206 : decode cX12_would 206 = .ok (.iload 5, 2) := by decide +kernel
theorem dX12_would_208 : decode cX12_would 208 = .ok (.ireturn, 1) := by decide +kernel
theorem dX12_inState_0 : decode cX12_inState 0 = .ok (.iconst 0, 1) := by decide +kernel
theorem dX12_inState_1 : decode cX12_inState 1 = .ok (.istore_n 2, 1) := by decide +kernel
theorem dX12_inState_2 : decode cX12_inState 2 = .ok (.iconst 0, 1) := by decide +kernel
theorem dX12_inState_3 : decode cX12_inState 3 = .ok (.istore_n 3, 1) := by decide +kernel
theorem dX12_inState_4 : decode cX12_inState 4 = .ok (.iload_n 3, 1) := by decide +kernel
theorem dX12_inState_5 : decode cX12_inState 5 = .ok (.i2l, 1) := by decide +kernel
theorem dX12_inState_6 : decode cX12_inState 6 = .ok (.aload_n 0, 1) := by decide +kernel
theorem dX12_inState_7 : decode cX12_inState 7 = .ok (.getfield 16, 3) := by decide +kernel
theorem dX12_inState_10 : decode cX12_inState 10 = .ok (.iconst 0, 1) := by decide +kernel
theorem dX12_inState_11 : decode cX12_inState 11 = .ok (.laload, 1) := by decide +kernel
theorem dX12_inState_12 : decode cX12_inState 12 = .ok (.lcmp, 1) := by decide +kernel
theorem dX12_inState_13 : decode cX12_inState 13 = .ok (.ifCond .ge 34, 3) := by decide +kernel
theorem dX12_inState_47 : decode cX12_inState 47 = .ok (.iload_n 2, 1) := by decide +kernel
theorem dX12_inState_48 : decode cX12_inState 48 = .ok (.ireturn, 1) := by decide +kernel
theorem dX12_scripted_0 : decode cX12_scripted 0 = .ok (.iconst 0, 1) := by decide +kernel
theorem dX12_scripted_1 : decode cX12_scripted 1 = .ok (.istore_n 1, 1) := by decide +kernel
theorem dX12_scripted_2 : decode cX12_scripted 2 = .ok (.iconst 0, 1) := by decide +kernel
theorem dX12_scripted_3 : decode cX12_scripted 3 = .ok (.istore_n 2, 1) := by decide +kernel
theorem dX12_scripted_4 : decode cX12_scripted 4 = .ok (.iload_n 2, 1) := by decide +kernel
theorem dX12_scripted_5 : decode cX12_scripted 5 = .ok (.i2l, 1) := by decide +kernel
theorem dX12_scripted_6 : decode cX12_scripted 6 = .ok (.aload_n 0, 1) := by decide +kernel
theorem dX12_scripted_7 : decode cX12_scripted 7 = .ok (.getfield 16, 3) := by decide +kernel
theorem dX12_scripted_10 : decode cX12_scripted 10 = .ok (.iconst 0, 1) := by decide +kernel
theorem dX12_scripted_11 : decode cX12_scripted 11 = .ok (.laload, 1) := by decide +kernel
theorem dX12_scripted_12 : decode cX12_scripted 12 = .ok (.lcmp, 1) := by decide +kernel
theorem dX12_scripted_13 : decode cX12_scripted 13 = .ok (.ifCond .ge 34, 3) := by decide +kernel
theorem dX12_scripted_47 : decode cX12_scripted 47 = .ok (.iload_n 1, 1) := by decide +kernel
theorem dX12_scripted_48 : decode cX12_scripted 48 = .ok (.ireturn, 1) := by decide +kernel
theorem dX12_count_0 : decode cX12_count 0 = .ok (.aload_n 0, 1) := by decide +kernel
theorem dX12_count_1 : decode cX12_count 1 = .ok (.iconst 0, 1) := by decide +kernel
theorem dX12_count_2 : decode cX12_count 2 = .ok (.putfield 67, 3) := by decide +kernel
theorem dX12_count_5 : decode cX12_count 5 = .ok (.iload_n 1, 1) := by decide +kernel
theorem dX12_count_6 : decode cX12_count 6 = .ok (.tableswitch 153 0 12 #[66, 74, 80, 86, 91, 99, 107, 112, 117, 124, 131, 138, 145], 66) := by decide +kernel
theorem dX12_count_72 : decode cX12_count 72 = .ok (.aload_n 0, 1) := by decide +kernel
theorem dX12_count_73 : decode cX12_count 73 = .ok (.getfield 16, 3) := by decide +kernel
theorem dX12_count_76 : decode cX12_count 76 = .ok (.iconst 0, 1) := by decide +kernel
theorem dX12_count_77 : decode cX12_count 77 = .ok (.laload, 1) := by decide +kernel
theorem dX12_count_78 : decode cX12_count 78 = .ok (.l2i, 1) := by decide +kernel
theorem dX12_count_79 : decode cX12_count 79 = .ok (.ireturn, 1) := by decide +kernel
theorem dX12_count_80 : decode cX12_count 80 = .ok (.aload_n 0, 1) := by decide +kernel
theorem dX12_count_81 : decode cX12_count 81 = .ok (.iconst 1, 1) := by decide +kernel
theorem dX12_count_82 : decode cX12_count 82 = .ok (.invokevirtual 334, 3) := by decide +kernel
theorem dX12_count_85 : decode cX12_count 85 = .ok (.ireturn, 1) := by decide +kernel
theorem dX12_count_86 : decode cX12_count 86 = .ok (.aload_n 0, 1) := by decide +kernel
theorem dX12_count_87 : decode cX12_count 87 = .ok (.iconst 2, 1) := by decide +kernel
theorem dX12_count_88 : decode cX12_count 88 = .ok (.invokevirtual 334, 3) := by decide +kernel
theorem dX12_count_91 : decode cX12_count 91 = .ok (.ireturn, 1) := by decide +kernel
theorem dX12_count_92 : decode cX12_count 92 = .ok (.aload_n 0, 1) := by decide +kernel
theorem dX12_count_93 : decode cX12_count 93 = .ok (.invokevirtual 337, 3) := by decide +kernel
theorem dX12_count_96 : decode cX12_count 96 = .ok (.ireturn, 1) := by decide +kernel
theorem dX12_count_97 : decode cX12_count 97 = .ok (.aload_n 0, 1) := by decide +kernel
theorem dX12_count_98 : decode cX12_count 98 = .ok (.getfield 16, 3) := by decide +kernel
theorem dX12_count_101 : decode cX12_count 101 = .ok (.iconst 3, 1) := by decide +kernel
theorem dX12_count_102 : decode cX12_count 102 = .ok (.laload, 1) := by decide +kernel
theorem dX12_count_103 : decode cX12_count 103 = .ok (.l2i, 1) := by decide +kernel
theorem dX12_count_104 : decode cX12_count 104 = .ok (.ireturn, 1) := by decide +kernel
theorem dX12_count_105 : decode cX12_count 105 = .ok (.aload_n 0, 1) := by decide +kernel
theorem dX12_count_106 : decode cX12_count 106 = .ok (.getfield 16, 3) := by decide +kernel
theorem dX12_count_109 : decode cX12_count 109 = .ok (.iconst 5, 1) := by decide +kernel
theorem dX12_count_110 : decode cX12_count 110 = .ok (.laload, 1) := by decide +kernel
theorem dX12_count_111 : decode cX12_count 111 = .ok (.l2i, 1) := by decide +kernel
theorem dX12_count_112 : decode cX12_count 112 = .ok (.ireturn, 1) := by decide +kernel
theorem dX12_count_113 : decode cX12_count 113 = .ok (.aload_n 0, 1) := by decide +kernel
theorem dX12_count_114 : decode cX12_count 114 = .ok (.getfield 73, 3) := by decide +kernel
theorem dX12_count_117 : decode cX12_count 117 = .ok (.ireturn, 1) := by decide +kernel
theorem dX12_count_118 : decode cX12_count 118 = .ok (.aload_n 0, 1) := by decide +kernel
theorem dX12_count_119 : decode cX12_count 119 = .ok (.getfield 128, 3) := by decide +kernel
theorem dX12_count_122 : decode cX12_count 122 = .ok (.ireturn, 1) := by decide +kernel
theorem dX12_count_123 : decode cX12_count 123 = .ok (.aload_n 0, 1) := by decide +kernel
theorem dX12_count_124 : decode cX12_count 124 = .ok (.getfield 7, 3) := by decide +kernel
theorem dX12_count_127 : decode cX12_count 127 = .ok (.iconst 1, 1) := by decide +kernel
theorem dX12_count_128 : decode cX12_count 128 = .ok (.iaload, 1) := by decide +kernel
theorem dX12_count_129 : decode cX12_count 129 = .ok (.ireturn, 1) := by decide +kernel
theorem dX12_count_130 : decode cX12_count 130 = .ok (.aload_n 0, 1) := by decide +kernel
theorem dX12_count_131 : decode cX12_count 131 = .ok (.getfield 7, 3) := by decide +kernel
theorem dX12_count_134 : decode cX12_count 134 = .ok (.iconst 2, 1) := by decide +kernel
theorem dX12_count_135 : decode cX12_count 135 = .ok (.iaload, 1) := by decide +kernel
theorem dX12_count_136 : decode cX12_count 136 = .ok (.ireturn, 1) := by decide +kernel
theorem dX12_count_137 : decode cX12_count 137 = .ok (.aload_n 0, 1) := by decide +kernel
theorem dX12_count_138 : decode cX12_count 138 = .ok (.getfield 7, 3) := by decide +kernel
theorem dX12_count_141 : decode cX12_count 141 = .ok (.iconst 4, 1) := by decide +kernel
theorem dX12_count_142 : decode cX12_count 142 = .ok (.iaload, 1) := by decide +kernel
theorem dX12_count_143 : decode cX12_count 143 = .ok (.ireturn, 1) := by decide +kernel
theorem dX12_count_144 : decode cX12_count 144 = .ok (.aload_n 0, 1) := by decide +kernel
theorem dX12_count_145 : decode cX12_count 145 = .ok (.getfield 7, 3) := by decide +kernel
theorem dX12_count_148 : decode cX12_count 148 = .ok (.iconst 5, 1) := by decide +kernel
theorem dX12_count_149 : decode cX12_count 149 = .ok (.iaload, 1) := by decide +kernel
theorem dX12_count_150 : decode cX12_count 150 = .ok (.ireturn, 1) := by decide +kernel
theorem dX12_count_151 : decode cX12_count 151 = .ok (.aload_n 0, 1) := by decide +kernel
theorem dX12_count_152 : decode cX12_count 152 = .ok (.getfield 7, 3) := by decide +kernel
theorem dX12_count_155 : decode cX12_count 155 = .ok (.bipush 6, 2) := by decide +kernel
theorem dX12_count_157 : decode cX12_count 157 = .ok (.iaload, 1) := by decide +kernel
theorem dX12_count_158 : decode cX12_count 158 = .ok (.ireturn, 1) := by decide +kernel
theorem dX12_count_159 : decode cX12_count 159 = .ok (.iload_n 1, 1) := by decide +kernel
theorem dX12_count_160 : decode cX12_count 160 = .ok (.i2l, 1) := by decide +kernel
theorem dX12_count_161 : decode cX12_count 161 = .ok (.ldc2_w 340, 3) := by decide +kernel
theorem dX12_count_164 : decode cX12_count 164 = .ok (.ldc2_w 304, 3) := by decide +kernel
theorem dX12_count_167 : decode cX12_count 167 = .ok (.invokestatic 83, 3) := by decide +kernel
theorem dX12_count_170 : decode cX12_count 170 = .ok (.ifCond .eq 15, 3) := by decide +kernel
theorem dX12_count_173 : decode cX12_count 173 = .ok (.aload_n 0, 1) := by decide +kernel
theorem dX12_count_174 : decode cX12_count 174 = .ok (.getfield 13, 3) := by decide +kernel
theorem dX12_count_177 : decode cX12_count 177 = .ok (.iload_n 1, 1) := by decide +kernel
theorem dX12_count_178 : decode cX12_count 178 = .ok (.bipush 13, 2) := by decide +kernel
theorem dX12_count_180 : decode cX12_count 180 = .ok (.isub, 1) := by decide +kernel
theorem dX12_count_181 : decode cX12_count 181 = .ok (.iaload, 1) := by decide +kernel
theorem dX12_count_182 : decode cX12_count 182 = .ok (.goto 18, 3) := by decide +kernel
theorem dX12_count_185 : decode cX12_count 185 = .ok (.iload_n 1, 1) := by decide +kernel
theorem dX12_count_186 : decode cX12_count 186 = .ok (.bipush 16, 2) := by decide +kernel
theorem dX12_count_188 : decode cX12_count 188 = .ok (.if_icmp .ne 11, 3) := by decide +kernel
theorem dX12_count_191 : decode cX12_count 191 = .ok (.aload_n 0, 1) := by decide +kernel
theorem dX12_count_192 : decode cX12_count 192 = .ok (.iconst 3, 1) := by decide +kernel
theorem dX12_count_193 : decode cX12_count 193 = .ok (.invokevirtual 334, 3) := by decide +kernel
theorem dX12_count_196 : decode cX12_count 196 = .ok (.goto 4, 3) := by decide +kernel
theorem dX12_count_199 : decode cX12_count 199 = .ok (.iconst (-1), 1) := by decide +kernel
theorem dX12_count_200 : decode cX12_count 200 = .ok (.ireturn, 1) := by decide +kernel
theorem dX12_status_0 : decode cX12_status 0 = .ok (.aload_n 0, 1) := by decide +kernel
theorem dX12_status_1 : decode cX12_status 1 = .ok (.iconst 0, 1) := by decide +kernel
theorem dX12_status_2 : decode cX12_status 2 = .ok (.putfield 67, 3) := by decide +kernel
theorem dX12_status_5 : decode cX12_status 5 = .ok (.aload_n 0, 1) := by decide +kernel
theorem dX12_status_6 : decode cX12_status 6 = .ok (.getfield 70, 3) := by decide +kernel
theorem dX12_status_9 : decode cX12_status 9 = .ok (.ireturn, 1) := by decide +kernel
theorem dJ9_floorDiv_f86c9_0 : decode cJ9_floorDiv_f86c9 0 = .ok (.lload_n 0, 1) := by decide +kernel
theorem dJ9_floorDiv_f86c9_1 : decode cJ9_floorDiv_f86c9 1 = .ok (.lload_n 2, 1) := by decide +kernel
theorem dJ9_floorDiv_f86c9_2 : decode cJ9_floorDiv_f86c9 2 = .ok (.ldiv, 1) := by decide +kernel
theorem dJ9_floorDiv_f86c9_3 : decode cJ9_floorDiv_f86c9 3 = .ok (.lstore 4, 2) := by decide +kernel
theorem dJ9_floorDiv_f86c9_5 : decode cJ9_floorDiv_f86c9 5 = .ok (.lload_n 0, 1) := by decide +kernel
theorem dJ9_floorDiv_f86c9_6 : decode cJ9_floorDiv_f86c9 6 = .ok (.lload_n 2, 1) := by decide +kernel
theorem dJ9_floorDiv_f86c9_7 : decode cJ9_floorDiv_f86c9 7 = .ok (.lxor, 1) := by decide +kernel
theorem dJ9_floorDiv_f86c9_8 : decode cJ9_floorDiv_f86c9 8 = .ok (.lconst 0, 1) := by decide +kernel
theorem dJ9_floorDiv_f86c9_9 : decode cJ9_floorDiv_f86c9 9 = .ok (.lcmp, 1) := by decide +kernel
theorem dJ9_floorDiv_f86c9_10 : decode cJ9_floorDiv_f86c9 10 = .ok (.ifCond .ge 17, 3) := by decide +kernel
theorem dJ9_floorDiv_f86c9_27 : decode cJ9_floorDiv_f86c9 27 = .ok (.lload 4, 2) := by decide +kernel
theorem dJ9_floorDiv_f86c9_29 : decode cJ9_floorDiv_f86c9 29 = .ok (.lreturn, 1) := by decide +kernel
theorem dJ9_floorMod_f86c9_0 : decode cJ9_floorMod_f86c9 0 = .ok (.lload_n 0, 1) := by decide +kernel
theorem dJ9_floorMod_f86c9_1 : decode cJ9_floorMod_f86c9 1 = .ok (.lload_n 2, 1) := by decide +kernel
theorem dJ9_floorMod_f86c9_2 : decode cJ9_floorMod_f86c9 2 = .ok (.lrem, 1) := by decide +kernel
theorem dJ9_floorMod_f86c9_3 : decode cJ9_floorMod_f86c9 3 = .ok (.lstore 4, 2) := by decide +kernel
theorem dJ9_floorMod_f86c9_5 : decode cJ9_floorMod_f86c9 5 = .ok (.lload_n 0, 1) := by decide +kernel
theorem dJ9_floorMod_f86c9_6 : decode cJ9_floorMod_f86c9 6 = .ok (.lload_n 2, 1) := by decide +kernel
theorem dJ9_floorMod_f86c9_7 : decode cJ9_floorMod_f86c9 7 = .ok (.lxor, 1) := by decide +kernel
theorem dJ9_floorMod_f86c9_8 : decode cJ9_floorMod_f86c9 8 = .ok (.lconst 0, 1) := by decide +kernel
theorem dJ9_floorMod_f86c9_9 : decode cJ9_floorMod_f86c9 9 = .ok (.lcmp, 1) := by decide +kernel
theorem dJ9_floorMod_f86c9_10 : decode cJ9_floorMod_f86c9 10 = .ok (.ifCond .ge 15, 3) := by decide +kernel
theorem dJ9_floorMod_f86c9_25 : decode cJ9_floorMod_f86c9 25 = .ok (.lload 4, 2) := by decide +kernel
theorem dJ9_floorMod_f86c9_27 : decode cJ9_floorMod_f86c9 27 = .ok (.lreturn, 1) := by decide +kernel
theorem dL_law_0 : decode cL_law 0 = .ok (.new 7, 3) := by decide +kernel
theorem dL_law_3 : decode cL_law 3 = .ok (.dup, 1) := by decide +kernel
theorem dL_law_4 : decode cL_law 4 = .ok (.invokespecial 9, 3) := by decide +kernel
theorem dL_law_7 : decode cL_law 7 = .ok (.astore_n 1, 1) := by decide +kernel
theorem dL_law_8 : decode cL_law 8 = .ok (.new 10, 3) := by decide +kernel
theorem dL_law_11 : decode cL_law 11 = .ok (.dup, 1) := by decide +kernel
theorem dL_law_12 : decode cL_law 12 = .ok (.invokespecial 12, 3) := by decide +kernel
theorem dL_law_15 : decode cL_law 15 = .ok (.astore_n 2, 1) := by decide +kernel
theorem dL_law_16 : decode cL_law 16 = .ok (.iconst 0, 1) := by decide +kernel
theorem dL_law_17 : decode cL_law 17 = .ok (.istore_n 3, 1) := by decide +kernel
theorem dL_law_18 : decode cL_law 18 = .ok (.iload_n 3, 1) := by decide +kernel
theorem dL_law_19 : decode cL_law 19 = .ok (.aload_n 0, 1) := by decide +kernel
theorem dL_law_20 : decode cL_law 20 = .ok (.arraylength, 1) := by decide +kernel
theorem dL_law_21 : decode cL_law 21 = .ok (.bipush 6, 2) := by decide +kernel
theorem dL_law_23 : decode cL_law 23 = .ok (.isub, 1) := by decide +kernel
theorem dL_law_24 : decode cL_law 24 = .ok (.if_icmp .gt 1186, 3) := by decide +kernel
theorem dL_law_27 : decode cL_law 27 = .ok (.aload_n 0, 1) := by decide +kernel
theorem dL_law_28 : decode cL_law 28 = .ok (.iload_n 3, 1) := by decide +kernel
theorem dL_law_29 : decode cL_law 29 = .ok (.iaload, 1) := by decide +kernel
theorem dL_law_30 : decode cL_law 30 = .ok (.bipush 63, 2) := by decide +kernel
theorem dL_law_32 : decode cL_law 32 = .ok (.iand, 1) := by decide +kernel
theorem dL_law_33 : decode cL_law 33 = .ok (.tableswitch 1171 0 35 #[159, 192, 255, 278, 301, 334, 357, 380, 413, 446, 479, 502, 545, 568, 591, 604, 627, 640, 663, 686, 719, 753, 777, 790, 813, 836, 859, 902, 946, 980, 1003, 1026, 1049, 1092, 1135, 1158], 159) := by decide +kernel
theorem dL_law_192 : decode cL_law 192 = .ok (.aload_n 1, 1) := by decide +kernel
theorem dL_law_193 : decode cL_law 193 = .ok (.aload_n 0, 1) := by decide +kernel
theorem dL_law_194 : decode cL_law 194 = .ok (.iload_n 3, 1) := by decide +kernel
theorem dL_law_195 : decode cL_law 195 = .ok (.iconst 1, 1) := by decide +kernel
theorem dL_law_196 : decode cL_law 196 = .ok (.iadd, 1) := by decide +kernel
theorem dL_law_197 : decode cL_law 197 = .ok (.iaload, 1) := by decide +kernel
theorem dL_law_198 : decode cL_law 198 = .ok (.aload_n 0, 1) := by decide +kernel
theorem dL_law_199 : decode cL_law 199 = .ok (.iload_n 3, 1) := by decide +kernel
theorem dL_law_200 : decode cL_law 200 = .ok (.iconst 2, 1) := by decide +kernel
theorem dL_law_201 : decode cL_law 201 = .ok (.iadd, 1) := by decide +kernel
theorem dL_law_202 : decode cL_law 202 = .ok (.iaload, 1) := by decide +kernel
theorem dL_law_203 : decode cL_law 203 = .ok (.invokevirtual 13, 3) := by decide +kernel
theorem dL_law_206 : decode cL_law 206 = .ok (.aload_n 2, 1) := by decide +kernel
theorem dL_law_207 : decode cL_law 207 = .ok (.aload_n 0, 1) := by decide +kernel
theorem dL_law_208 : decode cL_law 208 = .ok (.iload_n 3, 1) := by decide +kernel
theorem dL_law_209 : decode cL_law 209 = .ok (.iconst 1, 1) := by decide +kernel
theorem dL_law_210 : decode cL_law 210 = .ok (.iadd, 1) := by decide +kernel
theorem dL_law_211 : decode cL_law 211 = .ok (.iaload, 1) := by decide +kernel
theorem dL_law_212 : decode cL_law 212 = .ok (.aload_n 0, 1) := by decide +kernel
theorem dL_law_213 : decode cL_law 213 = .ok (.iload_n 3, 1) := by decide +kernel
theorem dL_law_214 : decode cL_law 214 = .ok (.iconst 2, 1) := by decide +kernel
theorem dL_law_215 : decode cL_law 215 = .ok (.iadd, 1) := by decide +kernel
theorem dL_law_216 : decode cL_law 216 = .ok (.iaload, 1) := by decide +kernel
theorem dL_law_217 : decode cL_law 217 = .ok (.invokevirtual 17, 3) := by decide +kernel
theorem dL_law_220 : decode cL_law 220 = .ok (.if_icmp .eq 984, 3) := by decide +kernel
theorem dL_law_225 : decode cL_law 225 = .ok (.aload_n 1, 1) := by decide +kernel
theorem dL_law_226 : decode cL_law 226 = .ok (.aload_n 0, 1) := by decide +kernel
theorem dL_law_227 : decode cL_law 227 = .ok (.iload_n 3, 1) := by decide +kernel
theorem dL_law_228 : decode cL_law 228 = .ok (.iconst 1, 1) := by decide +kernel
theorem dL_law_229 : decode cL_law 229 = .ok (.iadd, 1) := by decide +kernel
theorem dL_law_230 : decode cL_law 230 = .ok (.iaload, 1) := by decide +kernel
theorem dL_law_231 : decode cL_law 231 = .ok (.aload_n 0, 1) := by decide +kernel
theorem dL_law_232 : decode cL_law 232 = .ok (.iload_n 3, 1) := by decide +kernel
theorem dL_law_233 : decode cL_law 233 = .ok (.iconst 2, 1) := by decide +kernel
theorem dL_law_234 : decode cL_law 234 = .ok (.iadd, 1) := by decide +kernel
theorem dL_law_235 : decode cL_law 235 = .ok (.iaload, 1) := by decide +kernel
theorem dL_law_236 : decode cL_law 236 = .ok (.aload_n 0, 1) := by decide +kernel
theorem dL_law_237 : decode cL_law 237 = .ok (.iload_n 3, 1) := by decide +kernel
theorem dL_law_238 : decode cL_law 238 = .ok (.iconst 3, 1) := by decide +kernel
theorem dL_law_239 : decode cL_law 239 = .ok (.iadd, 1) := by decide +kernel
theorem dL_law_240 : decode cL_law 240 = .ok (.iaload, 1) := by decide +kernel
theorem dL_law_241 : decode cL_law 241 = .ok (.aload_n 0, 1) := by decide +kernel
theorem dL_law_242 : decode cL_law 242 = .ok (.iload_n 3, 1) := by decide +kernel
theorem dL_law_243 : decode cL_law 243 = .ok (.iconst 4, 1) := by decide +kernel
theorem dL_law_244 : decode cL_law 244 = .ok (.iadd, 1) := by decide +kernel
theorem dL_law_245 : decode cL_law 245 = .ok (.iaload, 1) := by decide +kernel
theorem dL_law_246 : decode cL_law 246 = .ok (.aload_n 0, 1) := by decide +kernel
theorem dL_law_247 : decode cL_law 247 = .ok (.iload_n 3, 1) := by decide +kernel
theorem dL_law_248 : decode cL_law 248 = .ok (.iconst 5, 1) := by decide +kernel
theorem dL_law_249 : decode cL_law 249 = .ok (.iadd, 1) := by decide +kernel
theorem dL_law_250 : decode cL_law 250 = .ok (.iaload, 1) := by decide +kernel
theorem dL_law_251 : decode cL_law 251 = .ok (.invokevirtual 18, 3) := by decide +kernel
theorem dL_law_254 : decode cL_law 254 = .ok (.aload_n 2, 1) := by decide +kernel
theorem dL_law_255 : decode cL_law 255 = .ok (.aload_n 0, 1) := by decide +kernel
theorem dL_law_256 : decode cL_law 256 = .ok (.iload_n 3, 1) := by decide +kernel
theorem dL_law_257 : decode cL_law 257 = .ok (.iconst 1, 1) := by decide +kernel
theorem dL_law_258 : decode cL_law 258 = .ok (.iadd, 1) := by decide +kernel
theorem dL_law_259 : decode cL_law 259 = .ok (.iaload, 1) := by decide +kernel
theorem dL_law_260 : decode cL_law 260 = .ok (.aload_n 0, 1) := by decide +kernel
theorem dL_law_261 : decode cL_law 261 = .ok (.iload_n 3, 1) := by decide +kernel
theorem dL_law_262 : decode cL_law 262 = .ok (.iconst 2, 1) := by decide +kernel
theorem dL_law_263 : decode cL_law 263 = .ok (.iadd, 1) := by decide +kernel
theorem dL_law_264 : decode cL_law 264 = .ok (.iaload, 1) := by decide +kernel
theorem dL_law_265 : decode cL_law 265 = .ok (.aload_n 0, 1) := by decide +kernel
theorem dL_law_266 : decode cL_law 266 = .ok (.iload_n 3, 1) := by decide +kernel
theorem dL_law_267 : decode cL_law 267 = .ok (.iconst 3, 1) := by decide +kernel
theorem dL_law_268 : decode cL_law 268 = .ok (.iadd, 1) := by decide +kernel
theorem dL_law_269 : decode cL_law 269 = .ok (.iaload, 1) := by decide +kernel
theorem dL_law_270 : decode cL_law 270 = .ok (.aload_n 0, 1) := by decide +kernel
theorem dL_law_271 : decode cL_law 271 = .ok (.iload_n 3, 1) := by decide +kernel
theorem dL_law_272 : decode cL_law 272 = .ok (.iconst 4, 1) := by decide +kernel
theorem dL_law_273 : decode cL_law 273 = .ok (.iadd, 1) := by decide +kernel
theorem dL_law_274 : decode cL_law 274 = .ok (.iaload, 1) := by decide +kernel
theorem dL_law_275 : decode cL_law 275 = .ok (.aload_n 0, 1) := by decide +kernel
theorem dL_law_276 : decode cL_law 276 = .ok (.iload_n 3, 1) := by decide +kernel
theorem dL_law_277 : decode cL_law 277 = .ok (.iconst 5, 1) := by decide +kernel
theorem dL_law_278 : decode cL_law 278 = .ok (.iadd, 1) := by decide +kernel
theorem dL_law_279 : decode cL_law 279 = .ok (.iaload, 1) := by decide +kernel
theorem dL_law_280 : decode cL_law 280 = .ok (.invokevirtual 22, 3) := by decide +kernel
theorem dL_law_283 : decode cL_law 283 = .ok (.if_icmp .eq 921, 3) := by decide +kernel
theorem dL_law_288 : decode cL_law 288 = .ok (.aload_n 1, 1) := by decide +kernel
theorem dL_law_289 : decode cL_law 289 = .ok (.aload_n 0, 1) := by decide +kernel
theorem dL_law_290 : decode cL_law 290 = .ok (.iload_n 3, 1) := by decide +kernel
theorem dL_law_291 : decode cL_law 291 = .ok (.iconst 1, 1) := by decide +kernel
theorem dL_law_292 : decode cL_law 292 = .ok (.iadd, 1) := by decide +kernel
theorem dL_law_293 : decode cL_law 293 = .ok (.iaload, 1) := by decide +kernel
theorem dL_law_294 : decode cL_law 294 = .ok (.invokevirtual 23, 3) := by decide +kernel
theorem dL_law_297 : decode cL_law 297 = .ok (.aload_n 2, 1) := by decide +kernel
theorem dL_law_298 : decode cL_law 298 = .ok (.aload_n 0, 1) := by decide +kernel
theorem dL_law_299 : decode cL_law 299 = .ok (.iload_n 3, 1) := by decide +kernel
theorem dL_law_300 : decode cL_law 300 = .ok (.iconst 1, 1) := by decide +kernel
theorem dL_law_301 : decode cL_law 301 = .ok (.iadd, 1) := by decide +kernel
theorem dL_law_302 : decode cL_law 302 = .ok (.iaload, 1) := by decide +kernel
theorem dL_law_303 : decode cL_law 303 = .ok (.invokevirtual 27, 3) := by decide +kernel
theorem dL_law_306 : decode cL_law 306 = .ok (.if_icmp .eq 898, 3) := by decide +kernel
theorem dL_law_311 : decode cL_law 311 = .ok (.aload_n 1, 1) := by decide +kernel
theorem dL_law_312 : decode cL_law 312 = .ok (.aload_n 0, 1) := by decide +kernel
theorem dL_law_313 : decode cL_law 313 = .ok (.iload_n 3, 1) := by decide +kernel
theorem dL_law_314 : decode cL_law 314 = .ok (.iconst 1, 1) := by decide +kernel
theorem dL_law_315 : decode cL_law 315 = .ok (.iadd, 1) := by decide +kernel
theorem dL_law_316 : decode cL_law 316 = .ok (.iaload, 1) := by decide +kernel
theorem dL_law_317 : decode cL_law 317 = .ok (.invokevirtual 28, 3) := by decide +kernel
theorem dL_law_320 : decode cL_law 320 = .ok (.aload_n 2, 1) := by decide +kernel
theorem dL_law_321 : decode cL_law 321 = .ok (.aload_n 0, 1) := by decide +kernel
theorem dL_law_322 : decode cL_law 322 = .ok (.iload_n 3, 1) := by decide +kernel
theorem dL_law_323 : decode cL_law 323 = .ok (.iconst 1, 1) := by decide +kernel
theorem dL_law_324 : decode cL_law 324 = .ok (.iadd, 1) := by decide +kernel
theorem dL_law_325 : decode cL_law 325 = .ok (.iaload, 1) := by decide +kernel
theorem dL_law_326 : decode cL_law 326 = .ok (.invokevirtual 31, 3) := by decide +kernel
theorem dL_law_329 : decode cL_law 329 = .ok (.if_icmp .eq 875, 3) := by decide +kernel
theorem dL_law_334 : decode cL_law 334 = .ok (.aload_n 1, 1) := by decide +kernel
theorem dL_law_335 : decode cL_law 335 = .ok (.aload_n 0, 1) := by decide +kernel
theorem dL_law_336 : decode cL_law 336 = .ok (.iload_n 3, 1) := by decide +kernel
theorem dL_law_337 : decode cL_law 337 = .ok (.iconst 1, 1) := by decide +kernel
theorem dL_law_338 : decode cL_law 338 = .ok (.iadd, 1) := by decide +kernel
theorem dL_law_339 : decode cL_law 339 = .ok (.iaload, 1) := by decide +kernel
theorem dL_law_340 : decode cL_law 340 = .ok (.aload_n 0, 1) := by decide +kernel
theorem dL_law_341 : decode cL_law 341 = .ok (.iload_n 3, 1) := by decide +kernel
theorem dL_law_342 : decode cL_law 342 = .ok (.iconst 2, 1) := by decide +kernel
theorem dL_law_343 : decode cL_law 343 = .ok (.iadd, 1) := by decide +kernel
theorem dL_law_344 : decode cL_law 344 = .ok (.iaload, 1) := by decide +kernel
theorem dL_law_345 : decode cL_law 345 = .ok (.invokevirtual 32, 3) := by decide +kernel
theorem dL_law_348 : decode cL_law 348 = .ok (.aload_n 2, 1) := by decide +kernel
theorem dL_law_349 : decode cL_law 349 = .ok (.aload_n 0, 1) := by decide +kernel
theorem dL_law_350 : decode cL_law 350 = .ok (.iload_n 3, 1) := by decide +kernel
theorem dL_law_351 : decode cL_law 351 = .ok (.iconst 1, 1) := by decide +kernel
theorem dL_law_352 : decode cL_law 352 = .ok (.iadd, 1) := by decide +kernel
theorem dL_law_353 : decode cL_law 353 = .ok (.iaload, 1) := by decide +kernel
theorem dL_law_354 : decode cL_law 354 = .ok (.aload_n 0, 1) := by decide +kernel
theorem dL_law_355 : decode cL_law 355 = .ok (.iload_n 3, 1) := by decide +kernel
theorem dL_law_356 : decode cL_law 356 = .ok (.iconst 2, 1) := by decide +kernel
theorem dL_law_357 : decode cL_law 357 = .ok (.iadd, 1) := by decide +kernel
theorem dL_law_358 : decode cL_law 358 = .ok (.iaload, 1) := by decide +kernel
theorem dL_law_359 : decode cL_law 359 = .ok (.invokevirtual 35, 3) := by decide +kernel
theorem dL_law_362 : decode cL_law 362 = .ok (.if_icmp .eq 842, 3) := by decide +kernel
theorem dL_law_367 : decode cL_law 367 = .ok (.aload_n 1, 1) := by decide +kernel
theorem dL_law_368 : decode cL_law 368 = .ok (.aload_n 0, 1) := by decide +kernel
theorem dL_law_369 : decode cL_law 369 = .ok (.iload_n 3, 1) := by decide +kernel
theorem dL_law_370 : decode cL_law 370 = .ok (.iconst 1, 1) := by decide +kernel
theorem dL_law_371 : decode cL_law 371 = .ok (.iadd, 1) := by decide +kernel
theorem dL_law_372 : decode cL_law 372 = .ok (.iaload, 1) := by decide +kernel
theorem dL_law_373 : decode cL_law 373 = .ok (.invokevirtual 36, 3) := by decide +kernel
theorem dL_law_376 : decode cL_law 376 = .ok (.aload_n 2, 1) := by decide +kernel
theorem dL_law_377 : decode cL_law 377 = .ok (.aload_n 0, 1) := by decide +kernel
theorem dL_law_378 : decode cL_law 378 = .ok (.iload_n 3, 1) := by decide +kernel
theorem dL_law_379 : decode cL_law 379 = .ok (.iconst 1, 1) := by decide +kernel
theorem dL_law_380 : decode cL_law 380 = .ok (.iadd, 1) := by decide +kernel
theorem dL_law_381 : decode cL_law 381 = .ok (.iaload, 1) := by decide +kernel
theorem dL_law_382 : decode cL_law 382 = .ok (.invokevirtual 39, 3) := by decide +kernel
theorem dL_law_385 : decode cL_law 385 = .ok (.if_icmp .eq 819, 3) := by decide +kernel
theorem dL_law_390 : decode cL_law 390 = .ok (.aload_n 1, 1) := by decide +kernel
theorem dL_law_391 : decode cL_law 391 = .ok (.aload_n 0, 1) := by decide +kernel
theorem dL_law_392 : decode cL_law 392 = .ok (.iload_n 3, 1) := by decide +kernel
theorem dL_law_393 : decode cL_law 393 = .ok (.iconst 1, 1) := by decide +kernel
theorem dL_law_394 : decode cL_law 394 = .ok (.iadd, 1) := by decide +kernel
theorem dL_law_395 : decode cL_law 395 = .ok (.iaload, 1) := by decide +kernel
theorem dL_law_396 : decode cL_law 396 = .ok (.invokevirtual 40, 3) := by decide +kernel
theorem dL_law_399 : decode cL_law 399 = .ok (.aload_n 2, 1) := by decide +kernel
theorem dL_law_400 : decode cL_law 400 = .ok (.aload_n 0, 1) := by decide +kernel
theorem dL_law_401 : decode cL_law 401 = .ok (.iload_n 3, 1) := by decide +kernel
theorem dL_law_402 : decode cL_law 402 = .ok (.iconst 1, 1) := by decide +kernel
theorem dL_law_403 : decode cL_law 403 = .ok (.iadd, 1) := by decide +kernel
theorem dL_law_404 : decode cL_law 404 = .ok (.iaload, 1) := by decide +kernel
theorem dL_law_405 : decode cL_law 405 = .ok (.invokevirtual 43, 3) := by decide +kernel
theorem dL_law_408 : decode cL_law 408 = .ok (.if_icmp .eq 796, 3) := by decide +kernel
theorem dL_law_413 : decode cL_law 413 = .ok (.aload_n 1, 1) := by decide +kernel
theorem dL_law_414 : decode cL_law 414 = .ok (.aload_n 0, 1) := by decide +kernel
theorem dL_law_415 : decode cL_law 415 = .ok (.iload_n 3, 1) := by decide +kernel
theorem dL_law_416 : decode cL_law 416 = .ok (.iconst 1, 1) := by decide +kernel
theorem dL_law_417 : decode cL_law 417 = .ok (.iadd, 1) := by decide +kernel
theorem dL_law_418 : decode cL_law 418 = .ok (.iaload, 1) := by decide +kernel
theorem dL_law_419 : decode cL_law 419 = .ok (.aload_n 0, 1) := by decide +kernel
theorem dL_law_420 : decode cL_law 420 = .ok (.iload_n 3, 1) := by decide +kernel
theorem dL_law_421 : decode cL_law 421 = .ok (.iconst 2, 1) := by decide +kernel
theorem dL_law_422 : decode cL_law 422 = .ok (.iadd, 1) := by decide +kernel
theorem dL_law_423 : decode cL_law 423 = .ok (.iaload, 1) := by decide +kernel
theorem dL_law_424 : decode cL_law 424 = .ok (.invokevirtual 44, 3) := by decide +kernel
theorem dL_law_427 : decode cL_law 427 = .ok (.aload_n 2, 1) := by decide +kernel
theorem dL_law_428 : decode cL_law 428 = .ok (.aload_n 0, 1) := by decide +kernel
theorem dL_law_429 : decode cL_law 429 = .ok (.iload_n 3, 1) := by decide +kernel
theorem dL_law_430 : decode cL_law 430 = .ok (.iconst 1, 1) := by decide +kernel
theorem dL_law_431 : decode cL_law 431 = .ok (.iadd, 1) := by decide +kernel
theorem dL_law_432 : decode cL_law 432 = .ok (.iaload, 1) := by decide +kernel
theorem dL_law_433 : decode cL_law 433 = .ok (.aload_n 0, 1) := by decide +kernel
theorem dL_law_434 : decode cL_law 434 = .ok (.iload_n 3, 1) := by decide +kernel
theorem dL_law_435 : decode cL_law 435 = .ok (.iconst 2, 1) := by decide +kernel
theorem dL_law_436 : decode cL_law 436 = .ok (.iadd, 1) := by decide +kernel
theorem dL_law_437 : decode cL_law 437 = .ok (.iaload, 1) := by decide +kernel
theorem dL_law_438 : decode cL_law 438 = .ok (.invokevirtual 47, 3) := by decide +kernel
theorem dL_law_441 : decode cL_law 441 = .ok (.if_icmp .eq 763, 3) := by decide +kernel
theorem dL_law_446 : decode cL_law 446 = .ok (.aload_n 1, 1) := by decide +kernel
theorem dL_law_447 : decode cL_law 447 = .ok (.aload_n 0, 1) := by decide +kernel
theorem dL_law_448 : decode cL_law 448 = .ok (.iload_n 3, 1) := by decide +kernel
theorem dL_law_449 : decode cL_law 449 = .ok (.iconst 1, 1) := by decide +kernel
theorem dL_law_450 : decode cL_law 450 = .ok (.iadd, 1) := by decide +kernel
theorem dL_law_451 : decode cL_law 451 = .ok (.iaload, 1) := by decide +kernel
theorem dL_law_452 : decode cL_law 452 = .ok (.aload_n 0, 1) := by decide +kernel
theorem dL_law_453 : decode cL_law 453 = .ok (.iload_n 3, 1) := by decide +kernel
theorem dL_law_454 : decode cL_law 454 = .ok (.iconst 2, 1) := by decide +kernel
theorem dL_law_455 : decode cL_law 455 = .ok (.iadd, 1) := by decide +kernel
theorem dL_law_456 : decode cL_law 456 = .ok (.iaload, 1) := by decide +kernel
theorem dL_law_457 : decode cL_law 457 = .ok (.invokevirtual 48, 3) := by decide +kernel
theorem dL_law_460 : decode cL_law 460 = .ok (.aload_n 2, 1) := by decide +kernel
theorem dL_law_461 : decode cL_law 461 = .ok (.aload_n 0, 1) := by decide +kernel
theorem dL_law_462 : decode cL_law 462 = .ok (.iload_n 3, 1) := by decide +kernel
theorem dL_law_463 : decode cL_law 463 = .ok (.iconst 1, 1) := by decide +kernel
theorem dL_law_464 : decode cL_law 464 = .ok (.iadd, 1) := by decide +kernel
theorem dL_law_465 : decode cL_law 465 = .ok (.iaload, 1) := by decide +kernel
theorem dL_law_466 : decode cL_law 466 = .ok (.aload_n 0, 1) := by decide +kernel
theorem dL_law_467 : decode cL_law 467 = .ok (.iload_n 3, 1) := by decide +kernel
theorem dL_law_468 : decode cL_law 468 = .ok (.iconst 2, 1) := by decide +kernel
theorem dL_law_469 : decode cL_law 469 = .ok (.iadd, 1) := by decide +kernel
theorem dL_law_470 : decode cL_law 470 = .ok (.iaload, 1) := by decide +kernel
theorem dL_law_471 : decode cL_law 471 = .ok (.invokevirtual 51, 3) := by decide +kernel
theorem dL_law_474 : decode cL_law 474 = .ok (.if_icmp .eq 730, 3) := by decide +kernel
theorem dL_law_479 : decode cL_law 479 = .ok (.aload_n 1, 1) := by decide +kernel
theorem dL_law_480 : decode cL_law 480 = .ok (.aload_n 0, 1) := by decide +kernel
theorem dL_law_481 : decode cL_law 481 = .ok (.iload_n 3, 1) := by decide +kernel
theorem dL_law_482 : decode cL_law 482 = .ok (.iconst 1, 1) := by decide +kernel
theorem dL_law_483 : decode cL_law 483 = .ok (.iadd, 1) := by decide +kernel
theorem dL_law_484 : decode cL_law 484 = .ok (.iaload, 1) := by decide +kernel
theorem dL_law_485 : decode cL_law 485 = .ok (.aload_n 0, 1) := by decide +kernel
theorem dL_law_486 : decode cL_law 486 = .ok (.iload_n 3, 1) := by decide +kernel
theorem dL_law_487 : decode cL_law 487 = .ok (.iconst 2, 1) := by decide +kernel
theorem dL_law_488 : decode cL_law 488 = .ok (.iadd, 1) := by decide +kernel
theorem dL_law_489 : decode cL_law 489 = .ok (.iaload, 1) := by decide +kernel
theorem dL_law_490 : decode cL_law 490 = .ok (.invokevirtual 52, 3) := by decide +kernel
theorem dL_law_493 : decode cL_law 493 = .ok (.aload_n 2, 1) := by decide +kernel
theorem dL_law_494 : decode cL_law 494 = .ok (.aload_n 0, 1) := by decide +kernel
theorem dL_law_495 : decode cL_law 495 = .ok (.iload_n 3, 1) := by decide +kernel
theorem dL_law_496 : decode cL_law 496 = .ok (.iconst 1, 1) := by decide +kernel
theorem dL_law_497 : decode cL_law 497 = .ok (.iadd, 1) := by decide +kernel
theorem dL_law_498 : decode cL_law 498 = .ok (.iaload, 1) := by decide +kernel
theorem dL_law_499 : decode cL_law 499 = .ok (.aload_n 0, 1) := by decide +kernel
theorem dL_law_500 : decode cL_law 500 = .ok (.iload_n 3, 1) := by decide +kernel
theorem dL_law_501 : decode cL_law 501 = .ok (.iconst 2, 1) := by decide +kernel
theorem dL_law_502 : decode cL_law 502 = .ok (.iadd, 1) := by decide +kernel
theorem dL_law_503 : decode cL_law 503 = .ok (.iaload, 1) := by decide +kernel
theorem dL_law_504 : decode cL_law 504 = .ok (.invokevirtual 55, 3) := by decide +kernel
theorem dL_law_507 : decode cL_law 507 = .ok (.if_icmp .eq 697, 3) := by decide +kernel
theorem dL_law_512 : decode cL_law 512 = .ok (.aload_n 1, 1) := by decide +kernel
theorem dL_law_513 : decode cL_law 513 = .ok (.aload_n 0, 1) := by decide +kernel
theorem dL_law_514 : decode cL_law 514 = .ok (.iload_n 3, 1) := by decide +kernel
theorem dL_law_515 : decode cL_law 515 = .ok (.iconst 1, 1) := by decide +kernel
theorem dL_law_516 : decode cL_law 516 = .ok (.iadd, 1) := by decide +kernel
theorem dL_law_517 : decode cL_law 517 = .ok (.iaload, 1) := by decide +kernel
theorem dL_law_518 : decode cL_law 518 = .ok (.invokevirtual 56, 3) := by decide +kernel
theorem dL_law_521 : decode cL_law 521 = .ok (.aload_n 2, 1) := by decide +kernel
theorem dL_law_522 : decode cL_law 522 = .ok (.aload_n 0, 1) := by decide +kernel
theorem dL_law_523 : decode cL_law 523 = .ok (.iload_n 3, 1) := by decide +kernel
theorem dL_law_524 : decode cL_law 524 = .ok (.iconst 1, 1) := by decide +kernel
theorem dL_law_525 : decode cL_law 525 = .ok (.iadd, 1) := by decide +kernel
theorem dL_law_526 : decode cL_law 526 = .ok (.iaload, 1) := by decide +kernel
theorem dL_law_527 : decode cL_law 527 = .ok (.invokevirtual 59, 3) := by decide +kernel
theorem dL_law_530 : decode cL_law 530 = .ok (.if_icmp .eq 674, 3) := by decide +kernel
theorem dL_law_535 : decode cL_law 535 = .ok (.aload_n 1, 1) := by decide +kernel
theorem dL_law_536 : decode cL_law 536 = .ok (.aload_n 0, 1) := by decide +kernel
theorem dL_law_537 : decode cL_law 537 = .ok (.iload_n 3, 1) := by decide +kernel
theorem dL_law_538 : decode cL_law 538 = .ok (.iconst 1, 1) := by decide +kernel
theorem dL_law_539 : decode cL_law 539 = .ok (.iadd, 1) := by decide +kernel
theorem dL_law_540 : decode cL_law 540 = .ok (.iaload, 1) := by decide +kernel
theorem dL_law_541 : decode cL_law 541 = .ok (.aload_n 0, 1) := by decide +kernel
theorem dL_law_542 : decode cL_law 542 = .ok (.iload_n 3, 1) := by decide +kernel
theorem dL_law_543 : decode cL_law 543 = .ok (.iconst 2, 1) := by decide +kernel
theorem dL_law_544 : decode cL_law 544 = .ok (.iadd, 1) := by decide +kernel
theorem dL_law_545 : decode cL_law 545 = .ok (.iaload, 1) := by decide +kernel
theorem dL_law_546 : decode cL_law 546 = .ok (.aload_n 0, 1) := by decide +kernel
theorem dL_law_547 : decode cL_law 547 = .ok (.iload_n 3, 1) := by decide +kernel
theorem dL_law_548 : decode cL_law 548 = .ok (.iconst 3, 1) := by decide +kernel
theorem dL_law_549 : decode cL_law 549 = .ok (.iadd, 1) := by decide +kernel
theorem dL_law_550 : decode cL_law 550 = .ok (.iaload, 1) := by decide +kernel
theorem dL_law_551 : decode cL_law 551 = .ok (.invokevirtual 60, 3) := by decide +kernel
theorem dL_law_554 : decode cL_law 554 = .ok (.aload_n 2, 1) := by decide +kernel
theorem dL_law_555 : decode cL_law 555 = .ok (.aload_n 0, 1) := by decide +kernel
theorem dL_law_556 : decode cL_law 556 = .ok (.iload_n 3, 1) := by decide +kernel
theorem dL_law_557 : decode cL_law 557 = .ok (.iconst 1, 1) := by decide +kernel
theorem dL_law_558 : decode cL_law 558 = .ok (.iadd, 1) := by decide +kernel
theorem dL_law_559 : decode cL_law 559 = .ok (.iaload, 1) := by decide +kernel
theorem dL_law_560 : decode cL_law 560 = .ok (.aload_n 0, 1) := by decide +kernel
theorem dL_law_561 : decode cL_law 561 = .ok (.iload_n 3, 1) := by decide +kernel
theorem dL_law_562 : decode cL_law 562 = .ok (.iconst 2, 1) := by decide +kernel
theorem dL_law_563 : decode cL_law 563 = .ok (.iadd, 1) := by decide +kernel
theorem dL_law_564 : decode cL_law 564 = .ok (.iaload, 1) := by decide +kernel
theorem dL_law_565 : decode cL_law 565 = .ok (.aload_n 0, 1) := by decide +kernel
theorem dL_law_566 : decode cL_law 566 = .ok (.iload_n 3, 1) := by decide +kernel
theorem dL_law_567 : decode cL_law 567 = .ok (.iconst 3, 1) := by decide +kernel
theorem dL_law_568 : decode cL_law 568 = .ok (.iadd, 1) := by decide +kernel
theorem dL_law_569 : decode cL_law 569 = .ok (.iaload, 1) := by decide +kernel
theorem dL_law_570 : decode cL_law 570 = .ok (.invokevirtual 64, 3) := by decide +kernel
theorem dL_law_573 : decode cL_law 573 = .ok (.if_icmp .eq 631, 3) := by decide +kernel
theorem dL_law_578 : decode cL_law 578 = .ok (.aload_n 1, 1) := by decide +kernel
theorem dL_law_579 : decode cL_law 579 = .ok (.aload_n 0, 1) := by decide +kernel
theorem dL_law_580 : decode cL_law 580 = .ok (.iload_n 3, 1) := by decide +kernel
theorem dL_law_581 : decode cL_law 581 = .ok (.iconst 1, 1) := by decide +kernel
theorem dL_law_582 : decode cL_law 582 = .ok (.iadd, 1) := by decide +kernel
theorem dL_law_583 : decode cL_law 583 = .ok (.iaload, 1) := by decide +kernel
theorem dL_law_584 : decode cL_law 584 = .ok (.invokevirtual 65, 3) := by decide +kernel
theorem dL_law_587 : decode cL_law 587 = .ok (.aload_n 2, 1) := by decide +kernel
theorem dL_law_588 : decode cL_law 588 = .ok (.aload_n 0, 1) := by decide +kernel
theorem dL_law_589 : decode cL_law 589 = .ok (.iload_n 3, 1) := by decide +kernel
theorem dL_law_590 : decode cL_law 590 = .ok (.iconst 1, 1) := by decide +kernel
theorem dL_law_591 : decode cL_law 591 = .ok (.iadd, 1) := by decide +kernel
theorem dL_law_592 : decode cL_law 592 = .ok (.iaload, 1) := by decide +kernel
theorem dL_law_593 : decode cL_law 593 = .ok (.invokevirtual 68, 3) := by decide +kernel
theorem dL_law_596 : decode cL_law 596 = .ok (.if_icmp .eq 608, 3) := by decide +kernel
theorem dL_law_601 : decode cL_law 601 = .ok (.aload_n 1, 1) := by decide +kernel
theorem dL_law_602 : decode cL_law 602 = .ok (.aload_n 0, 1) := by decide +kernel
theorem dL_law_603 : decode cL_law 603 = .ok (.iload_n 3, 1) := by decide +kernel
theorem dL_law_604 : decode cL_law 604 = .ok (.iconst 1, 1) := by decide +kernel
theorem dL_law_605 : decode cL_law 605 = .ok (.iadd, 1) := by decide +kernel
theorem dL_law_606 : decode cL_law 606 = .ok (.iaload, 1) := by decide +kernel
theorem dL_law_607 : decode cL_law 607 = .ok (.invokevirtual 69, 3) := by decide +kernel
theorem dL_law_610 : decode cL_law 610 = .ok (.aload_n 2, 1) := by decide +kernel
theorem dL_law_611 : decode cL_law 611 = .ok (.aload_n 0, 1) := by decide +kernel
theorem dL_law_612 : decode cL_law 612 = .ok (.iload_n 3, 1) := by decide +kernel
theorem dL_law_613 : decode cL_law 613 = .ok (.iconst 1, 1) := by decide +kernel
theorem dL_law_614 : decode cL_law 614 = .ok (.iadd, 1) := by decide +kernel
theorem dL_law_615 : decode cL_law 615 = .ok (.iaload, 1) := by decide +kernel
theorem dL_law_616 : decode cL_law 616 = .ok (.invokevirtual 72, 3) := by decide +kernel
theorem dL_law_619 : decode cL_law 619 = .ok (.if_icmp .eq 585, 3) := by decide +kernel
theorem dL_law_624 : decode cL_law 624 = .ok (.aload_n 1, 1) := by decide +kernel
theorem dL_law_625 : decode cL_law 625 = .ok (.invokevirtual 73, 3) := by decide +kernel
theorem dL_law_628 : decode cL_law 628 = .ok (.aload_n 2, 1) := by decide +kernel
theorem dL_law_629 : decode cL_law 629 = .ok (.invokevirtual 77, 3) := by decide +kernel
theorem dL_law_632 : decode cL_law 632 = .ok (.if_icmp .eq 572, 3) := by decide +kernel
theorem dL_law_637 : decode cL_law 637 = .ok (.aload_n 1, 1) := by decide +kernel
theorem dL_law_638 : decode cL_law 638 = .ok (.aload_n 0, 1) := by decide +kernel
theorem dL_law_639 : decode cL_law 639 = .ok (.iload_n 3, 1) := by decide +kernel
theorem dL_law_640 : decode cL_law 640 = .ok (.iconst 1, 1) := by decide +kernel
theorem dL_law_641 : decode cL_law 641 = .ok (.iadd, 1) := by decide +kernel
theorem dL_law_642 : decode cL_law 642 = .ok (.iaload, 1) := by decide +kernel
theorem dL_law_643 : decode cL_law 643 = .ok (.invokevirtual 78, 3) := by decide +kernel
theorem dL_law_646 : decode cL_law 646 = .ok (.aload_n 2, 1) := by decide +kernel
theorem dL_law_647 : decode cL_law 647 = .ok (.aload_n 0, 1) := by decide +kernel
theorem dL_law_648 : decode cL_law 648 = .ok (.iload_n 3, 1) := by decide +kernel
theorem dL_law_649 : decode cL_law 649 = .ok (.iconst 1, 1) := by decide +kernel
theorem dL_law_650 : decode cL_law 650 = .ok (.iadd, 1) := by decide +kernel
theorem dL_law_651 : decode cL_law 651 = .ok (.iaload, 1) := by decide +kernel
theorem dL_law_652 : decode cL_law 652 = .ok (.invokevirtual 81, 3) := by decide +kernel
theorem dL_law_655 : decode cL_law 655 = .ok (.if_icmp .eq 549, 3) := by decide +kernel
theorem dL_law_660 : decode cL_law 660 = .ok (.aload_n 1, 1) := by decide +kernel
theorem dL_law_661 : decode cL_law 661 = .ok (.invokevirtual 82, 3) := by decide +kernel
theorem dL_law_664 : decode cL_law 664 = .ok (.aload_n 2, 1) := by decide +kernel
theorem dL_law_665 : decode cL_law 665 = .ok (.invokevirtual 85, 3) := by decide +kernel
theorem dL_law_668 : decode cL_law 668 = .ok (.if_icmp .eq 536, 3) := by decide +kernel
theorem dL_law_673 : decode cL_law 673 = .ok (.aload_n 1, 1) := by decide +kernel
theorem dL_law_674 : decode cL_law 674 = .ok (.aload_n 0, 1) := by decide +kernel
theorem dL_law_675 : decode cL_law 675 = .ok (.iload_n 3, 1) := by decide +kernel
theorem dL_law_676 : decode cL_law 676 = .ok (.iconst 1, 1) := by decide +kernel
theorem dL_law_677 : decode cL_law 677 = .ok (.iadd, 1) := by decide +kernel
theorem dL_law_678 : decode cL_law 678 = .ok (.iaload, 1) := by decide +kernel
theorem dL_law_679 : decode cL_law 679 = .ok (.invokevirtual 86, 3) := by decide +kernel
theorem dL_law_682 : decode cL_law 682 = .ok (.aload_n 2, 1) := by decide +kernel
theorem dL_law_683 : decode cL_law 683 = .ok (.aload_n 0, 1) := by decide +kernel
theorem dL_law_684 : decode cL_law 684 = .ok (.iload_n 3, 1) := by decide +kernel
theorem dL_law_685 : decode cL_law 685 = .ok (.iconst 1, 1) := by decide +kernel
theorem dL_law_686 : decode cL_law 686 = .ok (.iadd, 1) := by decide +kernel
theorem dL_law_687 : decode cL_law 687 = .ok (.iaload, 1) := by decide +kernel
theorem dL_law_688 : decode cL_law 688 = .ok (.invokevirtual 89, 3) := by decide +kernel
theorem dL_law_691 : decode cL_law 691 = .ok (.if_icmp .eq 513, 3) := by decide +kernel
theorem dL_law_696 : decode cL_law 696 = .ok (.aload_n 1, 1) := by decide +kernel
theorem dL_law_697 : decode cL_law 697 = .ok (.aload_n 0, 1) := by decide +kernel
theorem dL_law_698 : decode cL_law 698 = .ok (.iload_n 3, 1) := by decide +kernel
theorem dL_law_699 : decode cL_law 699 = .ok (.iconst 1, 1) := by decide +kernel
theorem dL_law_700 : decode cL_law 700 = .ok (.iadd, 1) := by decide +kernel
theorem dL_law_701 : decode cL_law 701 = .ok (.iaload, 1) := by decide +kernel
theorem dL_law_702 : decode cL_law 702 = .ok (.invokevirtual 90, 3) := by decide +kernel
theorem dL_law_705 : decode cL_law 705 = .ok (.aload_n 2, 1) := by decide +kernel
theorem dL_law_706 : decode cL_law 706 = .ok (.aload_n 0, 1) := by decide +kernel
theorem dL_law_707 : decode cL_law 707 = .ok (.iload_n 3, 1) := by decide +kernel
theorem dL_law_708 : decode cL_law 708 = .ok (.iconst 1, 1) := by decide +kernel
theorem dL_law_709 : decode cL_law 709 = .ok (.iadd, 1) := by decide +kernel
theorem dL_law_710 : decode cL_law 710 = .ok (.iaload, 1) := by decide +kernel
theorem dL_law_711 : decode cL_law 711 = .ok (.invokevirtual 93, 3) := by decide +kernel
theorem dL_law_714 : decode cL_law 714 = .ok (.if_icmp .eq 490, 3) := by decide +kernel
theorem dL_law_719 : decode cL_law 719 = .ok (.aload_n 1, 1) := by decide +kernel
theorem dL_law_720 : decode cL_law 720 = .ok (.aload_n 0, 1) := by decide +kernel
theorem dL_law_721 : decode cL_law 721 = .ok (.iload_n 3, 1) := by decide +kernel
theorem dL_law_722 : decode cL_law 722 = .ok (.iconst 1, 1) := by decide +kernel
theorem dL_law_723 : decode cL_law 723 = .ok (.iadd, 1) := by decide +kernel
theorem dL_law_724 : decode cL_law 724 = .ok (.iaload, 1) := by decide +kernel
theorem dL_law_725 : decode cL_law 725 = .ok (.aload_n 0, 1) := by decide +kernel
theorem dL_law_726 : decode cL_law 726 = .ok (.iload_n 3, 1) := by decide +kernel
theorem dL_law_727 : decode cL_law 727 = .ok (.iconst 2, 1) := by decide +kernel
theorem dL_law_728 : decode cL_law 728 = .ok (.iadd, 1) := by decide +kernel
theorem dL_law_729 : decode cL_law 729 = .ok (.iaload, 1) := by decide +kernel
theorem dL_law_730 : decode cL_law 730 = .ok (.invokevirtual 94, 3) := by decide +kernel
theorem dL_law_733 : decode cL_law 733 = .ok (.aload_n 2, 1) := by decide +kernel
theorem dL_law_734 : decode cL_law 734 = .ok (.aload_n 0, 1) := by decide +kernel
theorem dL_law_735 : decode cL_law 735 = .ok (.iload_n 3, 1) := by decide +kernel
theorem dL_law_736 : decode cL_law 736 = .ok (.iconst 1, 1) := by decide +kernel
theorem dL_law_737 : decode cL_law 737 = .ok (.iadd, 1) := by decide +kernel
theorem dL_law_738 : decode cL_law 738 = .ok (.iaload, 1) := by decide +kernel
theorem dL_law_739 : decode cL_law 739 = .ok (.aload_n 0, 1) := by decide +kernel
theorem dL_law_740 : decode cL_law 740 = .ok (.iload_n 3, 1) := by decide +kernel
theorem dL_law_741 : decode cL_law 741 = .ok (.iconst 2, 1) := by decide +kernel
theorem dL_law_742 : decode cL_law 742 = .ok (.iadd, 1) := by decide +kernel
theorem dL_law_743 : decode cL_law 743 = .ok (.iaload, 1) := by decide +kernel
theorem dL_law_744 : decode cL_law 744 = .ok (.invokevirtual 97, 3) := by decide +kernel
theorem dL_law_747 : decode cL_law 747 = .ok (.if_icmp .eq 457, 3) := by decide +kernel
theorem dL_law_752 : decode cL_law 752 = .ok (.aload_n 1, 1) := by decide +kernel
theorem dL_law_753 : decode cL_law 753 = .ok (.aload_n 0, 1) := by decide +kernel
theorem dL_law_754 : decode cL_law 754 = .ok (.iload_n 3, 1) := by decide +kernel
theorem dL_law_755 : decode cL_law 755 = .ok (.iconst 1, 1) := by decide +kernel
theorem dL_law_756 : decode cL_law 756 = .ok (.iadd, 1) := by decide +kernel
theorem dL_law_757 : decode cL_law 757 = .ok (.iaload, 1) := by decide +kernel
theorem dL_law_758 : decode cL_law 758 = .ok (.aload_n 0, 1) := by decide +kernel
theorem dL_law_759 : decode cL_law 759 = .ok (.iload_n 3, 1) := by decide +kernel
theorem dL_law_760 : decode cL_law 760 = .ok (.iconst 2, 1) := by decide +kernel
theorem dL_law_761 : decode cL_law 761 = .ok (.iadd, 1) := by decide +kernel
theorem dL_law_762 : decode cL_law 762 = .ok (.iaload, 1) := by decide +kernel
theorem dL_law_763 : decode cL_law 763 = .ok (.invokevirtual 98, 3) := by decide +kernel
theorem dL_law_766 : decode cL_law 766 = .ok (.aload_n 2, 1) := by decide +kernel
theorem dL_law_767 : decode cL_law 767 = .ok (.aload_n 0, 1) := by decide +kernel
theorem dL_law_768 : decode cL_law 768 = .ok (.iload_n 3, 1) := by decide +kernel
theorem dL_law_769 : decode cL_law 769 = .ok (.iconst 1, 1) := by decide +kernel
theorem dL_law_770 : decode cL_law 770 = .ok (.iadd, 1) := by decide +kernel
theorem dL_law_771 : decode cL_law 771 = .ok (.iaload, 1) := by decide +kernel
theorem dL_law_772 : decode cL_law 772 = .ok (.aload_n 0, 1) := by decide +kernel
theorem dL_law_773 : decode cL_law 773 = .ok (.iload_n 3, 1) := by decide +kernel
theorem dL_law_774 : decode cL_law 774 = .ok (.iconst 2, 1) := by decide +kernel
theorem dL_law_775 : decode cL_law 775 = .ok (.iadd, 1) := by decide +kernel
theorem dL_law_776 : decode cL_law 776 = .ok (.iaload, 1) := by decide +kernel
theorem dL_law_777 : decode cL_law 777 = .ok (.invokevirtual 102, 3) := by decide +kernel
theorem dL_law_780 : decode cL_law 780 = .ok (.lcmp, 1) := by decide +kernel
theorem dL_law_781 : decode cL_law 781 = .ok (.ifCond .eq 423, 3) := by decide +kernel
theorem dL_law_786 : decode cL_law 786 = .ok (.aload_n 1, 1) := by decide +kernel
theorem dL_law_787 : decode cL_law 787 = .ok (.aload_n 0, 1) := by decide +kernel
theorem dL_law_788 : decode cL_law 788 = .ok (.iload_n 3, 1) := by decide +kernel
theorem dL_law_789 : decode cL_law 789 = .ok (.iconst 1, 1) := by decide +kernel
theorem dL_law_790 : decode cL_law 790 = .ok (.iadd, 1) := by decide +kernel
theorem dL_law_791 : decode cL_law 791 = .ok (.iaload, 1) := by decide +kernel
theorem dL_law_792 : decode cL_law 792 = .ok (.invokevirtual 103, 3) := by decide +kernel
theorem dL_law_795 : decode cL_law 795 = .ok (.aload_n 2, 1) := by decide +kernel
theorem dL_law_796 : decode cL_law 796 = .ok (.aload_n 0, 1) := by decide +kernel
theorem dL_law_797 : decode cL_law 797 = .ok (.iload_n 3, 1) := by decide +kernel
theorem dL_law_798 : decode cL_law 798 = .ok (.iconst 1, 1) := by decide +kernel
theorem dL_law_799 : decode cL_law 799 = .ok (.iadd, 1) := by decide +kernel
theorem dL_law_800 : decode cL_law 800 = .ok (.iaload, 1) := by decide +kernel
theorem dL_law_801 : decode cL_law 801 = .ok (.invokevirtual 107, 3) := by decide +kernel
theorem dL_law_804 : decode cL_law 804 = .ok (.lcmp, 1) := by decide +kernel
theorem dL_law_805 : decode cL_law 805 = .ok (.ifCond .eq 399, 3) := by decide +kernel
theorem dL_law_810 : decode cL_law 810 = .ok (.aload_n 1, 1) := by decide +kernel
theorem dL_law_811 : decode cL_law 811 = .ok (.invokevirtual 108, 3) := by decide +kernel
theorem dL_law_814 : decode cL_law 814 = .ok (.aload_n 2, 1) := by decide +kernel
theorem dL_law_815 : decode cL_law 815 = .ok (.invokevirtual 111, 3) := by decide +kernel
theorem dL_law_818 : decode cL_law 818 = .ok (.if_icmp .eq 386, 3) := by decide +kernel
theorem dL_law_823 : decode cL_law 823 = .ok (.aload_n 1, 1) := by decide +kernel
theorem dL_law_824 : decode cL_law 824 = .ok (.aload_n 0, 1) := by decide +kernel
theorem dL_law_825 : decode cL_law 825 = .ok (.iload_n 3, 1) := by decide +kernel
theorem dL_law_826 : decode cL_law 826 = .ok (.iconst 1, 1) := by decide +kernel
theorem dL_law_827 : decode cL_law 827 = .ok (.iadd, 1) := by decide +kernel
theorem dL_law_828 : decode cL_law 828 = .ok (.iaload, 1) := by decide +kernel
theorem dL_law_829 : decode cL_law 829 = .ok (.invokevirtual 112, 3) := by decide +kernel
theorem dL_law_832 : decode cL_law 832 = .ok (.aload_n 2, 1) := by decide +kernel
theorem dL_law_833 : decode cL_law 833 = .ok (.aload_n 0, 1) := by decide +kernel
theorem dL_law_834 : decode cL_law 834 = .ok (.iload_n 3, 1) := by decide +kernel
theorem dL_law_835 : decode cL_law 835 = .ok (.iconst 1, 1) := by decide +kernel
theorem dL_law_836 : decode cL_law 836 = .ok (.iadd, 1) := by decide +kernel
theorem dL_law_837 : decode cL_law 837 = .ok (.iaload, 1) := by decide +kernel
theorem dL_law_838 : decode cL_law 838 = .ok (.invokevirtual 115, 3) := by decide +kernel
theorem dL_law_841 : decode cL_law 841 = .ok (.if_icmp .eq 363, 3) := by decide +kernel
theorem dL_law_846 : decode cL_law 846 = .ok (.aload_n 1, 1) := by decide +kernel
theorem dL_law_847 : decode cL_law 847 = .ok (.aload_n 0, 1) := by decide +kernel
theorem dL_law_848 : decode cL_law 848 = .ok (.iload_n 3, 1) := by decide +kernel
theorem dL_law_849 : decode cL_law 849 = .ok (.iconst 1, 1) := by decide +kernel
theorem dL_law_850 : decode cL_law 850 = .ok (.iadd, 1) := by decide +kernel
theorem dL_law_851 : decode cL_law 851 = .ok (.iaload, 1) := by decide +kernel
theorem dL_law_852 : decode cL_law 852 = .ok (.invokevirtual 116, 3) := by decide +kernel
theorem dL_law_855 : decode cL_law 855 = .ok (.aload_n 2, 1) := by decide +kernel
theorem dL_law_856 : decode cL_law 856 = .ok (.aload_n 0, 1) := by decide +kernel
theorem dL_law_857 : decode cL_law 857 = .ok (.iload_n 3, 1) := by decide +kernel
theorem dL_law_858 : decode cL_law 858 = .ok (.iconst 1, 1) := by decide +kernel
theorem dL_law_859 : decode cL_law 859 = .ok (.iadd, 1) := by decide +kernel
theorem dL_law_860 : decode cL_law 860 = .ok (.iaload, 1) := by decide +kernel
theorem dL_law_861 : decode cL_law 861 = .ok (.invokevirtual 119, 3) := by decide +kernel
theorem dL_law_864 : decode cL_law 864 = .ok (.if_icmp .eq 340, 3) := by decide +kernel
theorem dL_law_869 : decode cL_law 869 = .ok (.aload_n 1, 1) := by decide +kernel
theorem dL_law_870 : decode cL_law 870 = .ok (.aload_n 0, 1) := by decide +kernel
theorem dL_law_871 : decode cL_law 871 = .ok (.iload_n 3, 1) := by decide +kernel
theorem dL_law_872 : decode cL_law 872 = .ok (.iconst 1, 1) := by decide +kernel
theorem dL_law_873 : decode cL_law 873 = .ok (.iadd, 1) := by decide +kernel
theorem dL_law_874 : decode cL_law 874 = .ok (.iaload, 1) := by decide +kernel
theorem dL_law_875 : decode cL_law 875 = .ok (.invokevirtual 120, 3) := by decide +kernel
theorem dL_law_878 : decode cL_law 878 = .ok (.aload_n 2, 1) := by decide +kernel
theorem dL_law_879 : decode cL_law 879 = .ok (.aload_n 0, 1) := by decide +kernel
theorem dL_law_880 : decode cL_law 880 = .ok (.iload_n 3, 1) := by decide +kernel
theorem dL_law_881 : decode cL_law 881 = .ok (.iconst 1, 1) := by decide +kernel
theorem dL_law_882 : decode cL_law 882 = .ok (.iadd, 1) := by decide +kernel
theorem dL_law_883 : decode cL_law 883 = .ok (.iaload, 1) := by decide +kernel
theorem dL_law_884 : decode cL_law 884 = .ok (.invokevirtual 123, 3) := by decide +kernel
theorem dL_law_887 : decode cL_law 887 = .ok (.if_icmp .eq 317, 3) := by decide +kernel
theorem dL_law_892 : decode cL_law 892 = .ok (.aload_n 1, 1) := by decide +kernel
theorem dL_law_893 : decode cL_law 893 = .ok (.aload_n 0, 1) := by decide +kernel
theorem dL_law_894 : decode cL_law 894 = .ok (.iload_n 3, 1) := by decide +kernel
theorem dL_law_895 : decode cL_law 895 = .ok (.iconst 1, 1) := by decide +kernel
theorem dL_law_896 : decode cL_law 896 = .ok (.iadd, 1) := by decide +kernel
theorem dL_law_897 : decode cL_law 897 = .ok (.iaload, 1) := by decide +kernel
theorem dL_law_898 : decode cL_law 898 = .ok (.aload_n 0, 1) := by decide +kernel
theorem dL_law_899 : decode cL_law 899 = .ok (.iload_n 3, 1) := by decide +kernel
theorem dL_law_900 : decode cL_law 900 = .ok (.iconst 2, 1) := by decide +kernel
theorem dL_law_901 : decode cL_law 901 = .ok (.iadd, 1) := by decide +kernel
theorem dL_law_902 : decode cL_law 902 = .ok (.iaload, 1) := by decide +kernel
theorem dL_law_903 : decode cL_law 903 = .ok (.aload_n 0, 1) := by decide +kernel
theorem dL_law_904 : decode cL_law 904 = .ok (.iload_n 3, 1) := by decide +kernel
theorem dL_law_905 : decode cL_law 905 = .ok (.iconst 3, 1) := by decide +kernel
theorem dL_law_906 : decode cL_law 906 = .ok (.iadd, 1) := by decide +kernel
theorem dL_law_907 : decode cL_law 907 = .ok (.iaload, 1) := by decide +kernel
theorem dL_law_908 : decode cL_law 908 = .ok (.invokevirtual 124, 3) := by decide +kernel
theorem dL_law_911 : decode cL_law 911 = .ok (.aload_n 2, 1) := by decide +kernel
theorem dL_law_912 : decode cL_law 912 = .ok (.aload_n 0, 1) := by decide +kernel
theorem dL_law_913 : decode cL_law 913 = .ok (.iload_n 3, 1) := by decide +kernel
theorem dL_law_914 : decode cL_law 914 = .ok (.iconst 1, 1) := by decide +kernel
theorem dL_law_915 : decode cL_law 915 = .ok (.iadd, 1) := by decide +kernel
theorem dL_law_916 : decode cL_law 916 = .ok (.iaload, 1) := by decide +kernel
theorem dL_law_917 : decode cL_law 917 = .ok (.aload_n 0, 1) := by decide +kernel
theorem dL_law_918 : decode cL_law 918 = .ok (.iload_n 3, 1) := by decide +kernel
theorem dL_law_919 : decode cL_law 919 = .ok (.iconst 2, 1) := by decide +kernel
theorem dL_law_920 : decode cL_law 920 = .ok (.iadd, 1) := by decide +kernel
theorem dL_law_921 : decode cL_law 921 = .ok (.iaload, 1) := by decide +kernel
theorem dL_law_922 : decode cL_law 922 = .ok (.aload_n 0, 1) := by decide +kernel
theorem dL_law_923 : decode cL_law 923 = .ok (.iload_n 3, 1) := by decide +kernel
theorem dL_law_924 : decode cL_law 924 = .ok (.iconst 3, 1) := by decide +kernel
theorem dL_law_925 : decode cL_law 925 = .ok (.iadd, 1) := by decide +kernel
theorem dL_law_926 : decode cL_law 926 = .ok (.iaload, 1) := by decide +kernel
theorem dL_law_927 : decode cL_law 927 = .ok (.invokevirtual 127, 3) := by decide +kernel
theorem dL_law_930 : decode cL_law 930 = .ok (.if_icmp .eq 274, 3) := by decide +kernel
theorem dL_law_935 : decode cL_law 935 = .ok (.aload_n 1, 1) := by decide +kernel
theorem dL_law_936 : decode cL_law 936 = .ok (.aload_n 0, 1) := by decide +kernel
theorem dL_law_937 : decode cL_law 937 = .ok (.iload_n 3, 1) := by decide +kernel
theorem dL_law_938 : decode cL_law 938 = .ok (.iconst 1, 1) := by decide +kernel
theorem dL_law_939 : decode cL_law 939 = .ok (.iadd, 1) := by decide +kernel
theorem dL_law_940 : decode cL_law 940 = .ok (.iaload, 1) := by decide +kernel
theorem dL_law_941 : decode cL_law 941 = .ok (.aload_n 0, 1) := by decide +kernel
theorem dL_law_942 : decode cL_law 942 = .ok (.iload_n 3, 1) := by decide +kernel
theorem dL_law_943 : decode cL_law 943 = .ok (.iconst 2, 1) := by decide +kernel
theorem dL_law_944 : decode cL_law 944 = .ok (.iadd, 1) := by decide +kernel
theorem dL_law_945 : decode cL_law 945 = .ok (.iaload, 1) := by decide +kernel
theorem dL_law_946 : decode cL_law 946 = .ok (.aload_n 0, 1) := by decide +kernel
theorem dL_law_947 : decode cL_law 947 = .ok (.iload_n 3, 1) := by decide +kernel
theorem dL_law_948 : decode cL_law 948 = .ok (.iconst 3, 1) := by decide +kernel
theorem dL_law_949 : decode cL_law 949 = .ok (.iadd, 1) := by decide +kernel
theorem dL_law_950 : decode cL_law 950 = .ok (.iaload, 1) := by decide +kernel
theorem dL_law_951 : decode cL_law 951 = .ok (.invokevirtual 128, 3) := by decide +kernel
theorem dL_law_954 : decode cL_law 954 = .ok (.aload_n 2, 1) := by decide +kernel
theorem dL_law_955 : decode cL_law 955 = .ok (.aload_n 0, 1) := by decide +kernel
theorem dL_law_956 : decode cL_law 956 = .ok (.iload_n 3, 1) := by decide +kernel
theorem dL_law_957 : decode cL_law 957 = .ok (.iconst 1, 1) := by decide +kernel
theorem dL_law_958 : decode cL_law 958 = .ok (.iadd, 1) := by decide +kernel
theorem dL_law_959 : decode cL_law 959 = .ok (.iaload, 1) := by decide +kernel
theorem dL_law_960 : decode cL_law 960 = .ok (.aload_n 0, 1) := by decide +kernel
theorem dL_law_961 : decode cL_law 961 = .ok (.iload_n 3, 1) := by decide +kernel
theorem dL_law_962 : decode cL_law 962 = .ok (.iconst 2, 1) := by decide +kernel
theorem dL_law_963 : decode cL_law 963 = .ok (.iadd, 1) := by decide +kernel
theorem dL_law_964 : decode cL_law 964 = .ok (.iaload, 1) := by decide +kernel
theorem dL_law_965 : decode cL_law 965 = .ok (.aload_n 0, 1) := by decide +kernel
theorem dL_law_966 : decode cL_law 966 = .ok (.iload_n 3, 1) := by decide +kernel
theorem dL_law_967 : decode cL_law 967 = .ok (.iconst 3, 1) := by decide +kernel
theorem dL_law_968 : decode cL_law 968 = .ok (.iadd, 1) := by decide +kernel
theorem dL_law_969 : decode cL_law 969 = .ok (.iaload, 1) := by decide +kernel
theorem dL_law_970 : decode cL_law 970 = .ok (.invokevirtual 132, 3) := by decide +kernel
theorem dL_law_973 : decode cL_law 973 = .ok (.lcmp, 1) := by decide +kernel
theorem dL_law_974 : decode cL_law 974 = .ok (.ifCond .eq 230, 3) := by decide +kernel
theorem dL_law_979 : decode cL_law 979 = .ok (.aload_n 1, 1) := by decide +kernel
theorem dL_law_980 : decode cL_law 980 = .ok (.aload_n 0, 1) := by decide +kernel
theorem dL_law_981 : decode cL_law 981 = .ok (.iload_n 3, 1) := by decide +kernel
theorem dL_law_982 : decode cL_law 982 = .ok (.iconst 1, 1) := by decide +kernel
theorem dL_law_983 : decode cL_law 983 = .ok (.iadd, 1) := by decide +kernel
theorem dL_law_984 : decode cL_law 984 = .ok (.iaload, 1) := by decide +kernel
theorem dL_law_985 : decode cL_law 985 = .ok (.aload_n 0, 1) := by decide +kernel
theorem dL_law_986 : decode cL_law 986 = .ok (.iload_n 3, 1) := by decide +kernel
theorem dL_law_987 : decode cL_law 987 = .ok (.iconst 2, 1) := by decide +kernel
theorem dL_law_988 : decode cL_law 988 = .ok (.iadd, 1) := by decide +kernel
theorem dL_law_989 : decode cL_law 989 = .ok (.iaload, 1) := by decide +kernel
theorem dL_law_990 : decode cL_law 990 = .ok (.invokevirtual 133, 3) := by decide +kernel
theorem dL_law_993 : decode cL_law 993 = .ok (.aload_n 2, 1) := by decide +kernel
theorem dL_law_994 : decode cL_law 994 = .ok (.aload_n 0, 1) := by decide +kernel
theorem dL_law_995 : decode cL_law 995 = .ok (.iload_n 3, 1) := by decide +kernel
theorem dL_law_996 : decode cL_law 996 = .ok (.iconst 1, 1) := by decide +kernel
theorem dL_law_997 : decode cL_law 997 = .ok (.iadd, 1) := by decide +kernel
theorem dL_law_998 : decode cL_law 998 = .ok (.iaload, 1) := by decide +kernel
theorem dL_law_999 : decode cL_law 999 = .ok (.aload_n 0, 1) := by decide +kernel
theorem dL_law_1000 : decode cL_law 1000 = .ok (.iload_n 3, 1) := by decide +kernel
theorem dL_law_1001 : decode cL_law 1001 = .ok (.iconst 2, 1) := by decide +kernel
theorem dL_law_1002 : decode cL_law 1002 = .ok (.iadd, 1) := by decide +kernel
theorem dL_law_1003 : decode cL_law 1003 = .ok (.iaload, 1) := by decide +kernel
theorem dL_law_1004 : decode cL_law 1004 = .ok (.invokevirtual 136, 3) := by decide +kernel
theorem dL_law_1007 : decode cL_law 1007 = .ok (.lcmp, 1) := by decide +kernel
theorem dL_law_1008 : decode cL_law 1008 = .ok (.ifCond .eq 196, 3) := by decide +kernel
theorem dL_law_1013 : decode cL_law 1013 = .ok (.aload_n 1, 1) := by decide +kernel
theorem dL_law_1014 : decode cL_law 1014 = .ok (.aload_n 0, 1) := by decide +kernel
theorem dL_law_1015 : decode cL_law 1015 = .ok (.iload_n 3, 1) := by decide +kernel
theorem dL_law_1016 : decode cL_law 1016 = .ok (.iconst 1, 1) := by decide +kernel
theorem dL_law_1017 : decode cL_law 1017 = .ok (.iadd, 1) := by decide +kernel
theorem dL_law_1018 : decode cL_law 1018 = .ok (.iaload, 1) := by decide +kernel
theorem dL_law_1019 : decode cL_law 1019 = .ok (.invokevirtual 137, 3) := by decide +kernel
theorem dL_law_1022 : decode cL_law 1022 = .ok (.aload_n 2, 1) := by decide +kernel
theorem dL_law_1023 : decode cL_law 1023 = .ok (.aload_n 0, 1) := by decide +kernel
theorem dL_law_1024 : decode cL_law 1024 = .ok (.iload_n 3, 1) := by decide +kernel
theorem dL_law_1025 : decode cL_law 1025 = .ok (.iconst 1, 1) := by decide +kernel
theorem dL_law_1026 : decode cL_law 1026 = .ok (.iadd, 1) := by decide +kernel
theorem dL_law_1027 : decode cL_law 1027 = .ok (.iaload, 1) := by decide +kernel
theorem dL_law_1028 : decode cL_law 1028 = .ok (.invokevirtual 140, 3) := by decide +kernel
theorem dL_law_1031 : decode cL_law 1031 = .ok (.if_icmp .eq 173, 3) := by decide +kernel
theorem dL_law_1036 : decode cL_law 1036 = .ok (.aload_n 1, 1) := by decide +kernel
theorem dL_law_1037 : decode cL_law 1037 = .ok (.aload_n 0, 1) := by decide +kernel
theorem dL_law_1038 : decode cL_law 1038 = .ok (.iload_n 3, 1) := by decide +kernel
theorem dL_law_1039 : decode cL_law 1039 = .ok (.iconst 1, 1) := by decide +kernel
theorem dL_law_1040 : decode cL_law 1040 = .ok (.iadd, 1) := by decide +kernel
theorem dL_law_1041 : decode cL_law 1041 = .ok (.iaload, 1) := by decide +kernel
theorem dL_law_1042 : decode cL_law 1042 = .ok (.invokevirtual 141, 3) := by decide +kernel
theorem dL_law_1045 : decode cL_law 1045 = .ok (.aload_n 2, 1) := by decide +kernel
theorem dL_law_1046 : decode cL_law 1046 = .ok (.aload_n 0, 1) := by decide +kernel
theorem dL_law_1047 : decode cL_law 1047 = .ok (.iload_n 3, 1) := by decide +kernel
theorem dL_law_1048 : decode cL_law 1048 = .ok (.iconst 1, 1) := by decide +kernel
theorem dL_law_1049 : decode cL_law 1049 = .ok (.iadd, 1) := by decide +kernel
theorem dL_law_1050 : decode cL_law 1050 = .ok (.iaload, 1) := by decide +kernel
theorem dL_law_1051 : decode cL_law 1051 = .ok (.invokevirtual 144, 3) := by decide +kernel
theorem dL_law_1054 : decode cL_law 1054 = .ok (.if_icmp .eq 150, 3) := by decide +kernel
theorem dL_law_1059 : decode cL_law 1059 = .ok (.aload_n 1, 1) := by decide +kernel
theorem dL_law_1060 : decode cL_law 1060 = .ok (.aload_n 0, 1) := by decide +kernel
theorem dL_law_1061 : decode cL_law 1061 = .ok (.iload_n 3, 1) := by decide +kernel
theorem dL_law_1062 : decode cL_law 1062 = .ok (.iconst 1, 1) := by decide +kernel
theorem dL_law_1063 : decode cL_law 1063 = .ok (.iadd, 1) := by decide +kernel
theorem dL_law_1064 : decode cL_law 1064 = .ok (.iaload, 1) := by decide +kernel
theorem dL_law_1065 : decode cL_law 1065 = .ok (.invokevirtual 145, 3) := by decide +kernel
theorem dL_law_1068 : decode cL_law 1068 = .ok (.aload_n 2, 1) := by decide +kernel
theorem dL_law_1069 : decode cL_law 1069 = .ok (.aload_n 0, 1) := by decide +kernel
theorem dL_law_1070 : decode cL_law 1070 = .ok (.iload_n 3, 1) := by decide +kernel
theorem dL_law_1071 : decode cL_law 1071 = .ok (.iconst 1, 1) := by decide +kernel
theorem dL_law_1072 : decode cL_law 1072 = .ok (.iadd, 1) := by decide +kernel
theorem dL_law_1073 : decode cL_law 1073 = .ok (.iaload, 1) := by decide +kernel
theorem dL_law_1074 : decode cL_law 1074 = .ok (.invokevirtual 148, 3) := by decide +kernel
theorem dL_law_1077 : decode cL_law 1077 = .ok (.if_icmp .eq 127, 3) := by decide +kernel
theorem dL_law_1082 : decode cL_law 1082 = .ok (.aload_n 1, 1) := by decide +kernel
theorem dL_law_1083 : decode cL_law 1083 = .ok (.aload_n 0, 1) := by decide +kernel
theorem dL_law_1084 : decode cL_law 1084 = .ok (.iload_n 3, 1) := by decide +kernel
theorem dL_law_1085 : decode cL_law 1085 = .ok (.iconst 1, 1) := by decide +kernel
theorem dL_law_1086 : decode cL_law 1086 = .ok (.iadd, 1) := by decide +kernel
theorem dL_law_1087 : decode cL_law 1087 = .ok (.iaload, 1) := by decide +kernel
theorem dL_law_1088 : decode cL_law 1088 = .ok (.aload_n 0, 1) := by decide +kernel
theorem dL_law_1089 : decode cL_law 1089 = .ok (.iload_n 3, 1) := by decide +kernel
theorem dL_law_1090 : decode cL_law 1090 = .ok (.iconst 2, 1) := by decide +kernel
theorem dL_law_1091 : decode cL_law 1091 = .ok (.iadd, 1) := by decide +kernel
theorem dL_law_1092 : decode cL_law 1092 = .ok (.iaload, 1) := by decide +kernel
theorem dL_law_1093 : decode cL_law 1093 = .ok (.aload_n 0, 1) := by decide +kernel
theorem dL_law_1094 : decode cL_law 1094 = .ok (.iload_n 3, 1) := by decide +kernel
theorem dL_law_1095 : decode cL_law 1095 = .ok (.iconst 3, 1) := by decide +kernel
theorem dL_law_1096 : decode cL_law 1096 = .ok (.iadd, 1) := by decide +kernel
theorem dL_law_1097 : decode cL_law 1097 = .ok (.iaload, 1) := by decide +kernel
theorem dL_law_1098 : decode cL_law 1098 = .ok (.invokevirtual 149, 3) := by decide +kernel
theorem dL_law_1101 : decode cL_law 1101 = .ok (.aload_n 2, 1) := by decide +kernel
theorem dL_law_1102 : decode cL_law 1102 = .ok (.aload_n 0, 1) := by decide +kernel
theorem dL_law_1103 : decode cL_law 1103 = .ok (.iload_n 3, 1) := by decide +kernel
theorem dL_law_1104 : decode cL_law 1104 = .ok (.iconst 1, 1) := by decide +kernel
theorem dL_law_1105 : decode cL_law 1105 = .ok (.iadd, 1) := by decide +kernel
theorem dL_law_1106 : decode cL_law 1106 = .ok (.iaload, 1) := by decide +kernel
theorem dL_law_1107 : decode cL_law 1107 = .ok (.aload_n 0, 1) := by decide +kernel
theorem dL_law_1108 : decode cL_law 1108 = .ok (.iload_n 3, 1) := by decide +kernel
theorem dL_law_1109 : decode cL_law 1109 = .ok (.iconst 2, 1) := by decide +kernel
theorem dL_law_1110 : decode cL_law 1110 = .ok (.iadd, 1) := by decide +kernel
theorem dL_law_1111 : decode cL_law 1111 = .ok (.iaload, 1) := by decide +kernel
theorem dL_law_1112 : decode cL_law 1112 = .ok (.aload_n 0, 1) := by decide +kernel
theorem dL_law_1113 : decode cL_law 1113 = .ok (.iload_n 3, 1) := by decide +kernel
theorem dL_law_1114 : decode cL_law 1114 = .ok (.iconst 3, 1) := by decide +kernel
theorem dL_law_1115 : decode cL_law 1115 = .ok (.iadd, 1) := by decide +kernel
theorem dL_law_1116 : decode cL_law 1116 = .ok (.iaload, 1) := by decide +kernel
theorem dL_law_1117 : decode cL_law 1117 = .ok (.invokevirtual 152, 3) := by decide +kernel
theorem dL_law_1120 : decode cL_law 1120 = .ok (.if_icmp .eq 84, 3) := by decide +kernel
theorem dL_law_1125 : decode cL_law 1125 = .ok (.aload_n 1, 1) := by decide +kernel
theorem dL_law_1126 : decode cL_law 1126 = .ok (.aload_n 0, 1) := by decide +kernel
theorem dL_law_1127 : decode cL_law 1127 = .ok (.iload_n 3, 1) := by decide +kernel
theorem dL_law_1128 : decode cL_law 1128 = .ok (.iconst 1, 1) := by decide +kernel
theorem dL_law_1129 : decode cL_law 1129 = .ok (.iadd, 1) := by decide +kernel
theorem dL_law_1130 : decode cL_law 1130 = .ok (.iaload, 1) := by decide +kernel
theorem dL_law_1131 : decode cL_law 1131 = .ok (.aload_n 0, 1) := by decide +kernel
theorem dL_law_1132 : decode cL_law 1132 = .ok (.iload_n 3, 1) := by decide +kernel
theorem dL_law_1133 : decode cL_law 1133 = .ok (.iconst 2, 1) := by decide +kernel
theorem dL_law_1134 : decode cL_law 1134 = .ok (.iadd, 1) := by decide +kernel
theorem dL_law_1135 : decode cL_law 1135 = .ok (.iaload, 1) := by decide +kernel
theorem dL_law_1136 : decode cL_law 1136 = .ok (.aload_n 0, 1) := by decide +kernel
theorem dL_law_1137 : decode cL_law 1137 = .ok (.iload_n 3, 1) := by decide +kernel
theorem dL_law_1138 : decode cL_law 1138 = .ok (.iconst 3, 1) := by decide +kernel
theorem dL_law_1139 : decode cL_law 1139 = .ok (.iadd, 1) := by decide +kernel
theorem dL_law_1140 : decode cL_law 1140 = .ok (.iaload, 1) := by decide +kernel
theorem dL_law_1141 : decode cL_law 1141 = .ok (.invokevirtual 153, 3) := by decide +kernel
theorem dL_law_1144 : decode cL_law 1144 = .ok (.aload_n 2, 1) := by decide +kernel
theorem dL_law_1145 : decode cL_law 1145 = .ok (.aload_n 0, 1) := by decide +kernel
theorem dL_law_1146 : decode cL_law 1146 = .ok (.iload_n 3, 1) := by decide +kernel
theorem dL_law_1147 : decode cL_law 1147 = .ok (.iconst 1, 1) := by decide +kernel
theorem dL_law_1148 : decode cL_law 1148 = .ok (.iadd, 1) := by decide +kernel
theorem dL_law_1149 : decode cL_law 1149 = .ok (.iaload, 1) := by decide +kernel
theorem dL_law_1150 : decode cL_law 1150 = .ok (.aload_n 0, 1) := by decide +kernel
theorem dL_law_1151 : decode cL_law 1151 = .ok (.iload_n 3, 1) := by decide +kernel
theorem dL_law_1152 : decode cL_law 1152 = .ok (.iconst 2, 1) := by decide +kernel
theorem dL_law_1153 : decode cL_law 1153 = .ok (.iadd, 1) := by decide +kernel
theorem dL_law_1154 : decode cL_law 1154 = .ok (.iaload, 1) := by decide +kernel
theorem dL_law_1155 : decode cL_law 1155 = .ok (.aload_n 0, 1) := by decide +kernel
theorem dL_law_1156 : decode cL_law 1156 = .ok (.iload_n 3, 1) := by decide +kernel
theorem dL_law_1157 : decode cL_law 1157 = .ok (.iconst 3, 1) := by decide +kernel
theorem dL_law_1158 : decode cL_law 1158 = .ok (.iadd, 1) := by decide +kernel
theorem dL_law_1159 : decode cL_law 1159 = .ok (.iaload, 1) := by decide +kernel
theorem dL_law_1160 : decode cL_law 1160 = .ok (.invokevirtual 156, 3) := by decide +kernel
theorem dL_law_1163 : decode cL_law 1163 = .ok (.if_icmp .eq 41, 3) := by decide +kernel
theorem dL_law_1168 : decode cL_law 1168 = .ok (.aload_n 1, 1) := by decide +kernel
theorem dL_law_1169 : decode cL_law 1169 = .ok (.aload_n 0, 1) := by decide +kernel
theorem dL_law_1170 : decode cL_law 1170 = .ok (.iload_n 3, 1) := by decide +kernel
theorem dL_law_1171 : decode cL_law 1171 = .ok (.iconst 1, 1) := by decide +kernel
theorem dL_law_1172 : decode cL_law 1172 = .ok (.iadd, 1) := by decide +kernel
theorem dL_law_1173 : decode cL_law 1173 = .ok (.iaload, 1) := by decide +kernel
theorem dL_law_1174 : decode cL_law 1174 = .ok (.invokevirtual 157, 3) := by decide +kernel
theorem dL_law_1177 : decode cL_law 1177 = .ok (.aload_n 2, 1) := by decide +kernel
theorem dL_law_1178 : decode cL_law 1178 = .ok (.aload_n 0, 1) := by decide +kernel
theorem dL_law_1179 : decode cL_law 1179 = .ok (.iload_n 3, 1) := by decide +kernel
theorem dL_law_1180 : decode cL_law 1180 = .ok (.iconst 1, 1) := by decide +kernel
theorem dL_law_1181 : decode cL_law 1181 = .ok (.iadd, 1) := by decide +kernel
theorem dL_law_1182 : decode cL_law 1182 = .ok (.iaload, 1) := by decide +kernel
theorem dL_law_1183 : decode cL_law 1183 = .ok (.invokevirtual 160, 3) := by decide +kernel
theorem dL_law_1186 : decode cL_law 1186 = .ok (.if_icmp .eq 18, 3) := by decide +kernel
theorem dL_law_1191 : decode cL_law 1191 = .ok (.aload_n 1, 1) := by decide +kernel
theorem dL_law_1192 : decode cL_law 1192 = .ok (.invokevirtual 161, 3) := by decide +kernel
theorem dL_law_1195 : decode cL_law 1195 = .ok (.aload_n 2, 1) := by decide +kernel
theorem dL_law_1196 : decode cL_law 1196 = .ok (.invokevirtual 164, 3) := by decide +kernel
theorem dL_law_1199 : decode cL_law 1199 = .ok (.if_icmp .eq 5, 3) := by decide +kernel
theorem dL_law_1204 : decode cL_law 1204 = .ok (.iinc 3 6, 3) := by decide +kernel
theorem dL_law_1207 : decode cL_law 1207 = .ok (.goto (-1189), 3) := by decide +kernel
theorem dL_law_1210 : decode cL_law 1210 = .ok (.iconst 1, 1) := by decide +kernel
theorem dL_law_1211 : decode cL_law 1211 = .ok (.ireturn, 1) := by decide +kernel

theorem dX0_init_0 : decode cX0_init 0 = .ok (.aload_n 0, 1) := by decide +kernel
theorem dX0_init_1 : decode cX0_init 1 = .ok (.invokespecial 3, 3) := by decide +kernel
theorem dX0_init_4 : decode cX0_init 4 = .ok (.aload_n 0, 1) := by decide +kernel
theorem dX0_init_5 : decode cX0_init 5 = .ok (.aload_n 1, 1) := by decide +kernel
theorem dX0_init_6 : decode cX0_init 6 = .ok (.putfield 9, 3) := by decide +kernel
theorem dX0_init_9 : decode cX0_init 9 = .ok (.return_, 1) := by decide +kernel
theorem dX0_start_0 : decode cX0_start 0 = .ok (.aload_n 0, 1) := by decide +kernel
theorem dX0_start_1 : decode cX0_start 1 = .ok (.iload_n 1, 1) := by decide +kernel
theorem dX0_start_2 : decode cX0_start 2 = .ok (.putfield 15, 3) := by decide +kernel
theorem dX0_start_5 : decode cX0_start 5 = .ok (.aload_n 0, 1) := by decide +kernel
theorem dX0_start_6 : decode cX0_start 6 = .ok (.aload_n 0, 1) := by decide +kernel
theorem dX0_start_7 : decode cX0_start 7 = .ok (.getfield 9, 3) := by decide +kernel
theorem dX0_start_10 : decode cX0_start 10 = .ok (.getfield 19, 3) := by decide +kernel
theorem dX0_start_13 : decode cX0_start 13 = .ok (.i2l, 1) := by decide +kernel
theorem dX0_start_14 : decode cX0_start 14 = .ok (.putfield 24, 3) := by decide +kernel
theorem dX0_start_17 : decode cX0_start 17 = .ok (.return_, 1) := by decide +kernel
theorem dX0_pick_0 : decode cX0_pick 0 = .ok (.aload_n 0, 1) := by decide +kernel
theorem dX0_pick_1 : decode cX0_pick 1 = .ok (.getfield 15, 3) := by decide +kernel
theorem dX0_pick_4 : decode cX0_pick 4 = .ok (.tableswitch 54 1 4 #[32, 37, 43, 48], 32) := by decide +kernel
theorem dX0_pick_36 : decode cX0_pick 36 = .ok (.aload_n 1, 1) := by decide +kernel
theorem dX0_pick_37 : decode cX0_pick 37 = .ok (.invokevirtual 28, 3) := by decide +kernel
theorem dX0_pick_40 : decode cX0_pick 40 = .ok (.ireturn, 1) := by decide +kernel
theorem dX0_pick_41 : decode cX0_pick 41 = .ok (.aload_n 1, 1) := by decide +kernel
theorem dX0_pick_42 : decode cX0_pick 42 = .ok (.iconst 0, 1) := by decide +kernel
theorem dX0_pick_43 : decode cX0_pick 43 = .ok (.invokevirtual 34, 3) := by decide +kernel
theorem dX0_pick_46 : decode cX0_pick 46 = .ok (.ireturn, 1) := by decide +kernel
theorem dX0_pick_47 : decode cX0_pick 47 = .ok (.aload_n 1, 1) := by decide +kernel
theorem dX0_pick_48 : decode cX0_pick 48 = .ok (.invokevirtual 38, 3) := by decide +kernel
theorem dX0_pick_51 : decode cX0_pick 51 = .ok (.ireturn, 1) := by decide +kernel
theorem dX0_pick_52 : decode cX0_pick 52 = .ok (.aload_n 0, 1) := by decide +kernel
theorem dX0_pick_53 : decode cX0_pick 53 = .ok (.aload_n 1, 1) := by decide +kernel
theorem dX0_pick_54 : decode cX0_pick 54 = .ok (.invokevirtual 41, 3) := by decide +kernel
theorem dX0_pick_57 : decode cX0_pick 57 = .ok (.ireturn, 1) := by decide +kernel
theorem dX0_pick_58 : decode cX0_pick 58 = .ok (.aload_n 0, 1) := by decide +kernel
theorem dX0_pick_59 : decode cX0_pick 59 = .ok (.getfield 9, 3) := by decide +kernel
theorem dX0_pick_62 : decode cX0_pick 62 = .ok (.getfield 45, 3) := by decide +kernel
theorem dX0_pick_65 : decode cX0_pick 65 = .ok (.iconst 1, 1) := by decide +kernel
theorem dX0_pick_66 : decode cX0_pick 66 = .ok (.if_icmp .ne 18, 3) := by decide +kernel
theorem dX0_pick_69 : decode cX0_pick 69 = .ok (.aload_n 1, 1) := by decide +kernel
theorem dX0_pick_70 : decode cX0_pick 70 = .ok (.getfield 48, 3) := by decide +kernel
theorem dX0_pick_73 : decode cX0_pick 73 = .ok (.iconst (-1), 1) := by decide +kernel
theorem dX0_pick_74 : decode cX0_pick 74 = .ok (.if_icmp .eq 10, 3) := by decide +kernel
theorem dX0_pick_77 : decode cX0_pick 77 = .ok (.aload_n 1, 1) := by decide +kernel
theorem dX0_pick_78 : decode cX0_pick 78 = .ok (.getfield 48, 3) := by decide +kernel
theorem dX0_pick_81 : decode cX0_pick 81 = .ok (.goto 8, 3) := by decide +kernel
theorem dX0_pick_84 : decode cX0_pick 84 = .ok (.aload_n 1, 1) := by decide +kernel
theorem dX0_pick_85 : decode cX0_pick 85 = .ok (.iconst 1, 1) := by decide +kernel
theorem dX0_pick_86 : decode cX0_pick 86 = .ok (.invokevirtual 34, 3) := by decide +kernel
theorem dX0_pick_89 : decode cX0_pick 89 = .ok (.ireturn, 1) := by decide +kernel
theorem dX0_byDraw_0 : decode cX0_byDraw 0 = .ok (.aload_n 1, 1) := by decide +kernel
theorem dX0_byDraw_1 : decode cX0_byDraw 1 = .ok (.invokevirtual 51, 3) := by decide +kernel
theorem dX0_byDraw_4 : decode cX0_byDraw 4 = .ok (.istore_n 2, 1) := by decide +kernel
theorem dX0_byDraw_5 : decode cX0_byDraw 5 = .ok (.iload_n 2, 1) := by decide +kernel
theorem dX0_byDraw_6 : decode cX0_byDraw 6 = .ok (.ifCond .gt 5, 3) := by decide +kernel
theorem dX0_byDraw_9 : decode cX0_byDraw 9 = .ok (.iconst (-1), 1) := by decide +kernel
theorem dX0_byDraw_10 : decode cX0_byDraw 10 = .ok (.ireturn, 1) := by decide +kernel
theorem dX0_byDraw_11 : decode cX0_byDraw 11 = .ok (.aload_n 0, 1) := by decide +kernel
theorem dX0_byDraw_12 : decode cX0_byDraw 12 = .ok (.ldc2_w 54, 3) := by decide +kernel
theorem dX0_byDraw_15 : decode cX0_byDraw 15 = .ok (.aload_n 0, 1) := by decide +kernel
theorem dX0_byDraw_16 : decode cX0_byDraw 16 = .ok (.getfield 24, 3) := by decide +kernel
theorem dX0_byDraw_19 : decode cX0_byDraw 19 = .ok (.lmul, 1) := by decide +kernel
theorem dX0_byDraw_20 : decode cX0_byDraw 20 = .ok (.ldc2_w 56, 3) := by decide +kernel
theorem dX0_byDraw_23 : decode cX0_byDraw 23 = .ok (.ladd, 1) := by decide +kernel
theorem dX0_byDraw_24 : decode cX0_byDraw 24 = .ok (.ldc2_w 58, 3) := by decide +kernel
theorem dX0_byDraw_27 : decode cX0_byDraw 27 = .ok (.lrem, 1) := by decide +kernel
theorem dX0_byDraw_28 : decode cX0_byDraw 28 = .ok (.putfield 24, 3) := by decide +kernel
theorem dX0_byDraw_31 : decode cX0_byDraw 31 = .ok (.aload_n 1, 1) := by decide +kernel
theorem dX0_byDraw_32 : decode cX0_byDraw 32 = .ok (.aload_n 0, 1) := by decide +kernel
theorem dX0_byDraw_33 : decode cX0_byDraw 33 = .ok (.getfield 24, 3) := by decide +kernel
theorem dX0_byDraw_36 : decode cX0_byDraw 36 = .ok (.iload_n 2, 1) := by decide +kernel
theorem dX0_byDraw_37 : decode cX0_byDraw 37 = .ok (.i2l, 1) := by decide +kernel
theorem dX0_byDraw_38 : decode cX0_byDraw 38 = .ok (.lrem, 1) := by decide +kernel
theorem dX0_byDraw_39 : decode cX0_byDraw 39 = .ok (.l2i, 1) := by decide +kernel
theorem dX0_byDraw_40 : decode cX0_byDraw 40 = .ok (.invokevirtual 60, 3) := by decide +kernel
theorem dX0_byDraw_43 : decode cX0_byDraw 43 = .ok (.ireturn, 1) := by decide +kernel
theorem dX1_init_0 : decode cX1_init 0 = .ok (.aload_n 0, 1) := by decide +kernel
theorem dX1_init_1 : decode cX1_init 1 = .ok (.invokespecial 3, 3) := by decide +kernel
theorem dX1_init_4 : decode cX1_init 4 = .ok (.aload_n 0, 1) := by decide +kernel
theorem dX1_init_5 : decode cX1_init 5 = .ok (.bipush 10, 2) := by decide +kernel
theorem dX1_init_7 : decode cX1_init 7 = .ok (.anewarray 9, 3) := by decide +kernel
theorem dX1_init_10 : decode cX1_init 10 = .ok (.putfield 11, 3) := by decide +kernel
theorem dX1_init_13 : decode cX1_init 13 = .ok (.aload_n 0, 1) := by decide +kernel
theorem dX1_init_14 : decode cX1_init 14 = .ok (.bipush 10, 2) := by decide +kernel
theorem dX1_init_16 : decode cX1_init 16 = .ok (.newarray .int, 2) := by decide +kernel
theorem dX1_init_18 : decode cX1_init 18 = .ok (.putfield 17, 3) := by decide +kernel
theorem dX1_init_21 : decode cX1_init 21 = .ok (.iconst 0, 1) := by decide +kernel
theorem dX1_init_22 : decode cX1_init 22 = .ok (.istore_n 2, 1) := by decide +kernel
theorem dX1_init_23 : decode cX1_init 23 = .ok (.iload_n 2, 1) := by decide +kernel
theorem dX1_init_24 : decode cX1_init 24 = .ok (.bipush 10, 2) := by decide +kernel
theorem dX1_init_26 : decode cX1_init 26 = .ok (.if_icmp .ge 23, 3) := by decide +kernel
theorem dX1_init_29 : decode cX1_init 29 = .ok (.aload_n 0, 1) := by decide +kernel
theorem dX1_init_30 : decode cX1_init 30 = .ok (.getfield 11, 3) := by decide +kernel
theorem dX1_init_33 : decode cX1_init 33 = .ok (.iload_n 2, 1) := by decide +kernel
theorem dX1_init_34 : decode cX1_init 34 = .ok (.new 9, 3) := by decide +kernel
theorem dX1_init_37 : decode cX1_init 37 = .ok (.dup, 1) := by decide +kernel
theorem dX1_init_38 : decode cX1_init 38 = .ok (.aload_n 1, 1) := by decide +kernel
theorem dX1_init_39 : decode cX1_init 39 = .ok (.invokespecial 21, 3) := by decide +kernel
theorem dX1_init_42 : decode cX1_init 42 = .ok (.aastore, 1) := by decide +kernel
theorem dX1_init_43 : decode cX1_init 43 = .ok (.iinc 2 1, 3) := by decide +kernel
theorem dX1_init_46 : decode cX1_init 46 = .ok (.goto (-23), 3) := by decide +kernel
theorem dX1_init_49 : decode cX1_init 49 = .ok (.return_, 1) := by decide +kernel
theorem dX1_keep_0 : decode cX1_keep 0 = .ok (.aload_n 0, 1) := by decide +kernel
theorem dX1_keep_1 : decode cX1_keep 1 = .ok (.getfield 24, 3) := by decide +kernel
theorem dX1_keep_4 : decode cX1_keep 4 = .ok (.ifCond .lt 12, 3) := by decide +kernel
theorem dX1_keep_7 : decode cX1_keep 7 = .ok (.aload_n 0, 1) := by decide +kernel
theorem dX1_keep_8 : decode cX1_keep 8 = .ok (.getfield 24, 3) := by decide +kernel
theorem dX1_keep_11 : decode cX1_keep 11 = .ok (.bipush 10, 2) := by decide +kernel
theorem dX1_keep_13 : decode cX1_keep 13 = .ok (.if_icmp .lt 4, 3) := by decide +kernel
theorem dX1_keep_16 : decode cX1_keep 16 = .ok (.return_, 1) := by decide +kernel
theorem dX1_keep_17 : decode cX1_keep 17 = .ok (.aload_n 0, 1) := by decide +kernel
theorem dX1_keep_18 : decode cX1_keep 18 = .ok (.getfield 11, 3) := by decide +kernel
theorem dX1_keep_21 : decode cX1_keep 21 = .ok (.aload_n 0, 1) := by decide +kernel
theorem dX1_keep_22 : decode cX1_keep 22 = .ok (.getfield 24, 3) := by decide +kernel
theorem dX1_keep_25 : decode cX1_keep 25 = .ok (.aaload, 1) := by decide +kernel
theorem dX1_keep_26 : decode cX1_keep 26 = .ok (.aload_n 1, 1) := by decide +kernel
theorem dX1_keep_27 : decode cX1_keep 27 = .ok (.invokevirtual 28, 3) := by decide +kernel
theorem dX1_keep_30 : decode cX1_keep 30 = .ok (.aload_n 0, 1) := by decide +kernel
theorem dX1_keep_31 : decode cX1_keep 31 = .ok (.getfield 17, 3) := by decide +kernel
theorem dX1_keep_34 : decode cX1_keep 34 = .ok (.aload_n 0, 1) := by decide +kernel
theorem dX1_keep_35 : decode cX1_keep 35 = .ok (.getfield 24, 3) := by decide +kernel
theorem dX1_keep_38 : decode cX1_keep 38 = .ok (.iload_n 2, 1) := by decide +kernel
theorem dX1_keep_39 : decode cX1_keep 39 = .ok (.iastore, 1) := by decide +kernel
theorem dX1_keep_40 : decode cX1_keep 40 = .ok (.aload_n 0, 1) := by decide +kernel
theorem dX1_keep_41 : decode cX1_keep 41 = .ok (.aload_n 0, 1) := by decide +kernel
theorem dX1_keep_42 : decode cX1_keep 42 = .ok (.getfield 24, 3) := by decide +kernel
theorem dX1_keep_45 : decode cX1_keep 45 = .ok (.iconst 1, 1) := by decide +kernel
theorem dX1_keep_46 : decode cX1_keep 46 = .ok (.iadd, 1) := by decide +kernel
theorem dX1_keep_47 : decode cX1_keep 47 = .ok (.bipush 10, 2) := by decide +kernel
theorem dX1_keep_49 : decode cX1_keep 49 = .ok (.irem, 1) := by decide +kernel
theorem dX1_keep_50 : decode cX1_keep 50 = .ok (.putfield 24, 3) := by decide +kernel
theorem dX1_keep_53 : decode cX1_keep 53 = .ok (.aload_n 0, 1) := by decide +kernel
theorem dX1_keep_54 : decode cX1_keep 54 = .ok (.bipush 10, 2) := by decide +kernel
theorem dX1_keep_56 : decode cX1_keep 56 = .ok (.aload_n 0, 1) := by decide +kernel
theorem dX1_keep_57 : decode cX1_keep 57 = .ok (.getfield 32, 3) := by decide +kernel
theorem dX1_keep_60 : decode cX1_keep 60 = .ok (.iconst 1, 1) := by decide +kernel
theorem dX1_keep_61 : decode cX1_keep 61 = .ok (.iadd, 1) := by decide +kernel
theorem dX1_keep_62 : decode cX1_keep 62 = .ok (.invokestatic 35, 3) := by decide +kernel
theorem dX1_keep_65 : decode cX1_keep 65 = .ok (.putfield 32, 3) := by decide +kernel
theorem dX1_keep_68 : decode cX1_keep 68 = .ok (.return_, 1) := by decide +kernel
theorem dX1_takeBack_0 : decode cX1_takeBack 0 = .ok (.aload_n 0, 1) := by decide +kernel
theorem dX1_takeBack_1 : decode cX1_takeBack 1 = .ok (.getfield 24, 3) := by decide +kernel
theorem dX1_takeBack_4 : decode cX1_takeBack 4 = .ok (.bipush 10, 2) := by decide +kernel
theorem dX1_takeBack_6 : decode cX1_takeBack 6 = .ok (.iadd, 1) := by decide +kernel
theorem dX1_takeBack_7 : decode cX1_takeBack 7 = .ok (.iconst 1, 1) := by decide +kernel
theorem dX1_takeBack_8 : decode cX1_takeBack 8 = .ok (.isub, 1) := by decide +kernel
theorem dX1_takeBack_9 : decode cX1_takeBack 9 = .ok (.bipush 10, 2) := by decide +kernel
theorem dX1_takeBack_11 : decode cX1_takeBack 11 = .ok (.irem, 1) := by decide +kernel
theorem dX1_takeBack_12 : decode cX1_takeBack 12 = .ok (.istore_n 2, 1) := by decide +kernel
theorem dX1_takeBack_13 : decode cX1_takeBack 13 = .ok (.aload_n 0, 1) := by decide +kernel
theorem dX1_takeBack_14 : decode cX1_takeBack 14 = .ok (.getfield 32, 3) := by decide +kernel
theorem dX1_takeBack_17 : decode cX1_takeBack 17 = .ok (.ifCond .le 13, 3) := by decide +kernel
theorem dX1_takeBack_20 : decode cX1_takeBack 20 = .ok (.iload_n 2, 1) := by decide +kernel
theorem dX1_takeBack_21 : decode cX1_takeBack 21 = .ok (.ifCond .lt 9, 3) := by decide +kernel
theorem dX1_takeBack_24 : decode cX1_takeBack 24 = .ok (.iload_n 2, 1) := by decide +kernel
theorem dX1_takeBack_25 : decode cX1_takeBack 25 = .ok (.bipush 10, 2) := by decide +kernel
theorem dX1_takeBack_27 : decode cX1_takeBack 27 = .ok (.if_icmp .lt 5, 3) := by decide +kernel
theorem dX1_takeBack_30 : decode cX1_takeBack 30 = .ok (.iconst (-1), 1) := by decide +kernel
theorem dX1_takeBack_31 : decode cX1_takeBack 31 = .ok (.ireturn, 1) := by decide +kernel
theorem dX1_takeBack_32 : decode cX1_takeBack 32 = .ok (.aload_n 1, 1) := by decide +kernel
theorem dX1_takeBack_33 : decode cX1_takeBack 33 = .ok (.aload_n 0, 1) := by decide +kernel
theorem dX1_takeBack_34 : decode cX1_takeBack 34 = .ok (.getfield 11, 3) := by decide +kernel
theorem dX1_takeBack_37 : decode cX1_takeBack 37 = .ok (.iload_n 2, 1) := by decide +kernel
theorem dX1_takeBack_38 : decode cX1_takeBack 38 = .ok (.aaload, 1) := by decide +kernel
theorem dX1_takeBack_39 : decode cX1_takeBack 39 = .ok (.invokevirtual 28, 3) := by decide +kernel
theorem dX1_takeBack_42 : decode cX1_takeBack 42 = .ok (.aload_n 0, 1) := by decide +kernel
theorem dX1_takeBack_43 : decode cX1_takeBack 43 = .ok (.iload_n 2, 1) := by decide +kernel
theorem dX1_takeBack_44 : decode cX1_takeBack 44 = .ok (.putfield 24, 3) := by decide +kernel
theorem dX1_takeBack_47 : decode cX1_takeBack 47 = .ok (.aload_n 0, 1) := by decide +kernel
theorem dX1_takeBack_48 : decode cX1_takeBack 48 = .ok (.dup, 1) := by decide +kernel
theorem dX1_takeBack_49 : decode cX1_takeBack 49 = .ok (.getfield 32, 3) := by decide +kernel
theorem dX1_takeBack_52 : decode cX1_takeBack 52 = .ok (.iconst 1, 1) := by decide +kernel
theorem dX1_takeBack_53 : decode cX1_takeBack 53 = .ok (.isub, 1) := by decide +kernel
theorem dX1_takeBack_54 : decode cX1_takeBack 54 = .ok (.putfield 32, 3) := by decide +kernel
theorem dX1_takeBack_57 : decode cX1_takeBack 57 = .ok (.aload_n 0, 1) := by decide +kernel
theorem dX1_takeBack_58 : decode cX1_takeBack 58 = .ok (.getfield 17, 3) := by decide +kernel
theorem dX1_takeBack_61 : decode cX1_takeBack 61 = .ok (.iload_n 2, 1) := by decide +kernel
theorem dX1_takeBack_62 : decode cX1_takeBack 62 = .ok (.iaload, 1) := by decide +kernel
theorem dX1_takeBack_63 : decode cX1_takeBack 63 = .ok (.ireturn, 1) := by decide +kernel
theorem dX2_init_0 : decode cX2_init 0 = .ok (.aload_n 0, 1) := by decide +kernel
theorem dX2_init_1 : decode cX2_init 1 = .ok (.invokespecial 5, 3) := by decide +kernel
theorem dX2_init_4 : decode cX2_init 4 = .ok (.aload_n 0, 1) := by decide +kernel
theorem dX2_init_5 : decode cX2_init 5 = .ok (.sipush 128, 3) := by decide +kernel
theorem dX2_init_8 : decode cX2_init 8 = .ok (.newarray .long, 2) := by decide +kernel
theorem dX2_init_10 : decode cX2_init 10 = .ok (.putfield 11, 3) := by decide +kernel
theorem dX2_init_13 : decode cX2_init 13 = .ok (.return_, 1) := by decide +kernel
theorem dX2_copy_0 : decode cX2_copy 0 = .ok (.aload_n 1, 1) := by decide +kernel
theorem dX2_copy_1 : decode cX2_copy 1 = .ok (.getfield 11, 3) := by decide +kernel
theorem dX2_copy_4 : decode cX2_copy 4 = .ok (.iconst 0, 1) := by decide +kernel
theorem dX2_copy_5 : decode cX2_copy 5 = .ok (.aload_n 0, 1) := by decide +kernel
theorem dX2_copy_6 : decode cX2_copy 6 = .ok (.getfield 11, 3) := by decide +kernel
theorem dX2_copy_9 : decode cX2_copy 9 = .ok (.iconst 0, 1) := by decide +kernel
theorem dX2_copy_10 : decode cX2_copy 10 = .ok (.sipush 128, 3) := by decide +kernel
theorem dX2_copy_13 : decode cX2_copy 13 = .ok (.invokestatic 15, 3) := by decide +kernel
theorem dX2_copy_16 : decode cX2_copy 16 = .ok (.return_, 1) := by decide +kernel
theorem dX2_weightAsBits_0 : decode cX2_weightAsBits 0 = .ok (.iload_n 1, 1) := by decide +kernel
theorem dX2_weightAsBits_1 : decode cX2_weightAsBits 1 = .ok (.i2l, 1) := by decide +kernel
theorem dX2_weightAsBits_2 : decode cX2_weightAsBits 2 = .ok (.iload_n 0, 1) := by decide +kernel
theorem dX2_weightAsBits_3 : decode cX2_weightAsBits 3 = .ok (.iconst 4, 1) := by decide +kernel
theorem dX2_weightAsBits_4 : decode cX2_weightAsBits 4 = .ok (.imul, 1) := by decide +kernel
theorem dX2_weightAsBits_5 : decode cX2_weightAsBits 5 = .ok (.lshl, 1) := by decide +kernel
theorem dX2_weightAsBits_6 : decode cX2_weightAsBits 6 = .ok (.lreturn, 1) := by decide +kernel
theorem dX2_put_0 : decode cX2_put 0 = .ok (.aload_n 0, 1) := by decide +kernel
theorem dX2_put_1 : decode cX2_put 1 = .ok (.getfield 11, 3) := by decide +kernel
theorem dX2_put_4 : decode cX2_put 4 = .ok (.iload_n 1, 1) := by decide +kernel
theorem dX2_put_5 : decode cX2_put 5 = .ok (.bipush 127, 2) := by decide +kernel
theorem dX2_put_7 : decode cX2_put 7 = .ok (.iand, 1) := by decide +kernel
theorem dX2_put_8 : decode cX2_put 8 = .ok (.lload 4, 2) := by decide +kernel
theorem dX2_put_10 : decode cX2_put 10 = .ok (.iload_n 3, 1) := by decide +kernel
theorem dX2_put_11 : decode cX2_put 11 = .ok (.i2l, 1) := by decide +kernel
theorem dX2_put_12 : decode cX2_put 12 = .ok (.bipush 48, 2) := by decide +kernel
theorem dX2_put_14 : decode cX2_put 14 = .ok (.lshl, 1) := by decide +kernel
theorem dX2_put_15 : decode cX2_put 15 = .ok (.lor, 1) := by decide +kernel
theorem dX2_put_16 : decode cX2_put 16 = .ok (.iload_n 2, 1) := by decide +kernel
theorem dX2_put_17 : decode cX2_put 17 = .ok (.i2l, 1) := by decide +kernel
theorem dX2_put_18 : decode cX2_put 18 = .ok (.lconst 1, 1) := by decide +kernel
theorem dX2_put_19 : decode cX2_put 19 = .ok (.ladd, 1) := by decide +kernel
theorem dX2_put_20 : decode cX2_put 20 = .ok (.bipush 53, 2) := by decide +kernel
theorem dX2_put_22 : decode cX2_put 22 = .ok (.lshl, 1) := by decide +kernel
theorem dX2_put_23 : decode cX2_put 23 = .ok (.lor, 1) := by decide +kernel
theorem dX2_put_24 : decode cX2_put 24 = .ok (.lastore, 1) := by decide +kernel
theorem dX2_put_25 : decode cX2_put 25 = .ok (.return_, 1) := by decide +kernel
theorem dX2_runner_0 : decode cX2_runner 0 = .ok (.aload_n 0, 1) := by decide +kernel
theorem dX2_runner_1 : decode cX2_runner 1 = .ok (.getfield 11, 3) := by decide +kernel
theorem dX2_runner_4 : decode cX2_runner 4 = .ok (.iload_n 1, 1) := by decide +kernel
theorem dX2_runner_5 : decode cX2_runner 5 = .ok (.bipush 127, 2) := by decide +kernel
theorem dX2_runner_7 : decode cX2_runner 7 = .ok (.iand, 1) := by decide +kernel
theorem dX2_runner_8 : decode cX2_runner 8 = .ok (.laload, 1) := by decide +kernel
theorem dX2_runner_9 : decode cX2_runner 9 = .ok (.bipush 53, 2) := by decide +kernel
theorem dX2_runner_11 : decode cX2_runner 11 = .ok (.lshr, 1) := by decide +kernel
theorem dX2_runner_12 : decode cX2_runner 12 = .ok (.l2i, 1) := by decide +kernel
theorem dX2_runner_13 : decode cX2_runner 13 = .ok (.iconst 1, 1) := by decide +kernel
theorem dX2_runner_14 : decode cX2_runner 14 = .ok (.isub, 1) := by decide +kernel
theorem dX2_runner_15 : decode cX2_runner 15 = .ok (.ireturn, 1) := by decide +kernel
theorem dX2_weightThen_0 : decode cX2_weightThen 0 = .ok (.aload_n 0, 1) := by decide +kernel
theorem dX2_weightThen_1 : decode cX2_weightThen 1 = .ok (.getfield 11, 3) := by decide +kernel
theorem dX2_weightThen_4 : decode cX2_weightThen 4 = .ok (.iload_n 1, 1) := by decide +kernel
theorem dX2_weightThen_5 : decode cX2_weightThen 5 = .ok (.bipush 127, 2) := by decide +kernel
theorem dX2_weightThen_7 : decode cX2_weightThen 7 = .ok (.iand, 1) := by decide +kernel
theorem dX2_weightThen_8 : decode cX2_weightThen 8 = .ok (.laload, 1) := by decide +kernel
theorem dX2_weightThen_9 : decode cX2_weightThen 9 = .ok (.iload_n 2, 1) := by decide +kernel
theorem dX2_weightThen_10 : decode cX2_weightThen 10 = .ok (.iconst 4, 1) := by decide +kernel
theorem dX2_weightThen_11 : decode cX2_weightThen 11 = .ok (.imul, 1) := by decide +kernel
theorem dX2_weightThen_12 : decode cX2_weightThen 12 = .ok (.lshr, 1) := by decide +kernel
theorem dX2_weightThen_13 : decode cX2_weightThen 13 = .ok (.l2i, 1) := by decide +kernel
theorem dX2_weightThen_14 : decode cX2_weightThen 14 = .ok (.bipush 15, 2) := by decide +kernel
theorem dX2_weightThen_16 : decode cX2_weightThen 16 = .ok (.iand, 1) := by decide +kernel
theorem dX2_weightThen_17 : decode cX2_weightThen 17 = .ok (.ireturn, 1) := by decide +kernel
theorem dX2_shareThen_0 : decode cX2_shareThen 0 = .ok (.aload_n 0, 1) := by decide +kernel
theorem dX2_shareThen_1 : decode cX2_shareThen 1 = .ok (.getfield 11, 3) := by decide +kernel
theorem dX2_shareThen_4 : decode cX2_shareThen 4 = .ok (.iload_n 1, 1) := by decide +kernel
theorem dX2_shareThen_5 : decode cX2_shareThen 5 = .ok (.bipush 127, 2) := by decide +kernel
theorem dX2_shareThen_7 : decode cX2_shareThen 7 = .ok (.iand, 1) := by decide +kernel
theorem dX2_shareThen_8 : decode cX2_shareThen 8 = .ok (.laload, 1) := by decide +kernel
theorem dX2_shareThen_9 : decode cX2_shareThen 9 = .ok (.bipush 48, 2) := by decide +kernel
theorem dX2_shareThen_11 : decode cX2_shareThen 11 = .ok (.lshr, 1) := by decide +kernel
theorem dX2_shareThen_12 : decode cX2_shareThen 12 = .ok (.l2i, 1) := by decide +kernel
theorem dX2_shareThen_13 : decode cX2_shareThen 13 = .ok (.bipush 31, 2) := by decide +kernel
theorem dX2_shareThen_15 : decode cX2_shareThen 15 = .ok (.iand, 1) := by decide +kernel
theorem dX2_shareThen_16 : decode cX2_shareThen 16 = .ok (.istore_n 3, 1) := by decide +kernel
theorem dX2_shareThen_17 : decode cX2_shareThen 17 = .ok (.aload_n 0, 1) := by decide +kernel
theorem dX2_shareThen_18 : decode cX2_shareThen 18 = .ok (.iload_n 1, 1) := by decide +kernel
theorem dX2_shareThen_19 : decode cX2_shareThen 19 = .ok (.iload_n 2, 1) := by decide +kernel
theorem dX2_shareThen_20 : decode cX2_shareThen 20 = .ok (.invokevirtual 21, 3) := by decide +kernel
theorem dX2_shareThen_23 : decode cX2_shareThen 23 = .ok (.i2l, 1) := by decide +kernel
theorem dX2_shareThen_24 : decode cX2_shareThen 24 = .ok (.iload_n 3, 1) := by decide +kernel
theorem dX2_shareThen_25 : decode cX2_shareThen 25 = .ok (.invokestatic 25, 3) := by decide +kernel
theorem dX2_shareThen_28 : decode cX2_shareThen 28 = .ok (.lmul, 1) := by decide +kernel
theorem dX2_shareThen_29 : decode cX2_shareThen 29 = .ok (.lreturn, 1) := by decide +kernel
theorem dX2_serviceIn_0 : decode cX2_serviceIn 0 = .ok (.iconst 0, 1) := by decide +kernel
theorem dX2_serviceIn_1 : decode cX2_serviceIn 1 = .ok (.istore 4, 2) := by decide +kernel
theorem dX2_serviceIn_3 : decode cX2_serviceIn 3 = .ok (.iload_n 2, 1) := by decide +kernel
theorem dX2_serviceIn_4 : decode cX2_serviceIn 4 = .ok (.istore 5, 2) := by decide +kernel
theorem dX2_serviceIn_6 : decode cX2_serviceIn 6 = .ok (.iload 5, 2) := by decide +kernel
theorem dX2_serviceIn_8 : decode cX2_serviceIn 8 = .ok (.iload_n 3, 1) := by decide +kernel
theorem dX2_serviceIn_9 : decode cX2_serviceIn 9 = .ok (.if_icmp .ge 22, 3) := by decide +kernel
theorem dX2_serviceIn_12 : decode cX2_serviceIn 12 = .ok (.aload_n 0, 1) := by decide +kernel
theorem dX2_serviceIn_13 : decode cX2_serviceIn 13 = .ok (.iload 5, 2) := by decide +kernel
theorem dX2_serviceIn_15 : decode cX2_serviceIn 15 = .ok (.invokevirtual 29, 3) := by decide +kernel
theorem dX2_serviceIn_18 : decode cX2_serviceIn 18 = .ok (.iload_n 1, 1) := by decide +kernel
theorem dX2_serviceIn_19 : decode cX2_serviceIn 19 = .ok (.if_icmp .ne 6, 3) := by decide +kernel
theorem dX2_serviceIn_22 : decode cX2_serviceIn 22 = .ok (.iinc 4 1, 3) := by decide +kernel
theorem dX2_serviceIn_25 : decode cX2_serviceIn 25 = .ok (.iinc 5 1, 3) := by decide +kernel
theorem dX2_serviceIn_28 : decode cX2_serviceIn 28 = .ok (.goto (-22), 3) := by decide +kernel
theorem dX2_serviceIn_31 : decode cX2_serviceIn 31 = .ok (.iload 4, 2) := by decide +kernel
theorem dX2_serviceIn_33 : decode cX2_serviceIn 33 = .ok (.ireturn, 1) := by decide +kernel
theorem dX2_shareIn_0 : decode cX2_shareIn 0 = .ok (.lconst 0, 1) := by decide +kernel
theorem dX2_shareIn_1 : decode cX2_shareIn 1 = .ok (.lstore 4, 2) := by decide +kernel
theorem dX2_shareIn_3 : decode cX2_shareIn 3 = .ok (.iload_n 2, 1) := by decide +kernel
theorem dX2_shareIn_4 : decode cX2_shareIn 4 = .ok (.istore 6, 2) := by decide +kernel
theorem dX2_shareIn_6 : decode cX2_shareIn 6 = .ok (.iload 6, 2) := by decide +kernel
theorem dX2_shareIn_8 : decode cX2_shareIn 8 = .ok (.iload_n 3, 1) := by decide +kernel
theorem dX2_shareIn_9 : decode cX2_shareIn 9 = .ok (.if_icmp .ge 21, 3) := by decide +kernel
theorem dX2_shareIn_12 : decode cX2_shareIn 12 = .ok (.lload 4, 2) := by decide +kernel
theorem dX2_shareIn_14 : decode cX2_shareIn 14 = .ok (.aload_n 0, 1) := by decide +kernel
theorem dX2_shareIn_15 : decode cX2_shareIn 15 = .ok (.iload 6, 2) := by decide +kernel
theorem dX2_shareIn_17 : decode cX2_shareIn 17 = .ok (.iload_n 1, 1) := by decide +kernel
theorem dX2_shareIn_18 : decode cX2_shareIn 18 = .ok (.invokevirtual 33, 3) := by decide +kernel
theorem dX2_shareIn_21 : decode cX2_shareIn 21 = .ok (.ladd, 1) := by decide +kernel
theorem dX2_shareIn_22 : decode cX2_shareIn 22 = .ok (.lstore 4, 2) := by decide +kernel
theorem dX2_shareIn_24 : decode cX2_shareIn 24 = .ok (.iinc 6 1, 3) := by decide +kernel
theorem dX2_shareIn_27 : decode cX2_shareIn 27 = .ok (.goto (-21), 3) := by decide +kernel
theorem dX2_shareIn_30 : decode cX2_shareIn 30 = .ok (.lload 4, 2) := by decide +kernel
theorem dX2_shareIn_32 : decode cX2_shareIn 32 = .ok (.lreturn, 1) := by decide +kernel
theorem dX2_edge_0 : decode cX2_edge 0 = .ok (.iconst 0, 1) := by decide +kernel
theorem dX2_edge_1 : decode cX2_edge 1 = .ok (.istore 5, 2) := by decide +kernel
theorem dX2_edge_3 : decode cX2_edge 3 = .ok (.iconst 0, 1) := by decide +kernel
theorem dX2_edge_4 : decode cX2_edge 4 = .ok (.istore 6, 2) := by decide +kernel
theorem dX2_edge_6 : decode cX2_edge 6 = .ok (.lconst 0, 1) := by decide +kernel
theorem dX2_edge_7 : decode cX2_edge 7 = .ok (.lstore 7, 2) := by decide +kernel
theorem dX2_edge_9 : decode cX2_edge 9 = .ok (.lconst 0, 1) := by decide +kernel
theorem dX2_edge_10 : decode cX2_edge 10 = .ok (.lstore 9, 2) := by decide +kernel
theorem dX2_edge_12 : decode cX2_edge 12 = .ok (.iload_n 2, 1) := by decide +kernel
theorem dX2_edge_13 : decode cX2_edge 13 = .ok (.istore 11, 2) := by decide +kernel
theorem dX2_edge_15 : decode cX2_edge 15 = .ok (.iload 11, 2) := by decide +kernel
theorem dX2_edge_17 : decode cX2_edge 17 = .ok (.iload_n 3, 1) := by decide +kernel
theorem dX2_edge_18 : decode cX2_edge 18 = .ok (.if_icmp .ge 113, 3) := by decide +kernel
theorem dX2_edge_21 : decode cX2_edge 21 = .ok (.aload_n 0, 1) := by decide +kernel
theorem dX2_edge_22 : decode cX2_edge 22 = .ok (.iload 11, 2) := by decide +kernel
theorem dX2_edge_24 : decode cX2_edge 24 = .ok (.iload_n 1, 1) := by decide +kernel
theorem dX2_edge_25 : decode cX2_edge 25 = .ok (.invokevirtual 21, 3) := by decide +kernel
theorem dX2_edge_28 : decode cX2_edge 28 = .ok (.ifCond .ne 9, 3) := by decide +kernel
theorem dX2_edge_31 : decode cX2_edge 31 = .ok (.iconst 0, 1) := by decide +kernel
theorem dX2_edge_32 : decode cX2_edge 32 = .ok (.istore 6, 2) := by decide +kernel
theorem dX2_edge_34 : decode cX2_edge 34 = .ok (.goto 91, 3) := by decide +kernel
theorem dX2_edge_37 : decode cX2_edge 37 = .ok (.aload_n 0, 1) := by decide +kernel
theorem dX2_edge_38 : decode cX2_edge 38 = .ok (.iload 11, 2) := by decide +kernel
theorem dX2_edge_40 : decode cX2_edge 40 = .ok (.invokevirtual 29, 3) := by decide +kernel
theorem dX2_edge_43 : decode cX2_edge 43 = .ok (.iload_n 1, 1) := by decide +kernel
theorem dX2_edge_44 : decode cX2_edge 44 = .ok (.if_icmp .ne 9, 3) := by decide +kernel
theorem dX2_edge_47 : decode cX2_edge 47 = .ok (.ldc2_w 37, 3) := by decide +kernel
theorem dX2_edge_50 : decode cX2_edge 50 = .ok (.goto 4, 3) := by decide +kernel
theorem dX2_edge_53 : decode cX2_edge 53 = .ok (.lconst 0, 1) := by decide +kernel
theorem dX2_edge_54 : decode cX2_edge 54 = .ok (.aload_n 0, 1) := by decide +kernel
theorem dX2_edge_55 : decode cX2_edge 55 = .ok (.iload 11, 2) := by decide +kernel
theorem dX2_edge_57 : decode cX2_edge 57 = .ok (.iload_n 1, 1) := by decide +kernel
theorem dX2_edge_58 : decode cX2_edge 58 = .ok (.invokevirtual 33, 3) := by decide +kernel
theorem dX2_edge_61 : decode cX2_edge 61 = .ok (.lsub, 1) := by decide +kernel
theorem dX2_edge_62 : decode cX2_edge 62 = .ok (.lstore 12, 2) := by decide +kernel
theorem dX2_edge_64 : decode cX2_edge 64 = .ok (.iload 4, 2) := by decide +kernel
theorem dX2_edge_66 : decode cX2_edge 66 = .ok (.ifCond .eq 8, 3) := by decide +kernel
theorem dX2_edge_69 : decode cX2_edge 69 = .ok (.lload 12, 2) := by decide +kernel
theorem dX2_edge_71 : decode cX2_edge 71 = .ok (.goto 6, 3) := by decide +kernel
theorem dX2_edge_74 : decode cX2_edge 74 = .ok (.lload 12, 2) := by decide +kernel
theorem dX2_edge_76 : decode cX2_edge 76 = .ok (.lneg, 1) := by decide +kernel
theorem dX2_edge_77 : decode cX2_edge 77 = .ok (.lstore 14, 2) := by decide +kernel
theorem dX2_edge_79 : decode cX2_edge 79 = .ok (.iload 6, 2) := by decide +kernel
theorem dX2_edge_81 : decode cX2_edge 81 = .ok (.ifCond .eq 15, 3) := by decide +kernel
theorem dX2_edge_84 : decode cX2_edge 84 = .ok (.lload 14, 2) := by decide +kernel
theorem dX2_edge_86 : decode cX2_edge 86 = .ok (.lconst 0, 1) := by decide +kernel
theorem dX2_edge_87 : decode cX2_edge 87 = .ok (.lload 9, 2) := by decide +kernel
theorem dX2_edge_89 : decode cX2_edge 89 = .ok (.invokestatic 39, 3) := by decide +kernel
theorem dX2_edge_92 : decode cX2_edge 92 = .ok (.ladd, 1) := by decide +kernel
theorem dX2_edge_93 : decode cX2_edge 93 = .ok (.goto 5, 3) := by decide +kernel
theorem dX2_edge_96 : decode cX2_edge 96 = .ok (.lload 14, 2) := by decide +kernel
theorem dX2_edge_98 : decode cX2_edge 98 = .ok (.lstore 9, 2) := by decide +kernel
theorem dX2_edge_100 : decode cX2_edge 100 = .ok (.iconst 1, 1) := by decide +kernel
theorem dX2_edge_101 : decode cX2_edge 101 = .ok (.istore 6, 2) := by decide +kernel
theorem dX2_edge_103 : decode cX2_edge 103 = .ok (.iload 5, 2) := by decide +kernel
theorem dX2_edge_105 : decode cX2_edge 105 = .ok (.ifCond .eq 13, 3) := by decide +kernel
theorem dX2_edge_108 : decode cX2_edge 108 = .ok (.lload 7, 2) := by decide +kernel
theorem dX2_edge_110 : decode cX2_edge 110 = .ok (.lload 9, 2) := by decide +kernel
theorem dX2_edge_112 : decode cX2_edge 112 = .ok (.invokestatic 39, 3) := by decide +kernel
theorem dX2_edge_115 : decode cX2_edge 115 = .ok (.goto 5, 3) := by decide +kernel
theorem dX2_edge_118 : decode cX2_edge 118 = .ok (.lload 9, 2) := by decide +kernel
theorem dX2_edge_120 : decode cX2_edge 120 = .ok (.lstore 7, 2) := by decide +kernel
theorem dX2_edge_122 : decode cX2_edge 122 = .ok (.iconst 1, 1) := by decide +kernel
theorem dX2_edge_123 : decode cX2_edge 123 = .ok (.istore 5, 2) := by decide +kernel
theorem dX2_edge_125 : decode cX2_edge 125 = .ok (.iinc 11 1, 3) := by decide +kernel
theorem dX2_edge_128 : decode cX2_edge 128 = .ok (.goto (-113), 3) := by decide +kernel
theorem dX2_edge_131 : decode cX2_edge 131 = .ok (.iload 5, 2) := by decide +kernel
theorem dX2_edge_133 : decode cX2_edge 133 = .ok (.ifCond .ne 7, 3) := by decide +kernel
theorem dX2_edge_136 : decode cX2_edge 136 = .ok (.ldc2_w 45, 3) := by decide +kernel
theorem dX2_edge_139 : decode cX2_edge 139 = .ok (.lreturn, 1) := by decide +kernel
theorem dX2_edge_140 : decode cX2_edge 140 = .ok (.iload 4, 2) := by decide +kernel
theorem dX2_edge_142 : decode cX2_edge 142 = .ok (.ifCond .eq 8, 3) := by decide +kernel
theorem dX2_edge_145 : decode cX2_edge 145 = .ok (.lload 7, 2) := by decide +kernel
theorem dX2_edge_147 : decode cX2_edge 147 = .ok (.goto 6, 3) := by decide +kernel
theorem dX2_edge_150 : decode cX2_edge 150 = .ok (.lload 7, 2) := by decide +kernel
theorem dX2_edge_152 : decode cX2_edge 152 = .ok (.lneg, 1) := by decide +kernel
theorem dX2_edge_153 : decode cX2_edge 153 = .ok (.lreturn, 1) := by decide +kernel
theorem dX3_init_0 : decode cX3_init 0 = .ok (.aload_n 0, 1) := by decide +kernel
theorem dX3_init_1 : decode cX3_init 1 = .ok (.invokespecial 3, 3) := by decide +kernel
theorem dX3_init_4 : decode cX3_init 4 = .ok (.aload_n 0, 1) := by decide +kernel
theorem dX3_init_5 : decode cX3_init 5 = .ok (.new 9, 3) := by decide +kernel
theorem dX3_init_8 : decode cX3_init 8 = .ok (.dup, 1) := by decide +kernel
theorem dX3_init_9 : decode cX3_init 9 = .ok (.invokespecial 11, 3) := by decide +kernel
theorem dX3_init_12 : decode cX3_init 12 = .ok (.putfield 12, 3) := by decide +kernel
theorem dX3_init_15 : decode cX3_init 15 = .ok (.return_, 1) := by decide +kernel
theorem dX3_read_0 : decode cX3_read 0 = .ok (.aload_n 0, 1) := by decide +kernel
theorem dX3_read_1 : decode cX3_read 1 = .ok (.getfield 12, 3) := by decide +kernel
theorem dX3_read_4 : decode cX3_read 4 = .ok (.invokevirtual 18, 3) := by decide +kernel
theorem dX3_read_7 : decode cX3_read 7 = .ok (.aload_n 0, 1) := by decide +kernel
theorem dX3_read_8 : decode cX3_read 8 = .ok (.iconst 0, 1) := by decide +kernel
theorem dX3_read_9 : decode cX3_read 9 = .ok (.putfield 21, 3) := by decide +kernel
theorem dX3_read_12 : decode cX3_read 12 = .ok (.iconst 0, 1) := by decide +kernel
theorem dX3_read_13 : decode cX3_read 13 = .ok (.istore_n 2, 1) := by decide +kernel
theorem dX3_read_14 : decode cX3_read 14 = .ok (.iload_n 2, 1) := by decide +kernel
theorem dX3_read_15 : decode cX3_read 15 = .ok (.bipush 8, 2) := by decide +kernel
theorem dX3_read_17 : decode cX3_read 17 = .ok (.if_icmp .gt 79, 3) := by decide +kernel
theorem dX3_read_20 : decode cX3_read 20 = .ok (.aload_n 0, 1) := by decide +kernel
theorem dX3_read_21 : decode cX3_read 21 = .ok (.aload_n 1, 1) := by decide +kernel
theorem dX3_read_22 : decode cX3_read 22 = .ok (.iload_n 2, 1) := by decide +kernel
theorem dX3_read_23 : decode cX3_read 23 = .ok (.bipush 8, 2) := by decide +kernel
theorem dX3_read_25 : decode cX3_read 25 = .ok (.if_icmp .ne 7, 3) := by decide +kernel
theorem dX3_read_28 : decode cX3_read 28 = .ok (.iconst 1, 1) := by decide +kernel
theorem dX3_read_29 : decode cX3_read 29 = .ok (.goto 4, 3) := by decide +kernel
theorem dX3_read_32 : decode cX3_read 32 = .ok (.iconst 0, 1) := by decide +kernel
theorem dX3_read_33 : decode cX3_read 33 = .ok (.invokevirtual 25, 3) := by decide +kernel
theorem dX3_read_36 : decode cX3_read 36 = .ok (.ifCond .ne 8, 3) := by decide +kernel
theorem dX3_read_39 : decode cX3_read 39 = .ok (.aload_n 0, 1) := by decide +kernel
theorem dX3_read_40 : decode cX3_read 40 = .ok (.getfield 21, 3) := by decide +kernel
theorem dX3_read_43 : decode cX3_read 43 = .ok (.ireturn, 1) := by decide +kernel
theorem dX3_read_44 : decode cX3_read 44 = .ok (.aload_n 0, 1) := by decide +kernel
theorem dX3_read_45 : decode cX3_read 45 = .ok (.aload_n 1, 1) := by decide +kernel
theorem dX3_read_46 : decode cX3_read 46 = .ok (.invokevirtual 29, 3) := by decide +kernel
theorem dX3_read_49 : decode cX3_read 49 = .ok (.aload_n 0, 1) := by decide +kernel
theorem dX3_read_50 : decode cX3_read 50 = .ok (.getfield 21, 3) := by decide +kernel
theorem dX3_read_53 : decode cX3_read 53 = .ok (.aload_n 1, 1) := by decide +kernel
theorem dX3_read_54 : decode cX3_read 54 = .ok (.getfield 33, 3) := by decide +kernel
theorem dX3_read_57 : decode cX3_read 57 = .ok (.if_icmp .lt 5, 3) := by decide +kernel
theorem dX3_read_60 : decode cX3_read 60 = .ok (.iconst (-1), 1) := by decide +kernel
theorem dX3_read_61 : decode cX3_read 61 = .ok (.ireturn, 1) := by decide +kernel
theorem dX3_read_62 : decode cX3_read 62 = .ok (.aload_n 1, 1) := by decide +kernel
theorem dX3_read_63 : decode cX3_read 63 = .ok (.aload_n 0, 1) := by decide +kernel
theorem dX3_read_64 : decode cX3_read 64 = .ok (.getfield 21, 3) := by decide +kernel
theorem dX3_read_67 : decode cX3_read 67 = .ok (.invokevirtual 38, 3) := by decide +kernel
theorem dX3_read_70 : decode cX3_read 70 = .ok (.bipush 44, 2) := by decide +kernel
theorem dX3_read_72 : decode cX3_read 72 = .ok (.if_icmp .eq 8, 3) := by decide +kernel
theorem dX3_read_75 : decode cX3_read 75 = .ok (.aload_n 0, 1) := by decide +kernel
theorem dX3_read_76 : decode cX3_read 76 = .ok (.getfield 21, 3) := by decide +kernel
theorem dX3_read_79 : decode cX3_read 79 = .ok (.ireturn, 1) := by decide +kernel
theorem dX3_read_80 : decode cX3_read 80 = .ok (.aload_n 0, 1) := by decide +kernel
theorem dX3_read_81 : decode cX3_read 81 = .ok (.dup, 1) := by decide +kernel
theorem dX3_read_82 : decode cX3_read 82 = .ok (.getfield 21, 3) := by decide +kernel
theorem dX3_read_85 : decode cX3_read 85 = .ok (.iconst 1, 1) := by decide +kernel
theorem dX3_read_86 : decode cX3_read 86 = .ok (.iadd, 1) := by decide +kernel
theorem dX3_read_87 : decode cX3_read 87 = .ok (.putfield 21, 3) := by decide +kernel
theorem dX3_read_90 : decode cX3_read 90 = .ok (.iinc 2 1, 3) := by decide +kernel
theorem dX3_read_93 : decode cX3_read 93 = .ok (.goto (-79), 3) := by decide +kernel
theorem dX3_read_96 : decode cX3_read 96 = .ok (.aload_n 0, 1) := by decide +kernel
theorem dX3_read_97 : decode cX3_read 97 = .ok (.getfield 21, 3) := by decide +kernel
theorem dX3_read_100 : decode cX3_read 100 = .ok (.ireturn, 1) := by decide +kernel
theorem dX3_readStep_0 : decode cX3_readStep 0 = .ok (.aload_n 0, 1) := by decide +kernel
theorem dX3_readStep_1 : decode cX3_readStep 1 = .ok (.aload_n 1, 1) := by decide +kernel
theorem dX3_readStep_2 : decode cX3_readStep 2 = .ok (.invokevirtual 29, 3) := by decide +kernel
theorem dX3_readStep_5 : decode cX3_readStep 5 = .ok (.aload_n 0, 1) := by decide +kernel
theorem dX3_readStep_6 : decode cX3_readStep 6 = .ok (.aload_n 1, 1) := by decide +kernel
theorem dX3_readStep_7 : decode cX3_readStep 7 = .ok (.bipush 97, 2) := by decide +kernel
theorem dX3_readStep_9 : decode cX3_readStep 9 = .ok (.bipush 122, 2) := by decide +kernel
theorem dX3_readStep_11 : decode cX3_readStep 11 = .ok (.invokevirtual 42, 3) := by decide +kernel
theorem dX3_readStep_14 : decode cX3_readStep 14 = .ok (.istore_n 3, 1) := by decide +kernel
theorem dX3_readStep_15 : decode cX3_readStep 15 = .ok (.iload_n 2, 1) := by decide +kernel
theorem dX3_readStep_16 : decode cX3_readStep 16 = .ok (.ifCond .eq 7, 3) := by decide +kernel
theorem dX3_readStep_19 : decode cX3_readStep 19 = .ok (.iconst (-1), 1) := by decide +kernel
theorem dX3_readStep_20 : decode cX3_readStep 20 = .ok (.goto 9, 3) := by decide +kernel
theorem dX3_readStep_23 : decode cX3_readStep 23 = .ok (.aload_n 0, 1) := by decide +kernel
theorem dX3_readStep_24 : decode cX3_readStep 24 = .ok (.aload_n 1, 1) := by decide +kernel
theorem dX3_readStep_25 : decode cX3_readStep 25 = .ok (.iload_n 3, 1) := by decide +kernel
theorem dX3_readStep_26 : decode cX3_readStep 26 = .ok (.invokevirtual 46, 3) := by decide +kernel
theorem dX3_readStep_29 : decode cX3_readStep 29 = .ok (.istore 4, 2) := by decide +kernel
theorem dX3_readStep_31 : decode cX3_readStep 31 = .ok (.iload 4, 2) := by decide +kernel
theorem dX3_readStep_33 : decode cX3_readStep 33 = .ok (.iconst (-1), 1) := by decide +kernel
theorem dX3_readStep_34 : decode cX3_readStep 34 = .ok (.if_icmp .ne 5, 3) := by decide +kernel
theorem dX3_readStep_37 : decode cX3_readStep 37 = .ok (.iconst 0, 1) := by decide +kernel
theorem dX3_readStep_38 : decode cX3_readStep 38 = .ok (.ireturn, 1) := by decide +kernel
theorem dX3_readStep_39 : decode cX3_readStep 39 = .ok (.aload_n 0, 1) := by decide +kernel
theorem dX3_readStep_40 : decode cX3_readStep 40 = .ok (.iload_n 3, 1) := by decide +kernel
theorem dX3_readStep_41 : decode cX3_readStep 41 = .ok (.putfield 21, 3) := by decide +kernel
theorem dX3_readStep_44 : decode cX3_readStep 44 = .ok (.aload_n 0, 1) := by decide +kernel
theorem dX3_readStep_45 : decode cX3_readStep 45 = .ok (.aload_n 1, 1) := by decide +kernel
theorem dX3_readStep_46 : decode cX3_readStep 46 = .ok (.invokevirtual 29, 3) := by decide +kernel
theorem dX3_readStep_49 : decode cX3_readStep 49 = .ok (.aload_n 0, 1) := by decide +kernel
theorem dX3_readStep_50 : decode cX3_readStep 50 = .ok (.aload_n 1, 1) := by decide +kernel
theorem dX3_readStep_51 : decode cX3_readStep 51 = .ok (.bipush 48, 2) := by decide +kernel
theorem dX3_readStep_53 : decode cX3_readStep 53 = .ok (.bipush 57, 2) := by decide +kernel
theorem dX3_readStep_55 : decode cX3_readStep 55 = .ok (.invokevirtual 42, 3) := by decide +kernel
theorem dX3_readStep_58 : decode cX3_readStep 58 = .ok (.istore 5, 2) := by decide +kernel
theorem dX3_readStep_60 : decode cX3_readStep 60 = .ok (.aload_n 0, 1) := by decide +kernel
theorem dX3_readStep_61 : decode cX3_readStep 61 = .ok (.aload_n 1, 1) := by decide +kernel
theorem dX3_readStep_62 : decode cX3_readStep 62 = .ok (.iload 5, 2) := by decide +kernel
theorem dX3_readStep_64 : decode cX3_readStep 64 = .ok (.invokevirtual 50, 3) := by decide +kernel
theorem dX3_readStep_67 : decode cX3_readStep 67 = .ok (.istore 6, 2) := by decide +kernel
theorem dX3_readStep_69 : decode cX3_readStep 69 = .ok (.iload 6, 2) := by decide +kernel
theorem dX3_readStep_71 : decode cX3_readStep 71 = .ok (.iconst 1, 1) := by decide +kernel
theorem dX3_readStep_72 : decode cX3_readStep 72 = .ok (.if_icmp .lt 13, 3) := by decide +kernel
theorem dX3_readStep_75 : decode cX3_readStep 75 = .ok (.iload 6, 2) := by decide +kernel
theorem dX3_readStep_77 : decode cX3_readStep 77 = .ok (.iload 4, 2) := by decide +kernel
theorem dX3_readStep_79 : decode cX3_readStep 79 = .ok (.invokestatic 53, 3) := by decide +kernel
theorem dX3_readStep_82 : decode cX3_readStep 82 = .ok (.if_icmp .le 5, 3) := by decide +kernel
theorem dX3_readStep_85 : decode cX3_readStep 85 = .ok (.iconst 0, 1) := by decide +kernel
theorem dX3_readStep_86 : decode cX3_readStep 86 = .ok (.ireturn, 1) := by decide +kernel
theorem dX3_readStep_87 : decode cX3_readStep 87 = .ok (.aload_n 0, 1) := by decide +kernel
theorem dX3_readStep_88 : decode cX3_readStep 88 = .ok (.getfield 12, 3) := by decide +kernel
theorem dX3_readStep_91 : decode cX3_readStep 91 = .ok (.iload 4, 2) := by decide +kernel
theorem dX3_readStep_93 : decode cX3_readStep 93 = .ok (.iload 6, 2) := by decide +kernel
theorem dX3_readStep_95 : decode cX3_readStep 95 = .ok (.invokevirtual 56, 3) := by decide +kernel
theorem dX3_readStep_98 : decode cX3_readStep 98 = .ok (.aload_n 0, 1) := by decide +kernel
theorem dX3_readStep_99 : decode cX3_readStep 99 = .ok (.iload 5, 2) := by decide +kernel
theorem dX3_readStep_101 : decode cX3_readStep 101 = .ok (.putfield 21, 3) := by decide +kernel
theorem dX3_readStep_104 : decode cX3_readStep 104 = .ok (.iconst 1, 1) := by decide +kernel
theorem dX3_readStep_105 : decode cX3_readStep 105 = .ok (.ireturn, 1) := by decide +kernel
theorem dX3_skipBlanks_0 : decode cX3_skipBlanks 0 = .ok (.aload_n 0, 1) := by decide +kernel
theorem dX3_skipBlanks_1 : decode cX3_skipBlanks 1 = .ok (.getfield 21, 3) := by decide +kernel
theorem dX3_skipBlanks_4 : decode cX3_skipBlanks 4 = .ok (.aload_n 1, 1) := by decide +kernel
theorem dX3_skipBlanks_5 : decode cX3_skipBlanks 5 = .ok (.getfield 33, 3) := by decide +kernel
theorem dX3_skipBlanks_8 : decode cX3_skipBlanks 8 = .ok (.if_icmp .ge 29, 3) := by decide +kernel
theorem dX3_skipBlanks_11 : decode cX3_skipBlanks 11 = .ok (.aload_n 1, 1) := by decide +kernel
theorem dX3_skipBlanks_12 : decode cX3_skipBlanks 12 = .ok (.aload_n 0, 1) := by decide +kernel
theorem dX3_skipBlanks_13 : decode cX3_skipBlanks 13 = .ok (.getfield 21, 3) := by decide +kernel
theorem dX3_skipBlanks_16 : decode cX3_skipBlanks 16 = .ok (.invokevirtual 38, 3) := by decide +kernel
theorem dX3_skipBlanks_19 : decode cX3_skipBlanks 19 = .ok (.bipush 32, 2) := by decide +kernel
theorem dX3_skipBlanks_21 : decode cX3_skipBlanks 21 = .ok (.if_icmp .ne 16, 3) := by decide +kernel
theorem dX3_skipBlanks_24 : decode cX3_skipBlanks 24 = .ok (.aload_n 0, 1) := by decide +kernel
theorem dX3_skipBlanks_25 : decode cX3_skipBlanks 25 = .ok (.dup, 1) := by decide +kernel
theorem dX3_skipBlanks_26 : decode cX3_skipBlanks 26 = .ok (.getfield 21, 3) := by decide +kernel
theorem dX3_skipBlanks_29 : decode cX3_skipBlanks 29 = .ok (.iconst 1, 1) := by decide +kernel
theorem dX3_skipBlanks_30 : decode cX3_skipBlanks 30 = .ok (.iadd, 1) := by decide +kernel
theorem dX3_skipBlanks_31 : decode cX3_skipBlanks 31 = .ok (.putfield 21, 3) := by decide +kernel
theorem dX3_skipBlanks_34 : decode cX3_skipBlanks 34 = .ok (.goto (-34), 3) := by decide +kernel
theorem dX3_skipBlanks_37 : decode cX3_skipBlanks 37 = .ok (.return_, 1) := by decide +kernel
theorem dX3_endOfRow_0 : decode cX3_endOfRow 0 = .ok (.aload_n 0, 1) := by decide +kernel
theorem dX3_endOfRow_1 : decode cX3_endOfRow 1 = .ok (.getfield 21, 3) := by decide +kernel
theorem dX3_endOfRow_4 : decode cX3_endOfRow 4 = .ok (.istore 4, 2) := by decide +kernel
theorem dX3_endOfRow_6 : decode cX3_endOfRow 6 = .ok (.iload 4, 2) := by decide +kernel
theorem dX3_endOfRow_8 : decode cX3_endOfRow 8 = .ok (.aload_n 1, 1) := by decide +kernel
theorem dX3_endOfRow_9 : decode cX3_endOfRow 9 = .ok (.getfield 33, 3) := by decide +kernel
theorem dX3_endOfRow_12 : decode cX3_endOfRow 12 = .ok (.if_icmp .ge 29, 3) := by decide +kernel
theorem dX3_endOfRow_15 : decode cX3_endOfRow 15 = .ok (.aload_n 1, 1) := by decide +kernel
theorem dX3_endOfRow_16 : decode cX3_endOfRow 16 = .ok (.iload 4, 2) := by decide +kernel
theorem dX3_endOfRow_18 : decode cX3_endOfRow 18 = .ok (.invokevirtual 38, 3) := by decide +kernel
theorem dX3_endOfRow_21 : decode cX3_endOfRow 21 = .ok (.iload_n 2, 1) := by decide +kernel
theorem dX3_endOfRow_22 : decode cX3_endOfRow 22 = .ok (.if_icmp .lt 19, 3) := by decide +kernel
theorem dX3_endOfRow_25 : decode cX3_endOfRow 25 = .ok (.aload_n 1, 1) := by decide +kernel
theorem dX3_endOfRow_26 : decode cX3_endOfRow 26 = .ok (.iload 4, 2) := by decide +kernel
theorem dX3_endOfRow_28 : decode cX3_endOfRow 28 = .ok (.invokevirtual 38, 3) := by decide +kernel
theorem dX3_endOfRow_31 : decode cX3_endOfRow 31 = .ok (.iload_n 3, 1) := by decide +kernel
theorem dX3_endOfRow_32 : decode cX3_endOfRow 32 = .ok (.if_icmp .gt 9, 3) := by decide +kernel
theorem dX3_endOfRow_35 : decode cX3_endOfRow 35 = .ok (.iinc 4 1, 3) := by decide +kernel
theorem dX3_endOfRow_38 : decode cX3_endOfRow 38 = .ok (.goto (-32), 3) := by decide +kernel
theorem dX3_endOfRow_41 : decode cX3_endOfRow 41 = .ok (.iload 4, 2) := by decide +kernel
theorem dX3_endOfRow_43 : decode cX3_endOfRow 43 = .ok (.ireturn, 1) := by decide +kernel
theorem dX3_kindOfWord_0 : decode cX3_kindOfWord 0 = .ok (.iconst 0, 1) := by decide +kernel
theorem dX3_kindOfWord_1 : decode cX3_kindOfWord 1 = .ok (.istore_n 3, 1) := by decide +kernel
theorem dX3_kindOfWord_2 : decode cX3_kindOfWord 2 = .ok (.iload_n 3, 1) := by decide +kernel
theorem dX3_kindOfWord_3 : decode cX3_kindOfWord 3 = .ok (.iconst 5, 1) := by decide +kernel
theorem dX3_kindOfWord_4 : decode cX3_kindOfWord 4 = .ok (.if_icmp .ge 24, 3) := by decide +kernel
theorem dX3_kindOfWord_7 : decode cX3_kindOfWord 7 = .ok (.aload_n 0, 1) := by decide +kernel
theorem dX3_kindOfWord_8 : decode cX3_kindOfWord 8 = .ok (.aload_n 1, 1) := by decide +kernel
theorem dX3_kindOfWord_9 : decode cX3_kindOfWord 9 = .ok (.iload_n 2, 1) := by decide +kernel
theorem dX3_kindOfWord_10 : decode cX3_kindOfWord 10 = .ok (.iload_n 3, 1) := by decide +kernel
theorem dX3_kindOfWord_11 : decode cX3_kindOfWord 11 = .ok (.invokestatic 60, 3) := by decide +kernel
theorem dX3_kindOfWord_14 : decode cX3_kindOfWord 14 = .ok (.invokevirtual 64, 3) := by decide +kernel
theorem dX3_kindOfWord_17 : decode cX3_kindOfWord 17 = .ok (.ifCond .eq 5, 3) := by decide +kernel
theorem dX3_kindOfWord_20 : decode cX3_kindOfWord 20 = .ok (.iload_n 3, 1) := by decide +kernel
theorem dX3_kindOfWord_21 : decode cX3_kindOfWord 21 = .ok (.ireturn, 1) := by decide +kernel
theorem dX3_kindOfWord_22 : decode cX3_kindOfWord 22 = .ok (.iinc 3 1, 3) := by decide +kernel
theorem dX3_kindOfWord_25 : decode cX3_kindOfWord 25 = .ok (.goto (-23), 3) := by decide +kernel
theorem dX3_kindOfWord_28 : decode cX3_kindOfWord 28 = .ok (.iconst (-1), 1) := by decide +kernel
theorem dX3_kindOfWord_29 : decode cX3_kindOfWord 29 = .ok (.ireturn, 1) := by decide +kernel
theorem dX3_isWord_0 : decode cX3_isWord 0 = .ok (.iload_n 2, 1) := by decide +kernel
theorem dX3_isWord_1 : decode cX3_isWord 1 = .ok (.aload_n 0, 1) := by decide +kernel
theorem dX3_isWord_2 : decode cX3_isWord 2 = .ok (.getfield 21, 3) := by decide +kernel
theorem dX3_isWord_5 : decode cX3_isWord 5 = .ok (.isub, 1) := by decide +kernel
theorem dX3_isWord_6 : decode cX3_isWord 6 = .ok (.aload_n 3, 1) := by decide +kernel
theorem dX3_isWord_7 : decode cX3_isWord 7 = .ok (.invokevirtual 68, 3) := by decide +kernel
theorem dX3_isWord_10 : decode cX3_isWord 10 = .ok (.if_icmp .eq 5, 3) := by decide +kernel
theorem dX3_isWord_13 : decode cX3_isWord 13 = .ok (.iconst 0, 1) := by decide +kernel
theorem dX3_isWord_14 : decode cX3_isWord 14 = .ok (.ireturn, 1) := by decide +kernel
theorem dX3_isWord_15 : decode cX3_isWord 15 = .ok (.iconst 0, 1) := by decide +kernel
theorem dX3_isWord_16 : decode cX3_isWord 16 = .ok (.istore 4, 2) := by decide +kernel
theorem dX3_isWord_18 : decode cX3_isWord 18 = .ok (.iload 4, 2) := by decide +kernel
theorem dX3_isWord_20 : decode cX3_isWord 20 = .ok (.aload_n 3, 1) := by decide +kernel
theorem dX3_isWord_21 : decode cX3_isWord 21 = .ok (.invokevirtual 68, 3) := by decide +kernel
theorem dX3_isWord_24 : decode cX3_isWord 24 = .ok (.if_icmp .ge 31, 3) := by decide +kernel
theorem dX3_isWord_27 : decode cX3_isWord 27 = .ok (.aload_n 1, 1) := by decide +kernel
theorem dX3_isWord_28 : decode cX3_isWord 28 = .ok (.aload_n 0, 1) := by decide +kernel
theorem dX3_isWord_29 : decode cX3_isWord 29 = .ok (.getfield 21, 3) := by decide +kernel
theorem dX3_isWord_32 : decode cX3_isWord 32 = .ok (.iload 4, 2) := by decide +kernel
theorem dX3_isWord_34 : decode cX3_isWord 34 = .ok (.iadd, 1) := by decide +kernel
theorem dX3_isWord_35 : decode cX3_isWord 35 = .ok (.invokevirtual 38, 3) := by decide +kernel
theorem dX3_isWord_38 : decode cX3_isWord 38 = .ok (.aload_n 3, 1) := by decide +kernel
theorem dX3_isWord_39 : decode cX3_isWord 39 = .ok (.iload 4, 2) := by decide +kernel
theorem dX3_isWord_41 : decode cX3_isWord 41 = .ok (.invokevirtual 73, 3) := by decide +kernel
theorem dX3_isWord_44 : decode cX3_isWord 44 = .ok (.if_icmp .eq 5, 3) := by decide +kernel
theorem dX3_isWord_47 : decode cX3_isWord 47 = .ok (.iconst 0, 1) := by decide +kernel
theorem dX3_isWord_48 : decode cX3_isWord 48 = .ok (.ireturn, 1) := by decide +kernel
theorem dX3_isWord_49 : decode cX3_isWord 49 = .ok (.iinc 4 1, 3) := by decide +kernel
theorem dX3_isWord_52 : decode cX3_isWord 52 = .ok (.goto (-34), 3) := by decide +kernel
theorem dX3_isWord_55 : decode cX3_isWord 55 = .ok (.iconst 1, 1) := by decide +kernel
theorem dX3_isWord_56 : decode cX3_isWord 56 = .ok (.ireturn, 1) := by decide +kernel
theorem dX3_numberTo_0 : decode cX3_numberTo 0 = .ok (.iconst 0, 1) := by decide +kernel
theorem dX3_numberTo_1 : decode cX3_numberTo 1 = .ok (.istore_n 3, 1) := by decide +kernel
theorem dX3_numberTo_2 : decode cX3_numberTo 2 = .ok (.aload_n 0, 1) := by decide +kernel
theorem dX3_numberTo_3 : decode cX3_numberTo 3 = .ok (.getfield 21, 3) := by decide +kernel
theorem dX3_numberTo_6 : decode cX3_numberTo 6 = .ok (.istore 4, 2) := by decide +kernel
theorem dX3_numberTo_8 : decode cX3_numberTo 8 = .ok (.iload 4, 2) := by decide +kernel
theorem dX3_numberTo_10 : decode cX3_numberTo 10 = .ok (.iload_n 2, 1) := by decide +kernel
theorem dX3_numberTo_11 : decode cX3_numberTo 11 = .ok (.if_icmp .ge 30, 3) := by decide +kernel
theorem dX3_numberTo_14 : decode cX3_numberTo 14 = .ok (.sipush 1000, 3) := by decide +kernel
theorem dX3_numberTo_17 : decode cX3_numberTo 17 = .ok (.iload_n 3, 1) := by decide +kernel
theorem dX3_numberTo_18 : decode cX3_numberTo 18 = .ok (.bipush 10, 2) := by decide +kernel
theorem dX3_numberTo_20 : decode cX3_numberTo 20 = .ok (.imul, 1) := by decide +kernel
theorem dX3_numberTo_21 : decode cX3_numberTo 21 = .ok (.aload_n 1, 1) := by decide +kernel
theorem dX3_numberTo_22 : decode cX3_numberTo 22 = .ok (.iload 4, 2) := by decide +kernel
theorem dX3_numberTo_24 : decode cX3_numberTo 24 = .ok (.invokevirtual 38, 3) := by decide +kernel
theorem dX3_numberTo_27 : decode cX3_numberTo 27 = .ok (.iadd, 1) := by decide +kernel
theorem dX3_numberTo_28 : decode cX3_numberTo 28 = .ok (.bipush 48, 2) := by decide +kernel
theorem dX3_numberTo_30 : decode cX3_numberTo 30 = .ok (.isub, 1) := by decide +kernel
theorem dX3_numberTo_31 : decode cX3_numberTo 31 = .ok (.invokestatic 77, 3) := by decide +kernel
theorem dX3_numberTo_34 : decode cX3_numberTo 34 = .ok (.istore_n 3, 1) := by decide +kernel
theorem dX3_numberTo_35 : decode cX3_numberTo 35 = .ok (.iinc 4 1, 3) := by decide +kernel
theorem dX3_numberTo_38 : decode cX3_numberTo 38 = .ok (.goto (-30), 3) := by decide +kernel
theorem dX3_numberTo_41 : decode cX3_numberTo 41 = .ok (.iload_n 3, 1) := by decide +kernel
theorem dX3_numberTo_42 : decode cX3_numberTo 42 = .ok (.ireturn, 1) := by decide +kernel
theorem dX4_init_0 : decode cX4_init 0 = .ok (.aload_n 0, 1) := by decide +kernel
theorem dX4_init_1 : decode cX4_init 1 = .ok (.invokespecial 3, 3) := by decide +kernel
theorem dX4_init_4 : decode cX4_init 4 = .ok (.aload_n 0, 1) := by decide +kernel
theorem dX4_init_5 : decode cX4_init 5 = .ok (.iconst 5, 1) := by decide +kernel
theorem dX4_init_6 : decode cX4_init 6 = .ok (.newarray .int, 2) := by decide +kernel
theorem dX4_init_8 : decode cX4_init 8 = .ok (.putfield 9, 3) := by decide +kernel
theorem dX4_init_11 : decode cX4_init 11 = .ok (.return_, 1) := by decide +kernel
theorem dX4_add_0 : decode cX4_add 0 = .ok (.aload_n 0, 1) := by decide +kernel
theorem dX4_add_1 : decode cX4_add 1 = .ok (.iload_n 1, 1) := by decide +kernel
theorem dX4_add_2 : decode cX4_add 2 = .ok (.putfield 15, 3) := by decide +kernel
theorem dX4_add_5 : decode cX4_add 5 = .ok (.aload_n 0, 1) := by decide +kernel
theorem dX4_add_6 : decode cX4_add 6 = .ok (.getfield 9, 3) := by decide +kernel
theorem dX4_add_9 : decode cX4_add 9 = .ok (.iload_n 1, 1) := by decide +kernel
theorem dX4_add_10 : decode cX4_add 10 = .ok (.invokestatic 19, 3) := by decide +kernel
theorem dX4_add_13 : decode cX4_add 13 = .ok (.dup2, 1) := by decide +kernel
theorem dX4_add_14 : decode cX4_add 14 = .ok (.iaload, 1) := by decide +kernel
theorem dX4_add_15 : decode cX4_add 15 = .ok (.iconst 1, 1) := by decide +kernel
theorem dX4_add_16 : decode cX4_add 16 = .ok (.iadd, 1) := by decide +kernel
theorem dX4_add_17 : decode cX4_add 17 = .ok (.iastore, 1) := by decide +kernel
theorem dX4_add_18 : decode cX4_add 18 = .ok (.iload_n 1, 1) := by decide +kernel
theorem dX4_add_19 : decode cX4_add 19 = .ok (.ireturn, 1) := by decide +kernel
theorem dX4_none_0 : decode cX4_none 0 = .ok (.aload_n 0, 1) := by decide +kernel
theorem dX4_none_1 : decode cX4_none 1 = .ok (.iconst 0, 1) := by decide +kernel
theorem dX4_none_2 : decode cX4_none 2 = .ok (.putfield 15, 3) := by decide +kernel
theorem dX4_none_5 : decode cX4_none 5 = .ok (.iload_n 1, 1) := by decide +kernel
theorem dX4_none_6 : decode cX4_none 6 = .ok (.ireturn, 1) := by decide +kernel
theorem dX4_countOf_0 : decode cX4_countOf 0 = .ok (.aload_n 0, 1) := by decide +kernel
theorem dX4_countOf_1 : decode cX4_countOf 1 = .ok (.getfield 9, 3) := by decide +kernel
theorem dX4_countOf_4 : decode cX4_countOf 4 = .ok (.iload_n 1, 1) := by decide +kernel
theorem dX4_countOf_5 : decode cX4_countOf 5 = .ok (.invokestatic 19, 3) := by decide +kernel
theorem dX4_countOf_8 : decode cX4_countOf 8 = .ok (.iaload, 1) := by decide +kernel
theorem dX4_countOf_9 : decode cX4_countOf 9 = .ok (.ireturn, 1) := by decide +kernel
theorem dX4_placeOf_0 : decode cX4_placeOf 0 = .ok (.iload_n 0, 1) := by decide +kernel
theorem dX4_placeOf_1 : decode cX4_placeOf 1 = .ok (.tableswitch 43 (-5) (-1) #[41, 39, 43, 37, 35], 35) := by decide +kernel
theorem dX4_placeOf_36 : decode cX4_placeOf 36 = .ok (.iconst 0, 1) := by decide +kernel
theorem dX4_placeOf_37 : decode cX4_placeOf 37 = .ok (.ireturn, 1) := by decide +kernel
theorem dX4_placeOf_38 : decode cX4_placeOf 38 = .ok (.iconst 1, 1) := by decide +kernel
theorem dX4_placeOf_39 : decode cX4_placeOf 39 = .ok (.ireturn, 1) := by decide +kernel
theorem dX4_placeOf_40 : decode cX4_placeOf 40 = .ok (.iconst 2, 1) := by decide +kernel
theorem dX4_placeOf_41 : decode cX4_placeOf 41 = .ok (.ireturn, 1) := by decide +kernel
theorem dX4_placeOf_42 : decode cX4_placeOf 42 = .ok (.iconst 3, 1) := by decide +kernel
theorem dX4_placeOf_43 : decode cX4_placeOf 43 = .ok (.ireturn, 1) := by decide +kernel
theorem dX4_placeOf_44 : decode cX4_placeOf 44 = .ok (.iconst 4, 1) := by decide +kernel
theorem dX4_placeOf_45 : decode cX4_placeOf 45 = .ok (.ireturn, 1) := by decide +kernel
theorem dX5_init_0 : decode cX5_init 0 = .ok (.aload_n 0, 1) := by decide +kernel
theorem dX5_init_1 : decode cX5_init 1 = .ok (.invokespecial 3, 3) := by decide +kernel
theorem dX5_init_4 : decode cX5_init 4 = .ok (.aload_n 0, 1) := by decide +kernel
theorem dX5_init_5 : decode cX5_init 5 = .ok (.bipush 8, 2) := by decide +kernel
theorem dX5_init_7 : decode cX5_init 7 = .ok (.newarray .int, 2) := by decide +kernel
theorem dX5_init_9 : decode cX5_init 9 = .ok (.putfield 11, 3) := by decide +kernel
theorem dX5_init_12 : decode cX5_init 12 = .ok (.return_, 1) := by decide +kernel
theorem dX5_wordOf_0 : decode cX5_wordOf 0 = .ok (.iload_n 0, 1) := by decide +kernel
theorem dX5_wordOf_1 : decode cX5_wordOf 1 = .ok (.tableswitch 43 0 3 #[31, 34, 37, 40], 31) := by decide +kernel
theorem dX5_wordOf_32 : decode cX5_wordOf 32 = .ok (.ldc 15, 2) := by decide +kernel
theorem dX5_wordOf_34 : decode cX5_wordOf 34 = .ok (.areturn, 1) := by decide +kernel
theorem dX5_wordOf_35 : decode cX5_wordOf 35 = .ok (.ldc 17, 2) := by decide +kernel
theorem dX5_wordOf_37 : decode cX5_wordOf 37 = .ok (.areturn, 1) := by decide +kernel
theorem dX5_wordOf_38 : decode cX5_wordOf 38 = .ok (.ldc 19, 2) := by decide +kernel
theorem dX5_wordOf_40 : decode cX5_wordOf 40 = .ok (.areturn, 1) := by decide +kernel
theorem dX5_wordOf_41 : decode cX5_wordOf 41 = .ok (.ldc 21, 2) := by decide +kernel
theorem dX5_wordOf_43 : decode cX5_wordOf 43 = .ok (.areturn, 1) := by decide +kernel
theorem dX5_wordOf_44 : decode cX5_wordOf 44 = .ok (.ldc 23, 2) := by decide +kernel
theorem dX5_wordOf_46 : decode cX5_wordOf 46 = .ok (.areturn, 1) := by decide +kernel
theorem dX5_mostOf_0 : decode cX5_mostOf 0 = .ok (.iload_n 0, 1) := by decide +kernel
theorem dX5_mostOf_1 : decode cX5_mostOf 1 = .ok (.ifCond .lt 16, 3) := by decide +kernel
theorem dX5_mostOf_4 : decode cX5_mostOf 4 = .ok (.iload_n 0, 1) := by decide +kernel
theorem dX5_mostOf_5 : decode cX5_mostOf 5 = .ok (.iconst 5, 1) := by decide +kernel
theorem dX5_mostOf_6 : decode cX5_mostOf 6 = .ok (.if_icmp .ge 11, 3) := by decide +kernel
theorem dX5_mostOf_9 : decode cX5_mostOf 9 = .ok (.getstatic 25, 3) := by decide +kernel
theorem dX5_mostOf_12 : decode cX5_mostOf 12 = .ok (.iload_n 0, 1) := by decide +kernel
theorem dX5_mostOf_13 : decode cX5_mostOf 13 = .ok (.iaload, 1) := by decide +kernel
theorem dX5_mostOf_14 : decode cX5_mostOf 14 = .ok (.goto 4, 3) := by decide +kernel
theorem dX5_mostOf_17 : decode cX5_mostOf 17 = .ok (.iconst 0, 1) := by decide +kernel
theorem dX5_mostOf_18 : decode cX5_mostOf 18 = .ok (.ireturn, 1) := by decide +kernel
theorem dX5_isThere_0 : decode cX5_isThere 0 = .ok (.aload_n 0, 1) := by decide +kernel
theorem dX5_isThere_1 : decode cX5_isThere 1 = .ok (.getfield 28, 3) := by decide +kernel
theorem dX5_isThere_4 : decode cX5_isThere 4 = .ok (.ifCond .le 7, 3) := by decide +kernel
theorem dX5_isThere_7 : decode cX5_isThere 7 = .ok (.iconst 1, 1) := by decide +kernel
theorem dX5_isThere_8 : decode cX5_isThere 8 = .ok (.goto 4, 3) := by decide +kernel
theorem dX5_isThere_11 : decode cX5_isThere 11 = .ok (.iconst 0, 1) := by decide +kernel
theorem dX5_isThere_12 : decode cX5_isThere 12 = .ok (.ireturn, 1) := by decide +kernel
theorem dX5_drop_0 : decode cX5_drop 0 = .ok (.aload_n 0, 1) := by decide +kernel
theorem dX5_drop_1 : decode cX5_drop 1 = .ok (.iconst 0, 1) := by decide +kernel
theorem dX5_drop_2 : decode cX5_drop 2 = .ok (.putfield 28, 3) := by decide +kernel
theorem dX5_drop_5 : decode cX5_drop 5 = .ok (.aload_n 0, 1) := by decide +kernel
theorem dX5_drop_6 : decode cX5_drop 6 = .ok (.iconst 0, 1) := by decide +kernel
theorem dX5_drop_7 : decode cX5_drop 7 = .ok (.putfield 32, 3) := by decide +kernel
theorem dX5_drop_10 : decode cX5_drop 10 = .ok (.aload_n 0, 1) := by decide +kernel
theorem dX5_drop_11 : decode cX5_drop 11 = .ok (.iconst 0, 1) := by decide +kernel
theorem dX5_drop_12 : decode cX5_drop 12 = .ok (.putfield 35, 3) := by decide +kernel
theorem dX5_drop_15 : decode cX5_drop 15 = .ok (.aload_n 0, 1) := by decide +kernel
theorem dX5_drop_16 : decode cX5_drop 16 = .ok (.iconst 0, 1) := by decide +kernel
theorem dX5_drop_17 : decode cX5_drop 17 = .ok (.putfield 38, 3) := by decide +kernel
theorem dX5_drop_20 : decode cX5_drop 20 = .ok (.return_, 1) := by decide +kernel
theorem dX5_addStep_0 : decode cX5_addStep 0 = .ok (.aload_n 0, 1) := by decide +kernel
theorem dX5_addStep_1 : decode cX5_addStep 1 = .ok (.getfield 28, 3) := by decide +kernel
theorem dX5_addStep_4 : decode cX5_addStep 4 = .ok (.bipush 8, 2) := by decide +kernel
theorem dX5_addStep_6 : decode cX5_addStep 6 = .ok (.if_icmp .ge 28, 3) := by decide +kernel
theorem dX5_addStep_9 : decode cX5_addStep 9 = .ok (.aload_n 0, 1) := by decide +kernel
theorem dX5_addStep_10 : decode cX5_addStep 10 = .ok (.getfield 11, 3) := by decide +kernel
theorem dX5_addStep_13 : decode cX5_addStep 13 = .ok (.aload_n 0, 1) := by decide +kernel
theorem dX5_addStep_14 : decode cX5_addStep 14 = .ok (.getfield 28, 3) := by decide +kernel
theorem dX5_addStep_17 : decode cX5_addStep 17 = .ok (.iload_n 1, 1) := by decide +kernel
theorem dX5_addStep_18 : decode cX5_addStep 18 = .ok (.bipush 8, 2) := by decide +kernel
theorem dX5_addStep_20 : decode cX5_addStep 20 = .ok (.ishl, 1) := by decide +kernel
theorem dX5_addStep_21 : decode cX5_addStep 21 = .ok (.iload_n 2, 1) := by decide +kernel
theorem dX5_addStep_22 : decode cX5_addStep 22 = .ok (.ior, 1) := by decide +kernel
theorem dX5_addStep_23 : decode cX5_addStep 23 = .ok (.iastore, 1) := by decide +kernel
theorem dX5_addStep_24 : decode cX5_addStep 24 = .ok (.aload_n 0, 1) := by decide +kernel
theorem dX5_addStep_25 : decode cX5_addStep 25 = .ok (.dup, 1) := by decide +kernel
theorem dX5_addStep_26 : decode cX5_addStep 26 = .ok (.getfield 28, 3) := by decide +kernel
theorem dX5_addStep_29 : decode cX5_addStep 29 = .ok (.iconst 1, 1) := by decide +kernel
theorem dX5_addStep_30 : decode cX5_addStep 30 = .ok (.iadd, 1) := by decide +kernel
theorem dX5_addStep_31 : decode cX5_addStep 31 = .ok (.putfield 28, 3) := by decide +kernel
theorem dX5_addStep_34 : decode cX5_addStep 34 = .ok (.return_, 1) := by decide +kernel
theorem dX5_copy_0 : decode cX5_copy 0 = .ok (.aload_n 1, 1) := by decide +kernel
theorem dX5_copy_1 : decode cX5_copy 1 = .ok (.getfield 11, 3) := by decide +kernel
theorem dX5_copy_4 : decode cX5_copy 4 = .ok (.iconst 0, 1) := by decide +kernel
theorem dX5_copy_5 : decode cX5_copy 5 = .ok (.aload_n 0, 1) := by decide +kernel
theorem dX5_copy_6 : decode cX5_copy 6 = .ok (.getfield 11, 3) := by decide +kernel
theorem dX5_copy_9 : decode cX5_copy 9 = .ok (.iconst 0, 1) := by decide +kernel
theorem dX5_copy_10 : decode cX5_copy 10 = .ok (.bipush 8, 2) := by decide +kernel
theorem dX5_copy_12 : decode cX5_copy 12 = .ok (.invokestatic 41, 3) := by decide +kernel
theorem dX5_copy_15 : decode cX5_copy 15 = .ok (.aload_n 0, 1) := by decide +kernel
theorem dX5_copy_16 : decode cX5_copy 16 = .ok (.aload_n 1, 1) := by decide +kernel
theorem dX5_copy_17 : decode cX5_copy 17 = .ok (.getfield 28, 3) := by decide +kernel
theorem dX5_copy_20 : decode cX5_copy 20 = .ok (.putfield 28, 3) := by decide +kernel
theorem dX5_copy_23 : decode cX5_copy 23 = .ok (.aload_n 0, 1) := by decide +kernel
theorem dX5_copy_24 : decode cX5_copy 24 = .ok (.aload_n 1, 1) := by decide +kernel
theorem dX5_copy_25 : decode cX5_copy 25 = .ok (.getfield 32, 3) := by decide +kernel
theorem dX5_copy_28 : decode cX5_copy 28 = .ok (.putfield 32, 3) := by decide +kernel
theorem dX5_copy_31 : decode cX5_copy 31 = .ok (.aload_n 0, 1) := by decide +kernel
theorem dX5_copy_32 : decode cX5_copy 32 = .ok (.aload_n 1, 1) := by decide +kernel
theorem dX5_copy_33 : decode cX5_copy 33 = .ok (.getfield 35, 3) := by decide +kernel
theorem dX5_copy_36 : decode cX5_copy 36 = .ok (.putfield 35, 3) := by decide +kernel
theorem dX5_copy_39 : decode cX5_copy 39 = .ok (.aload_n 0, 1) := by decide +kernel
theorem dX5_copy_40 : decode cX5_copy 40 = .ok (.aload_n 1, 1) := by decide +kernel
theorem dX5_copy_41 : decode cX5_copy 41 = .ok (.getfield 38, 3) := by decide +kernel
theorem dX5_copy_44 : decode cX5_copy 44 = .ok (.putfield 38, 3) := by decide +kernel
theorem dX5_copy_47 : decode cX5_copy 47 = .ok (.return_, 1) := by decide +kernel
theorem dX5_kindOf_0 : decode cX5_kindOf 0 = .ok (.iload_n 1, 1) := by decide +kernel
theorem dX5_kindOf_1 : decode cX5_kindOf 1 = .ok (.ifCond .lt 23, 3) := by decide +kernel
theorem dX5_kindOf_4 : decode cX5_kindOf 4 = .ok (.iload_n 1, 1) := by decide +kernel
theorem dX5_kindOf_5 : decode cX5_kindOf 5 = .ok (.aload_n 0, 1) := by decide +kernel
theorem dX5_kindOf_6 : decode cX5_kindOf 6 = .ok (.getfield 28, 3) := by decide +kernel
theorem dX5_kindOf_9 : decode cX5_kindOf 9 = .ok (.if_icmp .ge 15, 3) := by decide +kernel
theorem dX5_kindOf_12 : decode cX5_kindOf 12 = .ok (.aload_n 0, 1) := by decide +kernel
theorem dX5_kindOf_13 : decode cX5_kindOf 13 = .ok (.getfield 11, 3) := by decide +kernel
theorem dX5_kindOf_16 : decode cX5_kindOf 16 = .ok (.iload_n 1, 1) := by decide +kernel
theorem dX5_kindOf_17 : decode cX5_kindOf 17 = .ok (.iaload, 1) := by decide +kernel
theorem dX5_kindOf_18 : decode cX5_kindOf 18 = .ok (.bipush 8, 2) := by decide +kernel
theorem dX5_kindOf_20 : decode cX5_kindOf 20 = .ok (.ishr, 1) := by decide +kernel
theorem dX5_kindOf_21 : decode cX5_kindOf 21 = .ok (.goto 4, 3) := by decide +kernel
theorem dX5_kindOf_24 : decode cX5_kindOf 24 = .ok (.iconst (-1), 1) := by decide +kernel
theorem dX5_kindOf_25 : decode cX5_kindOf 25 = .ok (.ireturn, 1) := by decide +kernel
theorem dX5_numberOf_0 : decode cX5_numberOf 0 = .ok (.iload_n 1, 1) := by decide +kernel
theorem dX5_numberOf_1 : decode cX5_numberOf 1 = .ok (.ifCond .lt 24, 3) := by decide +kernel
theorem dX5_numberOf_4 : decode cX5_numberOf 4 = .ok (.iload_n 1, 1) := by decide +kernel
theorem dX5_numberOf_5 : decode cX5_numberOf 5 = .ok (.aload_n 0, 1) := by decide +kernel
theorem dX5_numberOf_6 : decode cX5_numberOf 6 = .ok (.getfield 28, 3) := by decide +kernel
theorem dX5_numberOf_9 : decode cX5_numberOf 9 = .ok (.if_icmp .ge 16, 3) := by decide +kernel
theorem dX5_numberOf_12 : decode cX5_numberOf 12 = .ok (.aload_n 0, 1) := by decide +kernel
theorem dX5_numberOf_13 : decode cX5_numberOf 13 = .ok (.getfield 11, 3) := by decide +kernel
theorem dX5_numberOf_16 : decode cX5_numberOf 16 = .ok (.iload_n 1, 1) := by decide +kernel
theorem dX5_numberOf_17 : decode cX5_numberOf 17 = .ok (.iaload, 1) := by decide +kernel
theorem dX5_numberOf_18 : decode cX5_numberOf 18 = .ok (.sipush 255, 3) := by decide +kernel
theorem dX5_numberOf_21 : decode cX5_numberOf 21 = .ok (.iand, 1) := by decide +kernel
theorem dX5_numberOf_22 : decode cX5_numberOf 22 = .ok (.goto 4, 3) := by decide +kernel
theorem dX5_numberOf_25 : decode cX5_numberOf 25 = .ok (.iconst 0, 1) := by decide +kernel
theorem dX5_numberOf_26 : decode cX5_numberOf 26 = .ok (.ireturn, 1) := by decide +kernel
theorem dX5_isEnded_0 : decode cX5_isEnded 0 = .ok (.aload_n 0, 1) := by decide +kernel
theorem dX5_isEnded_1 : decode cX5_isEnded 1 = .ok (.getfield 32, 3) := by decide +kernel
theorem dX5_isEnded_4 : decode cX5_isEnded 4 = .ok (.aload_n 0, 1) := by decide +kernel
theorem dX5_isEnded_5 : decode cX5_isEnded 5 = .ok (.getfield 28, 3) := by decide +kernel
theorem dX5_isEnded_8 : decode cX5_isEnded 8 = .ok (.if_icmp .lt 7, 3) := by decide +kernel
theorem dX5_isEnded_11 : decode cX5_isEnded 11 = .ok (.iconst 1, 1) := by decide +kernel
theorem dX5_isEnded_12 : decode cX5_isEnded 12 = .ok (.goto 4, 3) := by decide +kernel
theorem dX5_isEnded_15 : decode cX5_isEnded 15 = .ok (.iconst 0, 1) := by decide +kernel
theorem dX5_isEnded_16 : decode cX5_isEnded 16 = .ok (.ireturn, 1) := by decide +kernel
theorem dX5_holdsByRun_0 : decode cX5_holdsByRun 0 = .ok (.aload_n 0, 1) := by decide +kernel
theorem dX5_holdsByRun_1 : decode cX5_holdsByRun 1 = .ok (.aload_n 0, 1) := by decide +kernel
theorem dX5_holdsByRun_2 : decode cX5_holdsByRun 2 = .ok (.getfield 32, 3) := by decide +kernel
theorem dX5_holdsByRun_5 : decode cX5_holdsByRun 5 = .ok (.invokevirtual 47, 3) := by decide +kernel
theorem dX5_holdsByRun_8 : decode cX5_holdsByRun 8 = .ok (.ifCond .ne 7, 3) := by decide +kernel
theorem dX5_holdsByRun_11 : decode cX5_holdsByRun 11 = .ok (.iconst 1, 1) := by decide +kernel
theorem dX5_holdsByRun_12 : decode cX5_holdsByRun 12 = .ok (.goto 4, 3) := by decide +kernel
theorem dX5_holdsByRun_15 : decode cX5_holdsByRun 15 = .ok (.iconst 0, 1) := by decide +kernel
theorem dX5_holdsByRun_16 : decode cX5_holdsByRun 16 = .ok (.ireturn, 1) := by decide +kernel
theorem dX5_isRunOver_0 : decode cX5_isRunOver 0 = .ok (.aload_n 0, 1) := by decide +kernel
theorem dX5_isRunOver_1 : decode cX5_isRunOver 1 = .ok (.dup, 1) := by decide +kernel
theorem dX5_isRunOver_2 : decode cX5_isRunOver 2 = .ok (.getfield 35, 3) := by decide +kernel
theorem dX5_isRunOver_5 : decode cX5_isRunOver 5 = .ok (.iconst 1, 1) := by decide +kernel
theorem dX5_isRunOver_6 : decode cX5_isRunOver 6 = .ok (.isub, 1) := by decide +kernel
theorem dX5_isRunOver_7 : decode cX5_isRunOver 7 = .ok (.putfield 35, 3) := by decide +kernel
theorem dX5_isRunOver_10 : decode cX5_isRunOver 10 = .ok (.aload_n 0, 1) := by decide +kernel
theorem dX5_isRunOver_11 : decode cX5_isRunOver 11 = .ok (.getfield 35, 3) := by decide +kernel
theorem dX5_isRunOver_14 : decode cX5_isRunOver 14 = .ok (.ifCond .le 5, 3) := by decide +kernel
theorem dX5_isRunOver_17 : decode cX5_isRunOver 17 = .ok (.iconst 0, 1) := by decide +kernel
theorem dX5_isRunOver_18 : decode cX5_isRunOver 18 = .ok (.ireturn, 1) := by decide +kernel
theorem dX5_isRunOver_19 : decode cX5_isRunOver 19 = .ok (.aload_n 0, 1) := by decide +kernel
theorem dX5_isRunOver_20 : decode cX5_isRunOver 20 = .ok (.dup, 1) := by decide +kernel
theorem dX5_isRunOver_21 : decode cX5_isRunOver 21 = .ok (.getfield 32, 3) := by decide +kernel
theorem dX5_isRunOver_24 : decode cX5_isRunOver 24 = .ok (.iconst 1, 1) := by decide +kernel
theorem dX5_isRunOver_25 : decode cX5_isRunOver 25 = .ok (.iadd, 1) := by decide +kernel
theorem dX5_isRunOver_26 : decode cX5_isRunOver 26 = .ok (.putfield 32, 3) := by decide +kernel
theorem dX5_isRunOver_29 : decode cX5_isRunOver 29 = .ok (.iconst 1, 1) := by decide +kernel
theorem dX5_isRunOver_30 : decode cX5_isRunOver 30 = .ok (.ireturn, 1) := by decide +kernel
theorem dX5_turnBack_0 : decode cX5_turnBack 0 = .ok (.aload_n 0, 1) := by decide +kernel
theorem dX5_turnBack_1 : decode cX5_turnBack 1 = .ok (.getfield 38, 3) := by decide +kernel
theorem dX5_turnBack_4 : decode cX5_turnBack 4 = .ok (.aload_n 0, 1) := by decide +kernel
theorem dX5_turnBack_5 : decode cX5_turnBack 5 = .ok (.aload_n 0, 1) := by decide +kernel
theorem dX5_turnBack_6 : decode cX5_turnBack 6 = .ok (.getfield 32, 3) := by decide +kernel
theorem dX5_turnBack_9 : decode cX5_turnBack 9 = .ok (.invokevirtual 51, 3) := by decide +kernel
theorem dX5_turnBack_12 : decode cX5_turnBack 12 = .ok (.if_icmp .lt 19, 3) := by decide +kernel
theorem dX5_turnBack_15 : decode cX5_turnBack 15 = .ok (.aload_n 0, 1) := by decide +kernel
theorem dX5_turnBack_16 : decode cX5_turnBack 16 = .ok (.iconst 0, 1) := by decide +kernel
theorem dX5_turnBack_17 : decode cX5_turnBack 17 = .ok (.putfield 38, 3) := by decide +kernel
theorem dX5_turnBack_20 : decode cX5_turnBack 20 = .ok (.aload_n 0, 1) := by decide +kernel
theorem dX5_turnBack_21 : decode cX5_turnBack 21 = .ok (.dup, 1) := by decide +kernel
theorem dX5_turnBack_22 : decode cX5_turnBack 22 = .ok (.getfield 32, 3) := by decide +kernel
theorem dX5_turnBack_25 : decode cX5_turnBack 25 = .ok (.iconst 1, 1) := by decide +kernel
theorem dX5_turnBack_26 : decode cX5_turnBack 26 = .ok (.iadd, 1) := by decide +kernel
theorem dX5_turnBack_27 : decode cX5_turnBack 27 = .ok (.putfield 32, 3) := by decide +kernel
theorem dX5_turnBack_30 : decode cX5_turnBack 30 = .ok (.return_, 1) := by decide +kernel
theorem dX5_turnBack_31 : decode cX5_turnBack 31 = .ok (.aload_n 0, 1) := by decide +kernel
theorem dX5_turnBack_32 : decode cX5_turnBack 32 = .ok (.dup, 1) := by decide +kernel
theorem dX5_turnBack_33 : decode cX5_turnBack 33 = .ok (.getfield 38, 3) := by decide +kernel
theorem dX5_turnBack_36 : decode cX5_turnBack 36 = .ok (.iconst 1, 1) := by decide +kernel
theorem dX5_turnBack_37 : decode cX5_turnBack 37 = .ok (.iadd, 1) := by decide +kernel
theorem dX5_turnBack_38 : decode cX5_turnBack 38 = .ok (.putfield 38, 3) := by decide +kernel
theorem dX5_turnBack_41 : decode cX5_turnBack 41 = .ok (.aload_n 0, 1) := by decide +kernel
theorem dX5_turnBack_42 : decode cX5_turnBack 42 = .ok (.getfield 32, 3) := by decide +kernel
theorem dX5_turnBack_45 : decode cX5_turnBack 45 = .ok (.istore_n 1, 1) := by decide +kernel
theorem dX5_turnBack_46 : decode cX5_turnBack 46 = .ok (.iload_n 1, 1) := by decide +kernel
theorem dX5_turnBack_47 : decode cX5_turnBack 47 = .ok (.ifCond .le 20, 3) := by decide +kernel
theorem dX5_turnBack_50 : decode cX5_turnBack 50 = .ok (.aload_n 0, 1) := by decide +kernel
theorem dX5_turnBack_51 : decode cX5_turnBack 51 = .ok (.iload_n 1, 1) := by decide +kernel
theorem dX5_turnBack_52 : decode cX5_turnBack 52 = .ok (.iconst 1, 1) := by decide +kernel
theorem dX5_turnBack_53 : decode cX5_turnBack 53 = .ok (.isub, 1) := by decide +kernel
theorem dX5_turnBack_54 : decode cX5_turnBack 54 = .ok (.invokevirtual 47, 3) := by decide +kernel
theorem dX5_turnBack_57 : decode cX5_turnBack 57 = .ok (.iconst 4, 1) := by decide +kernel
theorem dX5_turnBack_58 : decode cX5_turnBack 58 = .ok (.if_icmp .eq 9, 3) := by decide +kernel
theorem dX5_turnBack_61 : decode cX5_turnBack 61 = .ok (.iinc 1 (-1), 3) := by decide +kernel
theorem dX5_turnBack_64 : decode cX5_turnBack 64 = .ok (.goto (-18), 3) := by decide +kernel
theorem dX5_turnBack_67 : decode cX5_turnBack 67 = .ok (.aload_n 0, 1) := by decide +kernel
theorem dX5_turnBack_68 : decode cX5_turnBack 68 = .ok (.iload_n 1, 1) := by decide +kernel
theorem dX5_turnBack_69 : decode cX5_turnBack 69 = .ok (.putfield 32, 3) := by decide +kernel
theorem dX5_turnBack_72 : decode cX5_turnBack 72 = .ok (.return_, 1) := by decide +kernel
theorem dX5_writeTo_0 : decode cX5_writeTo 0 = .ok (.iconst 0, 1) := by decide +kernel
theorem dX5_writeTo_1 : decode cX5_writeTo 1 = .ok (.istore_n 2, 1) := by decide +kernel
theorem dX5_writeTo_2 : decode cX5_writeTo 2 = .ok (.iload_n 2, 1) := by decide +kernel
theorem dX5_writeTo_3 : decode cX5_writeTo 3 = .ok (.aload_n 0, 1) := by decide +kernel
theorem dX5_writeTo_4 : decode cX5_writeTo 4 = .ok (.getfield 28, 3) := by decide +kernel
theorem dX5_writeTo_7 : decode cX5_writeTo 7 = .ok (.if_icmp .ge 46, 3) := by decide +kernel
theorem dX5_writeTo_10 : decode cX5_writeTo 10 = .ok (.iload_n 2, 1) := by decide +kernel
theorem dX5_writeTo_11 : decode cX5_writeTo 11 = .ok (.ifCond .le 9, 3) := by decide +kernel
theorem dX5_writeTo_14 : decode cX5_writeTo 14 = .ok (.aload_n 1, 1) := by decide +kernel
theorem dX5_writeTo_15 : decode cX5_writeTo 15 = .ok (.bipush 44, 2) := by decide +kernel
theorem dX5_writeTo_17 : decode cX5_writeTo 17 = .ok (.invokevirtual 54, 3) := by decide +kernel
theorem dX5_writeTo_20 : decode cX5_writeTo 20 = .ok (.aload_n 1, 1) := by decide +kernel
theorem dX5_writeTo_21 : decode cX5_writeTo 21 = .ok (.aload_n 0, 1) := by decide +kernel
theorem dX5_writeTo_22 : decode cX5_writeTo 22 = .ok (.iload_n 2, 1) := by decide +kernel
theorem dX5_writeTo_23 : decode cX5_writeTo 23 = .ok (.invokevirtual 47, 3) := by decide +kernel
theorem dX5_writeTo_26 : decode cX5_writeTo 26 = .ok (.invokestatic 60, 3) := by decide +kernel
theorem dX5_writeTo_29 : decode cX5_writeTo 29 = .ok (.invokevirtual 64, 3) := by decide +kernel
theorem dX5_writeTo_32 : decode cX5_writeTo 32 = .ok (.aload_n 1, 1) := by decide +kernel
theorem dX5_writeTo_33 : decode cX5_writeTo 33 = .ok (.bipush 32, 2) := by decide +kernel
theorem dX5_writeTo_35 : decode cX5_writeTo 35 = .ok (.invokevirtual 54, 3) := by decide +kernel
theorem dX5_writeTo_38 : decode cX5_writeTo 38 = .ok (.aload_n 1, 1) := by decide +kernel
theorem dX5_writeTo_39 : decode cX5_writeTo 39 = .ok (.aload_n 0, 1) := by decide +kernel
theorem dX5_writeTo_40 : decode cX5_writeTo 40 = .ok (.iload_n 2, 1) := by decide +kernel
theorem dX5_writeTo_41 : decode cX5_writeTo 41 = .ok (.invokevirtual 51, 3) := by decide +kernel
theorem dX5_writeTo_44 : decode cX5_writeTo 44 = .ok (.invokevirtual 68, 3) := by decide +kernel
theorem dX5_writeTo_47 : decode cX5_writeTo 47 = .ok (.iinc 2 1, 3) := by decide +kernel
theorem dX5_writeTo_50 : decode cX5_writeTo 50 = .ok (.goto (-48), 3) := by decide +kernel
theorem dX5_writeTo_53 : decode cX5_writeTo 53 = .ok (.return_, 1) := by decide +kernel
theorem dX6_init_0 : decode cX6_init 0 = .ok (.aload_n 0, 1) := by decide +kernel
theorem dX6_init_1 : decode cX6_init 1 = .ok (.invokespecial 3, 3) := by decide +kernel
theorem dX6_init_4 : decode cX6_init 4 = .ok (.aload_n 0, 1) := by decide +kernel
theorem dX6_init_5 : decode cX6_init 5 = .ok (.bipush 12, 2) := by decide +kernel
theorem dX6_init_7 : decode cX6_init 7 = .ok (.anewarray 9, 3) := by decide +kernel
theorem dX6_init_10 : decode cX6_init 10 = .ok (.putfield 11, 3) := by decide +kernel
theorem dX6_init_13 : decode cX6_init 13 = .ok (.aload_n 0, 1) := by decide +kernel
theorem dX6_init_14 : decode cX6_init 14 = .ok (.new 17, 3) := by decide +kernel
theorem dX6_init_17 : decode cX6_init 17 = .ok (.dup, 1) := by decide +kernel
theorem dX6_init_18 : decode cX6_init 18 = .ok (.invokespecial 19, 3) := by decide +kernel

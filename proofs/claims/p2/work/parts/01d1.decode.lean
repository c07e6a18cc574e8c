theorem dX6_init_21 : decode cX6_init 21 = .ok (.putfield 20, 3) := by decide +kernel
theorem dX6_init_24 : decode cX6_init 24 = .ok (.aload_n 0, 1) := by decide +kernel
theorem dX6_init_25 : decode cX6_init 25 = .ok (.new 24, 3) := by decide +kernel
theorem dX6_init_28 : decode cX6_init 28 = .ok (.dup, 1) := by decide +kernel
theorem dX6_init_29 : decode cX6_init 29 = .ok (.invokespecial 26, 3) := by decide +kernel
theorem dX6_init_32 : decode cX6_init 32 = .ok (.putfield 27, 3) := by decide +kernel
theorem dX6_init_35 : decode cX6_init 35 = .ok (.aload_n 0, 1) := by decide +kernel
theorem dX6_init_36 : decode cX6_init 36 = .ok (.new 24, 3) := by decide +kernel
theorem dX6_init_39 : decode cX6_init 39 = .ok (.dup, 1) := by decide +kernel
theorem dX6_init_40 : decode cX6_init 40 = .ok (.invokespecial 26, 3) := by decide +kernel
theorem dX6_init_43 : decode cX6_init 43 = .ok (.putfield 31, 3) := by decide +kernel
theorem dX6_init_46 : decode cX6_init 46 = .ok (.aload_n 0, 1) := by decide +kernel
theorem dX6_init_47 : decode cX6_init 47 = .ok (.iconst (-1), 1) := by decide +kernel
theorem dX6_init_48 : decode cX6_init 48 = .ok (.putfield 34, 3) := by decide +kernel
theorem dX6_init_51 : decode cX6_init 51 = .ok (.aload_n 0, 1) := by decide +kernel
theorem dX6_init_52 : decode cX6_init 52 = .ok (.iconst (-1), 1) := by decide +kernel
theorem dX6_init_53 : decode cX6_init 53 = .ok (.putfield 38, 3) := by decide +kernel
theorem dX6_init_56 : decode cX6_init 56 = .ok (.aload_n 0, 1) := by decide +kernel
theorem dX6_init_57 : decode cX6_init 57 = .ok (.aload_n 1, 1) := by decide +kernel
theorem dX6_init_58 : decode cX6_init 58 = .ok (.putfield 41, 3) := by decide +kernel
theorem dX6_init_61 : decode cX6_init 61 = .ok (.iconst 0, 1) := by decide +kernel
theorem dX6_init_62 : decode cX6_init 62 = .ok (.istore_n 2, 1) := by decide +kernel
theorem dX6_init_63 : decode cX6_init 63 = .ok (.iload_n 2, 1) := by decide +kernel
theorem dX6_init_64 : decode cX6_init 64 = .ok (.bipush 12, 2) := by decide +kernel
theorem dX6_init_66 : decode cX6_init 66 = .ok (.if_icmp .ge 23, 3) := by decide +kernel
theorem dX6_init_69 : decode cX6_init 69 = .ok (.aload_n 0, 1) := by decide +kernel
theorem dX6_init_70 : decode cX6_init 70 = .ok (.getfield 11, 3) := by decide +kernel
theorem dX6_init_73 : decode cX6_init 73 = .ok (.iload_n 2, 1) := by decide +kernel
theorem dX6_init_74 : decode cX6_init 74 = .ok (.new 9, 3) := by decide +kernel
theorem dX6_init_77 : decode cX6_init 77 = .ok (.dup, 1) := by decide +kernel
theorem dX6_init_78 : decode cX6_init 78 = .ok (.iload_n 2, 1) := by decide +kernel
theorem dX6_init_79 : decode cX6_init 79 = .ok (.invokespecial 45, 3) := by decide +kernel
theorem dX6_init_82 : decode cX6_init 82 = .ok (.aastore, 1) := by decide +kernel
theorem dX6_init_83 : decode cX6_init 83 = .ok (.iinc 2 1, 3) := by decide +kernel
theorem dX6_init_86 : decode cX6_init 86 = .ok (.goto (-23), 3) := by decide +kernel
theorem dX6_init_89 : decode cX6_init 89 = .ok (.return_, 1) := by decide +kernel
theorem dX6_copy_0 : decode cX6_copy 0 = .ok (.iconst 0, 1) := by decide +kernel
theorem dX6_copy_1 : decode cX6_copy 1 = .ok (.istore_n 2, 1) := by decide +kernel
theorem dX6_copy_2 : decode cX6_copy 2 = .ok (.iload_n 2, 1) := by decide +kernel
theorem dX6_copy_3 : decode cX6_copy 3 = .ok (.aload_n 1, 1) := by decide +kernel
theorem dX6_copy_4 : decode cX6_copy 4 = .ok (.getfield 48, 3) := by decide +kernel
theorem dX6_copy_7 : decode cX6_copy 7 = .ok (.if_icmp .ge 24, 3) := by decide +kernel
theorem dX6_copy_10 : decode cX6_copy 10 = .ok (.aload_n 0, 1) := by decide +kernel
theorem dX6_copy_11 : decode cX6_copy 11 = .ok (.getfield 11, 3) := by decide +kernel
theorem dX6_copy_14 : decode cX6_copy 14 = .ok (.iload_n 2, 1) := by decide +kernel
theorem dX6_copy_15 : decode cX6_copy 15 = .ok (.aaload, 1) := by decide +kernel
theorem dX6_copy_16 : decode cX6_copy 16 = .ok (.aload_n 1, 1) := by decide +kernel
theorem dX6_copy_17 : decode cX6_copy 17 = .ok (.getfield 11, 3) := by decide +kernel
theorem dX6_copy_20 : decode cX6_copy 20 = .ok (.iload_n 2, 1) := by decide +kernel
theorem dX6_copy_21 : decode cX6_copy 21 = .ok (.aaload, 1) := by decide +kernel
theorem dX6_copy_22 : decode cX6_copy 22 = .ok (.invokevirtual 51, 3) := by decide +kernel
theorem dX6_copy_25 : decode cX6_copy 25 = .ok (.iinc 2 1, 3) := by decide +kernel
theorem dX6_copy_28 : decode cX6_copy 28 = .ok (.goto (-26), 3) := by decide +kernel
theorem dX6_copy_31 : decode cX6_copy 31 = .ok (.aload_n 0, 1) := by decide +kernel
theorem dX6_copy_32 : decode cX6_copy 32 = .ok (.getfield 20, 3) := by decide +kernel
theorem dX6_copy_35 : decode cX6_copy 35 = .ok (.aload_n 1, 1) := by decide +kernel
theorem dX6_copy_36 : decode cX6_copy 36 = .ok (.getfield 20, 3) := by decide +kernel
theorem dX6_copy_39 : decode cX6_copy 39 = .ok (.invokevirtual 55, 3) := by decide +kernel
theorem dX6_copy_42 : decode cX6_copy 42 = .ok (.aload_n 0, 1) := by decide +kernel
theorem dX6_copy_43 : decode cX6_copy 43 = .ok (.aload_n 1, 1) := by decide +kernel
theorem dX6_copy_44 : decode cX6_copy 44 = .ok (.getfield 48, 3) := by decide +kernel
theorem dX6_copy_47 : decode cX6_copy 47 = .ok (.putfield 48, 3) := by decide +kernel
theorem dX6_copy_50 : decode cX6_copy 50 = .ok (.aload_n 0, 1) := by decide +kernel
theorem dX6_copy_51 : decode cX6_copy 51 = .ok (.aload_n 1, 1) := by decide +kernel
theorem dX6_copy_52 : decode cX6_copy 52 = .ok (.getfield 58, 3) := by decide +kernel
theorem dX6_copy_55 : decode cX6_copy 55 = .ok (.putfield 58, 3) := by decide +kernel
theorem dX6_copy_58 : decode cX6_copy 58 = .ok (.aload_n 0, 1) := by decide +kernel
theorem dX6_copy_59 : decode cX6_copy 59 = .ok (.aload_n 1, 1) := by decide +kernel
theorem dX6_copy_60 : decode cX6_copy 60 = .ok (.getfield 61, 3) := by decide +kernel
theorem dX6_copy_63 : decode cX6_copy 63 = .ok (.putfield 61, 3) := by decide +kernel
theorem dX6_copy_66 : decode cX6_copy 66 = .ok (.aload_n 0, 1) := by decide +kernel
theorem dX6_copy_67 : decode cX6_copy 67 = .ok (.aload_n 1, 1) := by decide +kernel
theorem dX6_copy_68 : decode cX6_copy 68 = .ok (.getfield 34, 3) := by decide +kernel
theorem dX6_copy_71 : decode cX6_copy 71 = .ok (.putfield 34, 3) := by decide +kernel
theorem dX6_copy_74 : decode cX6_copy 74 = .ok (.aload_n 0, 1) := by decide +kernel
theorem dX6_copy_75 : decode cX6_copy 75 = .ok (.aload_n 1, 1) := by decide +kernel
theorem dX6_copy_76 : decode cX6_copy 76 = .ok (.getfield 38, 3) := by decide +kernel
theorem dX6_copy_79 : decode cX6_copy 79 = .ok (.putfield 38, 3) := by decide +kernel
theorem dX6_copy_82 : decode cX6_copy 82 = .ok (.return_, 1) := by decide +kernel
theorem dX6_has_0 : decode cX6_has 0 = .ok (.iload_n 1, 1) := by decide +kernel
theorem dX6_has_1 : decode cX6_has 1 = .ok (.ifCond .lt 15, 3) := by decide +kernel
theorem dX6_has_4 : decode cX6_has 4 = .ok (.iload_n 1, 1) := by decide +kernel
theorem dX6_has_5 : decode cX6_has 5 = .ok (.aload_n 0, 1) := by decide +kernel
theorem dX6_has_6 : decode cX6_has 6 = .ok (.getfield 48, 3) := by decide +kernel
theorem dX6_has_9 : decode cX6_has 9 = .ok (.if_icmp .ge 7, 3) := by decide +kernel
theorem dX6_has_12 : decode cX6_has 12 = .ok (.iconst 1, 1) := by decide +kernel
theorem dX6_has_13 : decode cX6_has 13 = .ok (.goto 4, 3) := by decide +kernel
theorem dX6_has_16 : decode cX6_has 16 = .ok (.iconst 0, 1) := by decide +kernel
theorem dX6_has_17 : decode cX6_has 17 = .ok (.ireturn, 1) := by decide +kernel
theorem dX6_addTask_0 : decode cX6_addTask 0 = .ok (.aload_n 0, 1) := by decide +kernel
theorem dX6_addTask_1 : decode cX6_addTask 1 = .ok (.getfield 48, 3) := by decide +kernel
theorem dX6_addTask_4 : decode cX6_addTask 4 = .ok (.bipush 12, 2) := by decide +kernel
theorem dX6_addTask_6 : decode cX6_addTask 6 = .ok (.if_icmp .lt 5, 3) := by decide +kernel
theorem dX6_addTask_9 : decode cX6_addTask 9 = .ok (.iconst (-1), 1) := by decide +kernel
theorem dX6_addTask_10 : decode cX6_addTask 10 = .ok (.ireturn, 1) := by decide +kernel
theorem dX6_addTask_11 : decode cX6_addTask 11 = .ok (.aload_n 0, 1) := by decide +kernel
theorem dX6_addTask_12 : decode cX6_addTask 12 = .ok (.getfield 11, 3) := by decide +kernel
theorem dX6_addTask_15 : decode cX6_addTask 15 = .ok (.aload_n 0, 1) := by decide +kernel
theorem dX6_addTask_16 : decode cX6_addTask 16 = .ok (.getfield 48, 3) := by decide +kernel
theorem dX6_addTask_19 : decode cX6_addTask 19 = .ok (.aaload, 1) := by decide +kernel
theorem dX6_addTask_20 : decode cX6_addTask 20 = .ok (.iload_n 1, 1) := by decide +kernel
theorem dX6_addTask_21 : decode cX6_addTask 21 = .ok (.iload_n 2, 1) := by decide +kernel
theorem dX6_addTask_22 : decode cX6_addTask 22 = .ok (.invokevirtual 65, 3) := by decide +kernel
theorem dX6_addTask_25 : decode cX6_addTask 25 = .ok (.aload_n 0, 1) := by decide +kernel
theorem dX6_addTask_26 : decode cX6_addTask 26 = .ok (.dup, 1) := by decide +kernel
theorem dX6_addTask_27 : decode cX6_addTask 27 = .ok (.getfield 48, 3) := by decide +kernel
theorem dX6_addTask_30 : decode cX6_addTask 30 = .ok (.iconst 1, 1) := by decide +kernel
theorem dX6_addTask_31 : decode cX6_addTask 31 = .ok (.iadd, 1) := by decide +kernel
theorem dX6_addTask_32 : decode cX6_addTask 32 = .ok (.putfield 48, 3) := by decide +kernel
theorem dX6_addTask_35 : decode cX6_addTask 35 = .ok (.aload_n 0, 1) := by decide +kernel
theorem dX6_addTask_36 : decode cX6_addTask 36 = .ok (.getfield 48, 3) := by decide +kernel
theorem dX6_addTask_39 : decode cX6_addTask 39 = .ok (.iconst 1, 1) := by decide +kernel
theorem dX6_addTask_40 : decode cX6_addTask 40 = .ok (.isub, 1) := by decide +kernel
theorem dX6_addTask_41 : decode cX6_addTask 41 = .ok (.ireturn, 1) := by decide +kernel
theorem dX6_weightOfAll_0 : decode cX6_weightOfAll 0 = .ok (.iconst 0, 1) := by decide +kernel
theorem dX6_weightOfAll_1 : decode cX6_weightOfAll 1 = .ok (.istore_n 1, 1) := by decide +kernel
theorem dX6_weightOfAll_2 : decode cX6_weightOfAll 2 = .ok (.iconst 0, 1) := by decide +kernel
theorem dX6_weightOfAll_3 : decode cX6_weightOfAll 3 = .ok (.istore_n 2, 1) := by decide +kernel
theorem dX6_weightOfAll_4 : decode cX6_weightOfAll 4 = .ok (.iload_n 2, 1) := by decide +kernel
theorem dX6_weightOfAll_5 : decode cX6_weightOfAll 5 = .ok (.aload_n 0, 1) := by decide +kernel
theorem dX6_weightOfAll_6 : decode cX6_weightOfAll 6 = .ok (.getfield 48, 3) := by decide +kernel
theorem dX6_weightOfAll_9 : decode cX6_weightOfAll 9 = .ok (.if_icmp .ge 34, 3) := by decide +kernel
theorem dX6_weightOfAll_12 : decode cX6_weightOfAll 12 = .ok (.aload_n 0, 1) := by decide +kernel
theorem dX6_weightOfAll_13 : decode cX6_weightOfAll 13 = .ok (.getfield 11, 3) := by decide +kernel
theorem dX6_weightOfAll_16 : decode cX6_weightOfAll 16 = .ok (.iload_n 2, 1) := by decide +kernel
theorem dX6_weightOfAll_17 : decode cX6_weightOfAll 17 = .ok (.aaload, 1) := by decide +kernel
theorem dX6_weightOfAll_18 : decode cX6_weightOfAll 18 = .ok (.getfield 69, 3) := by decide +kernel
theorem dX6_weightOfAll_21 : decode cX6_weightOfAll 21 = .ok (.iconst 1, 1) := by decide +kernel
theorem dX6_weightOfAll_22 : decode cX6_weightOfAll 22 = .ok (.if_icmp .ne 15, 3) := by decide +kernel
theorem dX6_weightOfAll_25 : decode cX6_weightOfAll 25 = .ok (.iload_n 1, 1) := by decide +kernel
theorem dX6_weightOfAll_26 : decode cX6_weightOfAll 26 = .ok (.aload_n 0, 1) := by decide +kernel
theorem dX6_weightOfAll_27 : decode cX6_weightOfAll 27 = .ok (.getfield 11, 3) := by decide +kernel
theorem dX6_weightOfAll_30 : decode cX6_weightOfAll 30 = .ok (.iload_n 2, 1) := by decide +kernel
theorem dX6_weightOfAll_31 : decode cX6_weightOfAll 31 = .ok (.aaload, 1) := by decide +kernel
theorem dX6_weightOfAll_32 : decode cX6_weightOfAll 32 = .ok (.getfield 72, 3) := by decide +kernel
theorem dX6_weightOfAll_35 : decode cX6_weightOfAll 35 = .ok (.iadd, 1) := by decide +kernel
theorem dX6_weightOfAll_36 : decode cX6_weightOfAll 36 = .ok (.istore_n 1, 1) := by decide +kernel
theorem dX6_weightOfAll_37 : decode cX6_weightOfAll 37 = .ok (.iinc 2 1, 3) := by decide +kernel
theorem dX6_weightOfAll_40 : decode cX6_weightOfAll 40 = .ok (.goto (-36), 3) := by decide +kernel
theorem dX6_weightOfAll_43 : decode cX6_weightOfAll 43 = .ok (.iload_n 1, 1) := by decide +kernel
theorem dX6_weightOfAll_44 : decode cX6_weightOfAll 44 = .ok (.ireturn, 1) := by decide +kernel
theorem dX6_sumUp_0 : decode cX6_sumUp 0 = .ok (.iconst 0, 1) := by decide +kernel
theorem dX6_sumUp_1 : decode cX6_sumUp 1 = .ok (.istore_n 1, 1) := by decide +kernel
theorem dX6_sumUp_2 : decode cX6_sumUp 2 = .ok (.aload_n 0, 1) := by decide +kernel
theorem dX6_sumUp_3 : decode cX6_sumUp 3 = .ok (.getfield 27, 3) := by decide +kernel
theorem dX6_sumUp_6 : decode cX6_sumUp 6 = .ok (.lconst 0, 1) := by decide +kernel
theorem dX6_sumUp_7 : decode cX6_sumUp 7 = .ok (.invokevirtual 75, 3) := by decide +kernel
theorem dX6_sumUp_10 : decode cX6_sumUp 10 = .ok (.iconst 0, 1) := by decide +kernel
theorem dX6_sumUp_11 : decode cX6_sumUp 11 = .ok (.istore_n 2, 1) := by decide +kernel
theorem dX6_sumUp_12 : decode cX6_sumUp 12 = .ok (.iload_n 2, 1) := by decide +kernel
theorem dX6_sumUp_13 : decode cX6_sumUp 13 = .ok (.aload_n 0, 1) := by decide +kernel
theorem dX6_sumUp_14 : decode cX6_sumUp 14 = .ok (.getfield 48, 3) := by decide +kernel
theorem dX6_sumUp_17 : decode cX6_sumUp 17 = .ok (.if_icmp .ge 60, 3) := by decide +kernel
theorem dX6_sumUp_20 : decode cX6_sumUp 20 = .ok (.aload_n 0, 1) := by decide +kernel
theorem dX6_sumUp_21 : decode cX6_sumUp 21 = .ok (.getfield 11, 3) := by decide +kernel
theorem dX6_sumUp_24 : decode cX6_sumUp 24 = .ok (.iload_n 2, 1) := by decide +kernel
theorem dX6_sumUp_25 : decode cX6_sumUp 25 = .ok (.aaload, 1) := by decide +kernel
theorem dX6_sumUp_26 : decode cX6_sumUp 26 = .ok (.getfield 69, 3) := by decide +kernel
theorem dX6_sumUp_29 : decode cX6_sumUp 29 = .ok (.iconst 1, 1) := by decide +kernel
theorem dX6_sumUp_30 : decode cX6_sumUp 30 = .ok (.if_icmp .ne 41, 3) := by decide +kernel
theorem dX6_sumUp_33 : decode cX6_sumUp 33 = .ok (.aload_n 0, 1) := by decide +kernel
theorem dX6_sumUp_34 : decode cX6_sumUp 34 = .ok (.getfield 27, 3) := by decide +kernel
theorem dX6_sumUp_37 : decode cX6_sumUp 37 = .ok (.aload_n 0, 1) := by decide +kernel
theorem dX6_sumUp_38 : decode cX6_sumUp 38 = .ok (.getfield 11, 3) := by decide +kernel
theorem dX6_sumUp_41 : decode cX6_sumUp 41 = .ok (.iload_n 2, 1) := by decide +kernel
theorem dX6_sumUp_42 : decode cX6_sumUp 42 = .ok (.aaload, 1) := by decide +kernel
theorem dX6_sumUp_43 : decode cX6_sumUp 43 = .ok (.getfield 72, 3) := by decide +kernel
theorem dX6_sumUp_46 : decode cX6_sumUp 46 = .ok (.i2l, 1) := by decide +kernel
theorem dX6_sumUp_47 : decode cX6_sumUp 47 = .ok (.aload_n 0, 1) := by decide +kernel
theorem dX6_sumUp_48 : decode cX6_sumUp 48 = .ok (.getfield 11, 3) := by decide +kernel
theorem dX6_sumUp_51 : decode cX6_sumUp 51 = .ok (.iload_n 2, 1) := by decide +kernel
theorem dX6_sumUp_52 : decode cX6_sumUp 52 = .ok (.aaload, 1) := by decide +kernel
theorem dX6_sumUp_53 : decode cX6_sumUp 53 = .ok (.getfield 79, 3) := by decide +kernel
theorem dX6_sumUp_56 : decode cX6_sumUp 56 = .ok (.invokevirtual 82, 3) := by decide +kernel
theorem dX6_sumUp_59 : decode cX6_sumUp 59 = .ok (.iload_n 1, 1) := by decide +kernel
theorem dX6_sumUp_60 : decode cX6_sumUp 60 = .ok (.aload_n 0, 1) := by decide +kernel
theorem dX6_sumUp_61 : decode cX6_sumUp 61 = .ok (.getfield 11, 3) := by decide +kernel
theorem dX6_sumUp_64 : decode cX6_sumUp 64 = .ok (.iload_n 2, 1) := by decide +kernel
theorem dX6_sumUp_65 : decode cX6_sumUp 65 = .ok (.aaload, 1) := by decide +kernel
theorem dX6_sumUp_66 : decode cX6_sumUp 66 = .ok (.getfield 72, 3) := by decide +kernel
theorem dX6_sumUp_69 : decode cX6_sumUp 69 = .ok (.iadd, 1) := by decide +kernel
theorem dX6_sumUp_70 : decode cX6_sumUp 70 = .ok (.istore_n 1, 1) := by decide +kernel
theorem dX6_sumUp_71 : decode cX6_sumUp 71 = .ok (.iinc 2 1, 3) := by decide +kernel
theorem dX6_sumUp_74 : decode cX6_sumUp 74 = .ok (.goto (-62), 3) := by decide +kernel
theorem dX6_sumUp_77 : decode cX6_sumUp 77 = .ok (.iload_n 1, 1) := by decide +kernel
theorem dX6_sumUp_78 : decode cX6_sumUp 78 = .ok (.ifCond .le 5, 3) := by decide +kernel
theorem dX6_sumUp_81 : decode cX6_sumUp 81 = .ok (.iload_n 1, 1) := by decide +kernel
theorem dX6_sumUp_82 : decode cX6_sumUp 82 = .ok (.ireturn, 1) := by decide +kernel
theorem dX6_sumUp_83 : decode cX6_sumUp 83 = .ok (.aload_n 0, 1) := by decide +kernel
theorem dX6_sumUp_84 : decode cX6_sumUp 84 = .ok (.getfield 27, 3) := by decide +kernel
theorem dX6_sumUp_87 : decode cX6_sumUp 87 = .ok (.aload_n 0, 1) := by decide +kernel
theorem dX6_sumUp_88 : decode cX6_sumUp 88 = .ok (.getfield 61, 3) := by decide +kernel
theorem dX6_sumUp_91 : decode cX6_sumUp 91 = .ok (.invokevirtual 75, 3) := by decide +kernel
theorem dX6_sumUp_94 : decode cX6_sumUp 94 = .ok (.iconst 1, 1) := by decide +kernel
theorem dX6_sumUp_95 : decode cX6_sumUp 95 = .ok (.ireturn, 1) := by decide +kernel
theorem dX6_wholeV_0 : decode cX6_wholeV 0 = .ok (.aload_n 0, 1) := by decide +kernel
theorem dX6_wholeV_1 : decode cX6_wholeV 1 = .ok (.invokevirtual 86, 3) := by decide +kernel
theorem dX6_wholeV_4 : decode cX6_wholeV 4 = .ok (.istore_n 1, 1) := by decide +kernel
theorem dX6_wholeV_5 : decode cX6_wholeV 5 = .ok (.aload_n 0, 1) := by decide +kernel
theorem dX6_wholeV_6 : decode cX6_wholeV 6 = .ok (.getfield 27, 3) := by decide +kernel
theorem dX6_wholeV_9 : decode cX6_wholeV 9 = .ok (.iload_n 1, 1) := by decide +kernel
theorem dX6_wholeV_10 : decode cX6_wholeV 10 = .ok (.i2l, 1) := by decide +kernel
theorem dX6_wholeV_11 : decode cX6_wholeV 11 = .ok (.invokevirtual 90, 3) := by decide +kernel
theorem dX6_wholeV_14 : decode cX6_wholeV 14 = .ok (.aload_n 0, 1) := by decide +kernel
theorem dX6_wholeV_15 : decode cX6_wholeV 15 = .ok (.getfield 27, 3) := by decide +kernel
theorem dX6_wholeV_18 : decode cX6_wholeV 18 = .ok (.invokevirtual 93, 3) := by decide +kernel
theorem dX6_wholeV_21 : decode cX6_wholeV 21 = .ok (.lreturn, 1) := by decide +kernel
theorem dX6_restOfV_0 : decode cX6_restOfV 0 = .ok (.aload_n 0, 1) := by decide +kernel
theorem dX6_restOfV_1 : decode cX6_restOfV 1 = .ok (.invokevirtual 86, 3) := by decide +kernel
theorem dX6_restOfV_4 : decode cX6_restOfV 4 = .ok (.istore_n 1, 1) := by decide +kernel
theorem dX6_restOfV_5 : decode cX6_restOfV 5 = .ok (.aload_n 0, 1) := by decide +kernel
theorem dX6_restOfV_6 : decode cX6_restOfV 6 = .ok (.getfield 27, 3) := by decide +kernel
theorem dX6_restOfV_9 : decode cX6_restOfV 9 = .ok (.iload_n 1, 1) := by decide +kernel
theorem dX6_restOfV_10 : decode cX6_restOfV 10 = .ok (.i2l, 1) := by decide +kernel
theorem dX6_restOfV_11 : decode cX6_restOfV 11 = .ok (.invokevirtual 97, 3) := by decide +kernel
theorem dX6_restOfV_14 : decode cX6_restOfV 14 = .ok (.lreturn, 1) := by decide +kernel
theorem dX6_putLag_0 : decode cX6_putLag 0 = .ok (.aload_n 2, 1) := by decide +kernel
theorem dX6_putLag_1 : decode cX6_putLag 1 = .ok (.lconst 0, 1) := by decide +kernel
theorem dX6_putLag_2 : decode cX6_putLag 2 = .ok (.invokevirtual 75, 3) := by decide +kernel
theorem dX6_putLag_5 : decode cX6_putLag 5 = .ok (.iconst 0, 1) := by decide +kernel
theorem dX6_putLag_6 : decode cX6_putLag 6 = .ok (.istore_n 3, 1) := by decide +kernel
theorem dX6_putLag_7 : decode cX6_putLag 7 = .ok (.iload_n 3, 1) := by decide +kernel
theorem dX6_putLag_8 : decode cX6_putLag 8 = .ok (.aload_n 0, 1) := by decide +kernel
theorem dX6_putLag_9 : decode cX6_putLag 9 = .ok (.getfield 48, 3) := by decide +kernel
theorem dX6_putLag_12 : decode cX6_putLag 12 = .ok (.if_icmp .ge 64, 3) := by decide +kernel
theorem dX6_putLag_15 : decode cX6_putLag 15 = .ok (.aload_n 0, 1) := by decide +kernel
theorem dX6_putLag_16 : decode cX6_putLag 16 = .ok (.getfield 11, 3) := by decide +kernel
theorem dX6_putLag_19 : decode cX6_putLag 19 = .ok (.iload_n 3, 1) := by decide +kernel
theorem dX6_putLag_20 : decode cX6_putLag 20 = .ok (.aaload, 1) := by decide +kernel
theorem dX6_putLag_21 : decode cX6_putLag 21 = .ok (.getfield 69, 3) := by decide +kernel
theorem dX6_putLag_24 : decode cX6_putLag 24 = .ok (.iconst 1, 1) := by decide +kernel
theorem dX6_putLag_25 : decode cX6_putLag 25 = .ok (.if_icmp .ne 45, 3) := by decide +kernel
theorem dX6_putLag_28 : decode cX6_putLag 28 = .ok (.aload_n 2, 1) := by decide +kernel
theorem dX6_putLag_29 : decode cX6_putLag 29 = .ok (.aload_n 0, 1) := by decide +kernel
theorem dX6_putLag_30 : decode cX6_putLag 30 = .ok (.getfield 11, 3) := by decide +kernel
theorem dX6_putLag_33 : decode cX6_putLag 33 = .ok (.iload_n 3, 1) := by decide +kernel
theorem dX6_putLag_34 : decode cX6_putLag 34 = .ok (.aaload, 1) := by decide +kernel
theorem dX6_putLag_35 : decode cX6_putLag 35 = .ok (.getfield 72, 3) := by decide +kernel
theorem dX6_putLag_38 : decode cX6_putLag 38 = .ok (.i2l, 1) := by decide +kernel
theorem dX6_putLag_39 : decode cX6_putLag 39 = .ok (.aload_n 0, 1) := by decide +kernel
theorem dX6_putLag_40 : decode cX6_putLag 40 = .ok (.getfield 11, 3) := by decide +kernel
theorem dX6_putLag_43 : decode cX6_putLag 43 = .ok (.iload_n 3, 1) := by decide +kernel
theorem dX6_putLag_44 : decode cX6_putLag 44 = .ok (.aaload, 1) := by decide +kernel
theorem dX6_putLag_45 : decode cX6_putLag 45 = .ok (.getfield 79, 3) := by decide +kernel
theorem dX6_putLag_48 : decode cX6_putLag 48 = .ok (.invokevirtual 82, 3) := by decide +kernel
theorem dX6_putLag_51 : decode cX6_putLag 51 = .ok (.aload_n 2, 1) := by decide +kernel
theorem dX6_putLag_52 : decode cX6_putLag 52 = .ok (.aload_n 0, 1) := by decide +kernel
theorem dX6_putLag_53 : decode cX6_putLag 53 = .ok (.getfield 11, 3) := by decide +kernel
theorem dX6_putLag_56 : decode cX6_putLag 56 = .ok (.iload_n 3, 1) := by decide +kernel
theorem dX6_putLag_57 : decode cX6_putLag 57 = .ok (.aaload, 1) := by decide +kernel
theorem dX6_putLag_58 : decode cX6_putLag 58 = .ok (.getfield 72, 3) := by decide +kernel
theorem dX6_putLag_61 : decode cX6_putLag 61 = .ok (.ineg, 1) := by decide +kernel
theorem dX6_putLag_62 : decode cX6_putLag 62 = .ok (.i2l, 1) := by decide +kernel
theorem dX6_putLag_63 : decode cX6_putLag 63 = .ok (.aload_n 1, 1) := by decide +kernel
theorem dX6_putLag_64 : decode cX6_putLag 64 = .ok (.getfield 79, 3) := by decide +kernel
theorem dX6_putLag_67 : decode cX6_putLag 67 = .ok (.invokevirtual 82, 3) := by decide +kernel
theorem dX6_putLag_70 : decode cX6_putLag 70 = .ok (.iinc 3 1, 3) := by decide +kernel
theorem dX6_putLag_73 : decode cX6_putLag 73 = .ok (.goto (-66), 3) := by decide +kernel
theorem dX6_putLag_76 : decode cX6_putLag 76 = .ok (.aload_n 2, 1) := by decide +kernel
theorem dX6_putLag_77 : decode cX6_putLag 77 = .ok (.aload_n 1, 1) := by decide +kernel
theorem dX6_putLag_78 : decode cX6_putLag 78 = .ok (.getfield 72, 3) := by decide +kernel
theorem dX6_putLag_81 : decode cX6_putLag 81 = .ok (.i2l, 1) := by decide +kernel
theorem dX6_putLag_82 : decode cX6_putLag 82 = .ok (.invokevirtual 101, 3) := by decide +kernel
theorem dX6_putLag_85 : decode cX6_putLag 85 = .ok (.return_, 1) := by decide +kernel
theorem dX6_lagTimesW_0 : decode cX6_lagTimesW 0 = .ok (.aload_n 0, 1) := by decide +kernel
theorem dX6_lagTimesW_1 : decode cX6_lagTimesW 1 = .ok (.aload_n 1, 1) := by decide +kernel
theorem dX6_lagTimesW_2 : decode cX6_lagTimesW 2 = .ok (.aload_n 0, 1) := by decide +kernel
theorem dX6_lagTimesW_3 : decode cX6_lagTimesW 3 = .ok (.getfield 31, 3) := by decide +kernel
theorem dX6_lagTimesW_6 : decode cX6_lagTimesW 6 = .ok (.invokevirtual 104, 3) := by decide +kernel
theorem dX6_lagTimesW_9 : decode cX6_lagTimesW 9 = .ok (.aload_n 0, 1) := by decide +kernel
theorem dX6_lagTimesW_10 : decode cX6_lagTimesW 10 = .ok (.getfield 31, 3) := by decide +kernel
theorem dX6_lagTimesW_13 : decode cX6_lagTimesW 13 = .ok (.invokevirtual 93, 3) := by decide +kernel
theorem dX6_lagTimesW_16 : decode cX6_lagTimesW 16 = .ok (.lreturn, 1) := by decide +kernel
theorem dX6_lagEdge_0 : decode cX6_lagEdge 0 = .ok (.aload_n 0, 1) := by decide +kernel
theorem dX6_lagEdge_1 : decode cX6_lagEdge 1 = .ok (.invokevirtual 108, 3) := by decide +kernel
theorem dX6_lagEdge_4 : decode cX6_lagEdge 4 = .ok (.istore 4, 2) := by decide +kernel
theorem dX6_lagEdge_6 : decode cX6_lagEdge 6 = .ok (.lload_n 1, 1) := by decide +kernel
theorem dX6_lagEdge_7 : decode cX6_lagEdge 7 = .ok (.lstore 5, 2) := by decide +kernel
theorem dX6_lagEdge_9 : decode cX6_lagEdge 9 = .ok (.iconst 0, 1) := by decide +kernel
theorem dX6_lagEdge_10 : decode cX6_lagEdge 10 = .ok (.istore 7, 2) := by decide +kernel
theorem dX6_lagEdge_12 : decode cX6_lagEdge 12 = .ok (.iload 7, 2) := by decide +kernel
theorem dX6_lagEdge_14 : decode cX6_lagEdge 14 = .ok (.aload_n 0, 1) := by decide +kernel
theorem dX6_lagEdge_15 : decode cX6_lagEdge 15 = .ok (.getfield 48, 3) := by decide +kernel
theorem dX6_lagEdge_18 : decode cX6_lagEdge 18 = .ok (.if_icmp .ge 100, 3) := by decide +kernel
theorem dX6_lagEdge_21 : decode cX6_lagEdge 21 = .ok (.aload_n 0, 1) := by decide +kernel
theorem dX6_lagEdge_22 : decode cX6_lagEdge 22 = .ok (.getfield 11, 3) := by decide +kernel
theorem dX6_lagEdge_25 : decode cX6_lagEdge 25 = .ok (.iload 7, 2) := by decide +kernel
theorem dX6_lagEdge_27 : decode cX6_lagEdge 27 = .ok (.aaload, 1) := by decide +kernel
theorem dX6_lagEdge_28 : decode cX6_lagEdge 28 = .ok (.invokevirtual 111, 3) := by decide +kernel
theorem dX6_lagEdge_31 : decode cX6_lagEdge 31 = .ok (.ifCond .eq 81, 3) := by decide +kernel
theorem dX6_lagEdge_34 : decode cX6_lagEdge 34 = .ok (.aload_n 0, 1) := by decide +kernel
theorem dX6_lagEdge_35 : decode cX6_lagEdge 35 = .ok (.aload_n 0, 1) := by decide +kernel
theorem dX6_lagEdge_36 : decode cX6_lagEdge 36 = .ok (.getfield 11, 3) := by decide +kernel
theorem dX6_lagEdge_39 : decode cX6_lagEdge 39 = .ok (.iload 7, 2) := by decide +kernel
theorem dX6_lagEdge_41 : decode cX6_lagEdge 41 = .ok (.aaload, 1) := by decide +kernel
theorem dX6_lagEdge_42 : decode cX6_lagEdge 42 = .ok (.aload_n 0, 1) := by decide +kernel
theorem dX6_lagEdge_43 : decode cX6_lagEdge 43 = .ok (.getfield 31, 3) := by decide +kernel
theorem dX6_lagEdge_46 : decode cX6_lagEdge 46 = .ok (.invokevirtual 104, 3) := by decide +kernel
theorem dX6_lagEdge_49 : decode cX6_lagEdge 49 = .ok (.aload_n 0, 1) := by decide +kernel
theorem dX6_lagEdge_50 : decode cX6_lagEdge 50 = .ok (.getfield 31, 3) := by decide +kernel
theorem dX6_lagEdge_53 : decode cX6_lagEdge 53 = .ok (.ldc2_w 115, 3) := by decide +kernel
theorem dX6_lagEdge_56 : decode cX6_lagEdge 56 = .ok (.invokevirtual 101, 3) := by decide +kernel
theorem dX6_lagEdge_59 : decode cX6_lagEdge 59 = .ok (.aload_n 0, 1) := by decide +kernel
theorem dX6_lagEdge_60 : decode cX6_lagEdge 60 = .ok (.getfield 31, 3) := by decide +kernel
theorem dX6_lagEdge_63 : decode cX6_lagEdge 63 = .ok (.iload 4, 2) := by decide +kernel
theorem dX6_lagEdge_65 : decode cX6_lagEdge 65 = .ok (.i2l, 1) := by decide +kernel
theorem dX6_lagEdge_66 : decode cX6_lagEdge 66 = .ok (.invokevirtual 90, 3) := by decide +kernel
theorem dX6_lagEdge_69 : decode cX6_lagEdge 69 = .ok (.aload_n 0, 1) := by decide +kernel
theorem dX6_lagEdge_70 : decode cX6_lagEdge 70 = .ok (.getfield 31, 3) := by decide +kernel
theorem dX6_lagEdge_73 : decode cX6_lagEdge 73 = .ok (.ldc2_w 117, 3) := by decide +kernel
theorem dX6_lagEdge_76 : decode cX6_lagEdge 76 = .ok (.invokevirtual 90, 3) := by decide +kernel
theorem dX6_lagEdge_79 : decode cX6_lagEdge 79 = .ok (.iload_n 3, 1) := by decide +kernel
theorem dX6_lagEdge_80 : decode cX6_lagEdge 80 = .ok (.ifCond .eq 18, 3) := by decide +kernel
theorem dX6_lagEdge_83 : decode cX6_lagEdge 83 = .ok (.lload 5, 2) := by decide +kernel
theorem dX6_lagEdge_85 : decode cX6_lagEdge 85 = .ok (.aload_n 0, 1) := by decide +kernel
theorem dX6_lagEdge_86 : decode cX6_lagEdge 86 = .ok (.getfield 31, 3) := by decide +kernel
theorem dX6_lagEdge_89 : decode cX6_lagEdge 89 = .ok (.invokevirtual 93, 3) := by decide +kernel
theorem dX6_lagEdge_92 : decode cX6_lagEdge 92 = .ok (.invokestatic 119, 3) := by decide +kernel
theorem dX6_lagEdge_95 : decode cX6_lagEdge 95 = .ok (.goto 15, 3) := by decide +kernel
theorem dX6_lagEdge_98 : decode cX6_lagEdge 98 = .ok (.lload 5, 2) := by decide +kernel
theorem dX6_lagEdge_100 : decode cX6_lagEdge 100 = .ok (.aload_n 0, 1) := by decide +kernel
theorem dX6_lagEdge_101 : decode cX6_lagEdge 101 = .ok (.getfield 31, 3) := by decide +kernel
theorem dX6_lagEdge_104 : decode cX6_lagEdge 104 = .ok (.invokevirtual 93, 3) := by decide +kernel
theorem dX6_lagEdge_107 : decode cX6_lagEdge 107 = .ok (.invokestatic 125, 3) := by decide +kernel
theorem dX6_lagEdge_110 : decode cX6_lagEdge 110 = .ok (.lstore 5, 2) := by decide +kernel
theorem dX6_lagEdge_112 : decode cX6_lagEdge 112 = .ok (.iinc 7 1, 3) := by decide +kernel
theorem dX6_lagEdge_115 : decode cX6_lagEdge 115 = .ok (.goto (-103), 3) := by decide +kernel
theorem dX6_lagEdge_118 : decode cX6_lagEdge 118 = .ok (.lload 5, 2) := by decide +kernel
theorem dX6_lagEdge_120 : decode cX6_lagEdge 120 = .ok (.lreturn, 1) := by decide +kernel
theorem dX6_howManyAre_0 : decode cX6_howManyAre 0 = .ok (.iconst 0, 1) := by decide +kernel
theorem dX6_howManyAre_1 : decode cX6_howManyAre 1 = .ok (.istore_n 2, 1) := by decide +kernel
theorem dX6_howManyAre_2 : decode cX6_howManyAre 2 = .ok (.iconst 0, 1) := by decide +kernel
theorem dX6_howManyAre_3 : decode cX6_howManyAre 3 = .ok (.istore_n 3, 1) := by decide +kernel
theorem dX6_howManyAre_4 : decode cX6_howManyAre 4 = .ok (.iload_n 3, 1) := by decide +kernel
theorem dX6_howManyAre_5 : decode cX6_howManyAre 5 = .ok (.aload_n 0, 1) := by decide +kernel
theorem dX6_howManyAre_6 : decode cX6_howManyAre 6 = .ok (.getfield 48, 3) := by decide +kernel
theorem dX6_howManyAre_9 : decode cX6_howManyAre 9 = .ok (.if_icmp .ge 25, 3) := by decide +kernel
theorem dX6_howManyAre_12 : decode cX6_howManyAre 12 = .ok (.aload_n 0, 1) := by decide +kernel
theorem dX6_howManyAre_13 : decode cX6_howManyAre 13 = .ok (.getfield 11, 3) := by decide +kernel
theorem dX6_howManyAre_16 : decode cX6_howManyAre 16 = .ok (.iload_n 3, 1) := by decide +kernel
theorem dX6_howManyAre_17 : decode cX6_howManyAre 17 = .ok (.aaload, 1) := by decide +kernel
theorem dX6_howManyAre_18 : decode cX6_howManyAre 18 = .ok (.getfield 69, 3) := by decide +kernel
theorem dX6_howManyAre_21 : decode cX6_howManyAre 21 = .ok (.iload_n 1, 1) := by decide +kernel
theorem dX6_howManyAre_22 : decode cX6_howManyAre 22 = .ok (.if_icmp .ne 6, 3) := by decide +kernel
theorem dX6_howManyAre_25 : decode cX6_howManyAre 25 = .ok (.iinc 2 1, 3) := by decide +kernel
theorem dX6_howManyAre_28 : decode cX6_howManyAre 28 = .ok (.iinc 3 1, 3) := by decide +kernel
theorem dX6_howManyAre_31 : decode cX6_howManyAre 31 = .ok (.goto (-27), 3) := by decide +kernel
theorem dX6_howManyAre_34 : decode cX6_howManyAre 34 = .ok (.iload_n 2, 1) := by decide +kernel
theorem dX6_howManyAre_35 : decode cX6_howManyAre 35 = .ok (.ireturn, 1) := by decide +kernel
theorem dX6_howManyHaveScripts_0 : decode cX6_howManyHaveScripts 0 = .ok (.iconst 0, 1) := by decide +kernel
theorem dX6_howManyHaveScripts_1 : decode cX6_howManyHaveScripts 1 = .ok (.istore_n 1, 1) := by decide +kernel
theorem dX6_howManyHaveScripts_2 : decode cX6_howManyHaveScripts 2 = .ok (.iconst 0, 1) := by decide +kernel
theorem dX6_howManyHaveScripts_3 : decode cX6_howManyHaveScripts 3 = .ok (.istore_n 2, 1) := by decide +kernel
theorem dX6_howManyHaveScripts_4 : decode cX6_howManyHaveScripts 4 = .ok (.iload_n 2, 1) := by decide +kernel
theorem dX6_howManyHaveScripts_5 : decode cX6_howManyHaveScripts 5 = .ok (.aload_n 0, 1) := by decide +kernel
theorem dX6_howManyHaveScripts_6 : decode cX6_howManyHaveScripts 6 = .ok (.getfield 48, 3) := by decide +kernel
theorem dX6_howManyHaveScripts_9 : decode cX6_howManyHaveScripts 9 = .ok (.if_icmp .ge 27, 3) := by decide +kernel
theorem dX6_howManyHaveScripts_12 : decode cX6_howManyHaveScripts 12 = .ok (.aload_n 0, 1) := by decide +kernel
theorem dX6_howManyHaveScripts_13 : decode cX6_howManyHaveScripts 13 = .ok (.getfield 11, 3) := by decide +kernel
theorem dX6_howManyHaveScripts_16 : decode cX6_howManyHaveScripts 16 = .ok (.iload_n 2, 1) := by decide +kernel
theorem dX6_howManyHaveScripts_17 : decode cX6_howManyHaveScripts 17 = .ok (.aaload, 1) := by decide +kernel
theorem dX6_howManyHaveScripts_18 : decode cX6_howManyHaveScripts 18 = .ok (.getfield 128, 3) := by decide +kernel
theorem dX6_howManyHaveScripts_21 : decode cX6_howManyHaveScripts 21 = .ok (.invokevirtual 132, 3) := by decide +kernel
theorem dX6_howManyHaveScripts_24 : decode cX6_howManyHaveScripts 24 = .ok (.ifCond .eq 6, 3) := by decide +kernel
theorem dX6_howManyHaveScripts_27 : decode cX6_howManyHaveScripts 27 = .ok (.iinc 1 1, 3) := by decide +kernel
theorem dX6_howManyHaveScripts_30 : decode cX6_howManyHaveScripts 30 = .ok (.iinc 2 1, 3) := by decide +kernel
theorem dX6_howManyHaveScripts_33 : decode cX6_howManyHaveScripts 33 = .ok (.goto (-29), 3) := by decide +kernel
theorem dX6_howManyHaveScripts_36 : decode cX6_howManyHaveScripts 36 = .ok (.iload_n 1, 1) := by decide +kernel
theorem dX6_howManyHaveScripts_37 : decode cX6_howManyHaveScripts 37 = .ok (.ireturn, 1) := by decide +kernel
theorem dX6_hasRoomFor_0 : decode cX6_hasRoomFor 0 = .ok (.aload_n 0, 1) := by decide +kernel
theorem dX6_hasRoomFor_1 : decode cX6_hasRoomFor 1 = .ok (.invokevirtual 108, 3) := by decide +kernel
theorem dX6_hasRoomFor_4 : decode cX6_hasRoomFor 4 = .ok (.iload_n 1, 1) := by decide +kernel
theorem dX6_hasRoomFor_5 : decode cX6_hasRoomFor 5 = .ok (.iadd, 1) := by decide +kernel
theorem dX6_hasRoomFor_6 : decode cX6_hasRoomFor 6 = .ok (.bipush 24, 2) := by decide +kernel
theorem dX6_hasRoomFor_8 : decode cX6_hasRoomFor 8 = .ok (.if_icmp .gt 7, 3) := by decide +kernel
theorem dX6_hasRoomFor_11 : decode cX6_hasRoomFor 11 = .ok (.iconst 1, 1) := by decide +kernel
theorem dX6_hasRoomFor_12 : decode cX6_hasRoomFor 12 = .ok (.goto 4, 3) := by decide +kernel
theorem dX6_hasRoomFor_15 : decode cX6_hasRoomFor 15 = .ok (.iconst 0, 1) := by decide +kernel
theorem dX6_hasRoomFor_16 : decode cX6_hasRoomFor 16 = .ok (.ireturn, 1) := by decide +kernel
theorem dX6_canWeigh_0 : decode cX6_canWeigh 0 = .ok (.aload_n 1, 1) := by decide +kernel
theorem dX6_canWeigh_1 : decode cX6_canWeigh 1 = .ok (.invokevirtual 111, 3) := by decide +kernel
theorem dX6_canWeigh_4 : decode cX6_canWeigh 4 = .ok (.ifCond .eq 19, 3) := by decide +kernel
theorem dX6_canWeigh_7 : decode cX6_canWeigh 7 = .ok (.aload_n 0, 1) := by decide +kernel
theorem dX6_canWeigh_8 : decode cX6_canWeigh 8 = .ok (.invokevirtual 108, 3) := by decide +kernel
theorem dX6_canWeigh_11 : decode cX6_canWeigh 11 = .ok (.aload_n 1, 1) := by decide +kernel
theorem dX6_canWeigh_12 : decode cX6_canWeigh 12 = .ok (.getfield 72, 3) := by decide +kernel
theorem dX6_canWeigh_15 : decode cX6_canWeigh 15 = .ok (.isub, 1) := by decide +kernel
theorem dX6_canWeigh_16 : decode cX6_canWeigh 16 = .ok (.iload_n 2, 1) := by decide +kernel
theorem dX6_canWeigh_17 : decode cX6_canWeigh 17 = .ok (.iadd, 1) := by decide +kernel
theorem dX6_canWeigh_18 : decode cX6_canWeigh 18 = .ok (.bipush 24, 2) := by decide +kernel
theorem dX6_canWeigh_20 : decode cX6_canWeigh 20 = .ok (.if_icmp .gt 7, 3) := by decide +kernel
theorem dX6_canWeigh_23 : decode cX6_canWeigh 23 = .ok (.iconst 1, 1) := by decide +kernel
theorem dX6_canWeigh_24 : decode cX6_canWeigh 24 = .ok (.goto 4, 3) := by decide +kernel
theorem dX6_canWeigh_27 : decode cX6_canWeigh 27 = .ok (.iconst 0, 1) := by decide +kernel
theorem dX6_canWeigh_28 : decode cX6_canWeigh 28 = .ok (.ireturn, 1) := by decide +kernel
theorem dX6_enter_0 : decode cX6_enter 0 = .ok (.aload_n 0, 1) := by decide +kernel
theorem dX6_enter_1 : decode cX6_enter 1 = .ok (.invokevirtual 86, 3) := by decide +kernel
theorem dX6_enter_4 : decode cX6_enter 4 = .ok (.istore_n 2, 1) := by decide +kernel
theorem dX6_enter_5 : decode cX6_enter 5 = .ok (.aload_n 1, 1) := by decide +kernel
theorem dX6_enter_6 : decode cX6_enter 6 = .ok (.getfield 137, 3) := by decide +kernel
theorem dX6_enter_9 : decode cX6_enter 9 = .ok (.aload_n 1, 1) := by decide +kernel
theorem dX6_enter_10 : decode cX6_enter 10 = .ok (.getfield 72, 3) := by decide +kernel
theorem dX6_enter_13 : decode cX6_enter 13 = .ok (.imul, 1) := by decide +kernel
theorem dX6_enter_14 : decode cX6_enter 14 = .ok (.istore_n 3, 1) := by decide +kernel
theorem dX6_enter_15 : decode cX6_enter 15 = .ok (.aload_n 1, 1) := by decide +kernel
theorem dX6_enter_16 : decode cX6_enter 16 = .ok (.aload_n 0, 1) := by decide +kernel
theorem dX6_enter_17 : decode cX6_enter 17 = .ok (.getfield 41, 3) := by decide +kernel
theorem dX6_enter_20 : decode cX6_enter 20 = .ok (.getfield 140, 3) := by decide +kernel
theorem dX6_enter_23 : decode cX6_enter 23 = .ok (.aload_n 0, 1) := by decide +kernel
theorem dX6_enter_24 : decode cX6_enter 24 = .ok (.getfield 31, 3) := by decide +kernel
theorem dX6_enter_27 : decode cX6_enter 27 = .ok (.invokevirtual 145, 3) := by decide +kernel
theorem dX6_enter_30 : decode cX6_enter 30 = .ok (.aload_n 0, 1) := by decide +kernel
theorem dX6_enter_31 : decode cX6_enter 31 = .ok (.getfield 27, 3) := by decide +kernel
theorem dX6_enter_34 : decode cX6_enter 34 = .ok (.iload_n 3, 1) := by decide +kernel
theorem dX6_enter_35 : decode cX6_enter 35 = .ok (.i2l, 1) := by decide +kernel
theorem dX6_enter_36 : decode cX6_enter 36 = .ok (.invokevirtual 101, 3) := by decide +kernel
theorem dX6_enter_39 : decode cX6_enter 39 = .ok (.aload_n 0, 1) := by decide +kernel
theorem dX6_enter_40 : decode cX6_enter 40 = .ok (.getfield 27, 3) := by decide +kernel
theorem dX6_enter_43 : decode cX6_enter 43 = .ok (.iload_n 2, 1) := by decide +kernel
theorem dX6_enter_44 : decode cX6_enter 44 = .ok (.ineg, 1) := by decide +kernel
theorem dX6_enter_45 : decode cX6_enter 45 = .ok (.i2l, 1) := by decide +kernel
theorem dX6_enter_46 : decode cX6_enter 46 = .ok (.aload_n 0, 1) := by decide +kernel
theorem dX6_enter_47 : decode cX6_enter 47 = .ok (.getfield 31, 3) := by decide +kernel
theorem dX6_enter_50 : decode cX6_enter 50 = .ok (.invokevirtual 149, 3) := by decide +kernel
theorem dX6_enter_53 : decode cX6_enter 53 = .ok (.aload_n 0, 1) := by decide +kernel
theorem dX6_enter_54 : decode cX6_enter 54 = .ok (.getfield 27, 3) := by decide +kernel
theorem dX6_enter_57 : decode cX6_enter 57 = .ok (.iload_n 2, 1) := by decide +kernel
theorem dX6_enter_58 : decode cX6_enter 58 = .ok (.iload_n 3, 1) := by decide +kernel
theorem dX6_enter_59 : decode cX6_enter 59 = .ok (.imul, 1) := by decide +kernel
theorem dX6_enter_60 : decode cX6_enter 60 = .ok (.i2l, 1) := by decide +kernel
theorem dX6_enter_61 : decode cX6_enter 61 = .ok (.invokevirtual 90, 3) := by decide +kernel
theorem dX6_enter_64 : decode cX6_enter 64 = .ok (.aload_n 1, 1) := by decide +kernel
theorem dX6_enter_65 : decode cX6_enter 65 = .ok (.aload_n 0, 1) := by decide +kernel
theorem dX6_enter_66 : decode cX6_enter 66 = .ok (.getfield 27, 3) := by decide +kernel
theorem dX6_enter_69 : decode cX6_enter 69 = .ok (.invokevirtual 93, 3) := by decide +kernel
theorem dX6_enter_72 : decode cX6_enter 72 = .ok (.putfield 79, 3) := by decide +kernel
theorem dX6_enter_75 : decode cX6_enter 75 = .ok (.aload_n 1, 1) := by decide +kernel
theorem dX6_enter_76 : decode cX6_enter 76 = .ok (.aload_n 1, 1) := by decide +kernel
theorem dX6_enter_77 : decode cX6_enter 77 = .ok (.getfield 153, 3) := by decide +kernel
theorem dX6_enter_80 : decode cX6_enter 80 = .ok (.putfield 156, 3) := by decide +kernel
theorem dX6_enter_83 : decode cX6_enter 83 = .ok (.aload_n 1, 1) := by decide +kernel
theorem dX6_enter_84 : decode cX6_enter 84 = .ok (.iconst 0, 1) := by decide +kernel
theorem dX6_enter_85 : decode cX6_enter 85 = .ok (.putfield 159, 3) := by decide +kernel
theorem dX6_enter_88 : decode cX6_enter 88 = .ok (.aload_n 1, 1) := by decide +kernel
theorem dX6_enter_89 : decode cX6_enter 89 = .ok (.iconst 1, 1) := by decide +kernel
theorem dX6_enter_90 : decode cX6_enter 90 = .ok (.putfield 69, 3) := by decide +kernel
theorem dX6_enter_93 : decode cX6_enter 93 = .ok (.return_, 1) := by decide +kernel
theorem dX6_depart_0 : decode cX6_depart 0 = .ok (.aload_n 0, 1) := by decide +kernel
theorem dX6_depart_1 : decode cX6_depart 1 = .ok (.aload_n 1, 1) := by decide +kernel
theorem dX6_depart_2 : decode cX6_depart 2 = .ok (.aload_n 1, 1) := by decide +kernel
theorem dX6_depart_3 : decode cX6_depart 3 = .ok (.getfield 162, 3) := by decide +kernel
theorem dX6_depart_6 : decode cX6_depart 6 = .ok (.invokevirtual 104, 3) := by decide +kernel
theorem dX6_depart_9 : decode cX6_depart 9 = .ok (.aload_n 1, 1) := by decide +kernel
theorem dX6_depart_10 : decode cX6_depart 10 = .ok (.aload_n 0, 1) := by decide +kernel
theorem dX6_depart_11 : decode cX6_depart 11 = .ok (.invokevirtual 108, 3) := by decide +kernel
theorem dX6_depart_14 : decode cX6_depart 14 = .ok (.putfield 137, 3) := by decide +kernel
theorem dX6_depart_17 : decode cX6_depart 17 = .ok (.aload_n 1, 1) := by decide +kernel
theorem dX6_depart_18 : decode cX6_depart 18 = .ok (.getfield 137, 3) := by decide +kernel
theorem dX6_depart_21 : decode cX6_depart 21 = .ok (.aload_n 1, 1) := by decide +kernel
theorem dX6_depart_22 : decode cX6_depart 22 = .ok (.getfield 72, 3) := by decide +kernel
theorem dX6_depart_25 : decode cX6_depart 25 = .ok (.if_icmp .ne 11, 3) := by decide +kernel
theorem dX6_depart_28 : decode cX6_depart 28 = .ok (.aload_n 0, 1) := by decide +kernel
theorem dX6_depart_29 : decode cX6_depart 29 = .ok (.aload_n 1, 1) := by decide +kernel
theorem dX6_depart_30 : decode cX6_depart 30 = .ok (.getfield 79, 3) := by decide +kernel
theorem dX6_depart_33 : decode cX6_depart 33 = .ok (.putfield 61, 3) := by decide +kernel
theorem dX6_depart_36 : decode cX6_depart 36 = .ok (.aload_n 1, 1) := by decide +kernel
theorem dX6_depart_37 : decode cX6_depart 37 = .ok (.iload_n 2, 1) := by decide +kernel
theorem dX6_depart_38 : decode cX6_depart 38 = .ok (.putfield 69, 3) := by decide +kernel
theorem dX6_depart_41 : decode cX6_depart 41 = .ok (.aload_n 0, 1) := by decide +kernel
theorem dX6_depart_42 : decode cX6_depart 42 = .ok (.getfield 38, 3) := by decide +kernel
theorem dX6_depart_45 : decode cX6_depart 45 = .ok (.aload_n 1, 1) := by decide +kernel
theorem dX6_depart_46 : decode cX6_depart 46 = .ok (.getfield 165, 3) := by decide +kernel
theorem dX6_depart_49 : decode cX6_depart 49 = .ok (.if_icmp .ne 8, 3) := by decide +kernel
theorem dX6_depart_52 : decode cX6_depart 52 = .ok (.aload_n 0, 1) := by decide +kernel
theorem dX6_depart_53 : decode cX6_depart 53 = .ok (.iconst (-1), 1) := by decide +kernel
theorem dX6_depart_54 : decode cX6_depart 54 = .ok (.putfield 38, 3) := by decide +kernel
theorem dX6_depart_57 : decode cX6_depart 57 = .ok (.return_, 1) := by decide +kernel
theorem dX6_weighAnew_0 : decode cX6_weighAnew 0 = .ok (.aload_n 1, 1) := by decide +kernel
theorem dX6_weighAnew_1 : decode cX6_weighAnew 1 = .ok (.invokevirtual 111, 3) := by decide +kernel
theorem dX6_weighAnew_4 : decode cX6_weighAnew 4 = .ok (.ifCond .eq 62, 3) := by decide +kernel
theorem dX6_weighAnew_7 : decode cX6_weighAnew 7 = .ok (.aload_n 0, 1) := by decide +kernel
theorem dX6_weighAnew_8 : decode cX6_weighAnew 8 = .ok (.invokevirtual 86, 3) := by decide +kernel
theorem dX6_weighAnew_11 : decode cX6_weighAnew 11 = .ok (.istore_n 3, 1) := by decide +kernel
theorem dX6_weighAnew_12 : decode cX6_weighAnew 12 = .ok (.aload_n 0, 1) := by decide +kernel
theorem dX6_weighAnew_13 : decode cX6_weighAnew 13 = .ok (.getfield 27, 3) := by decide +kernel
theorem dX6_weighAnew_16 : decode cX6_weighAnew 16 = .ok (.iload_n 2, 1) := by decide +kernel
theorem dX6_weighAnew_17 : decode cX6_weighAnew 17 = .ok (.aload_n 1, 1) := by decide +kernel
theorem dX6_weighAnew_18 : decode cX6_weighAnew 18 = .ok (.getfield 72, 3) := by decide +kernel
theorem dX6_weighAnew_21 : decode cX6_weighAnew 21 = .ok (.isub, 1) := by decide +kernel
theorem dX6_weighAnew_22 : decode cX6_weighAnew 22 = .ok (.i2l, 1) := by decide +kernel
theorem dX6_weighAnew_23 : decode cX6_weighAnew 23 = .ok (.invokevirtual 101, 3) := by decide +kernel
theorem dX6_weighAnew_26 : decode cX6_weighAnew 26 = .ok (.aload_n 0, 1) := by decide +kernel
theorem dX6_weighAnew_27 : decode cX6_weighAnew 27 = .ok (.getfield 27, 3) := by decide +kernel
theorem dX6_weighAnew_30 : decode cX6_weighAnew 30 = .ok (.aload_n 1, 1) := by decide +kernel
theorem dX6_weighAnew_31 : decode cX6_weighAnew 31 = .ok (.getfield 72, 3) := by decide +kernel
theorem dX6_weighAnew_34 : decode cX6_weighAnew 34 = .ok (.iload_n 3, 1) := by decide +kernel
theorem dX6_weighAnew_35 : decode cX6_weighAnew 35 = .ok (.imul, 1) := by decide +kernel
theorem dX6_weighAnew_36 : decode cX6_weighAnew 36 = .ok (.i2l, 1) := by decide +kernel
theorem dX6_weighAnew_37 : decode cX6_weighAnew 37 = .ok (.aload_n 1, 1) := by decide +kernel
theorem dX6_weighAnew_38 : decode cX6_weighAnew 38 = .ok (.getfield 79, 3) := by decide +kernel
theorem dX6_weighAnew_41 : decode cX6_weighAnew 41 = .ok (.invokevirtual 82, 3) := by decide +kernel
theorem dX6_weighAnew_44 : decode cX6_weighAnew 44 = .ok (.aload_n 0, 1) := by decide +kernel
theorem dX6_weighAnew_45 : decode cX6_weighAnew 45 = .ok (.getfield 27, 3) := by decide +kernel
theorem dX6_weighAnew_48 : decode cX6_weighAnew 48 = .ok (.iload_n 3, 1) := by decide +kernel
theorem dX6_weighAnew_49 : decode cX6_weighAnew 49 = .ok (.iload_n 2, 1) := by decide +kernel
theorem dX6_weighAnew_50 : decode cX6_weighAnew 50 = .ok (.imul, 1) := by decide +kernel
theorem dX6_weighAnew_51 : decode cX6_weighAnew 51 = .ok (.i2l, 1) := by decide +kernel
theorem dX6_weighAnew_52 : decode cX6_weighAnew 52 = .ok (.invokevirtual 90, 3) := by decide +kernel
theorem dX6_weighAnew_55 : decode cX6_weighAnew 55 = .ok (.aload_n 1, 1) := by decide +kernel
theorem dX6_weighAnew_56 : decode cX6_weighAnew 56 = .ok (.aload_n 0, 1) := by decide +kernel
theorem dX6_weighAnew_57 : decode cX6_weighAnew 57 = .ok (.getfield 27, 3) := by decide +kernel
theorem dX6_weighAnew_60 : decode cX6_weighAnew 60 = .ok (.invokevirtual 93, 3) := by decide +kernel
theorem dX6_weighAnew_63 : decode cX6_weighAnew 63 = .ok (.putfield 79, 3) := by decide +kernel
theorem dX6_weighAnew_66 : decode cX6_weighAnew 66 = .ok (.aload_n 1, 1) := by decide +kernel
theorem dX6_weighAnew_67 : decode cX6_weighAnew 67 = .ok (.iload_n 2, 1) := by decide +kernel
theorem dX6_weighAnew_68 : decode cX6_weighAnew 68 = .ok (.putfield 72, 3) := by decide +kernel
theorem dX6_weighAnew_71 : decode cX6_weighAnew 71 = .ok (.return_, 1) := by decide +kernel
theorem dX6_giveUpRequest_0 : decode cX6_giveUpRequest 0 = .ok (.aload_n 1, 1) := by decide +kernel
theorem dX6_giveUpRequest_1 : decode cX6_giveUpRequest 1 = .ok (.aload_n 1, 1) := by decide +kernel
theorem dX6_giveUpRequest_2 : decode cX6_giveUpRequest 2 = .ok (.invokevirtual 168, 3) := by decide +kernel
theorem dX6_giveUpRequest_5 : decode cX6_giveUpRequest 5 = .ok (.putfield 79, 3) := by decide +kernel
theorem dX6_giveUpRequest_8 : decode cX6_giveUpRequest 8 = .ok (.aload_n 1, 1) := by decide +kernel
theorem dX6_giveUpRequest_9 : decode cX6_giveUpRequest 9 = .ok (.aload_n 1, 1) := by decide +kernel
theorem dX6_giveUpRequest_10 : decode cX6_giveUpRequest 10 = .ok (.getfield 153, 3) := by decide +kernel
theorem dX6_giveUpRequest_13 : decode cX6_giveUpRequest 13 = .ok (.putfield 156, 3) := by decide +kernel
theorem dX6_giveUpRequest_16 : decode cX6_giveUpRequest 16 = .ok (.aload_n 0, 1) := by decide +kernel
theorem dX6_giveUpRequest_17 : decode cX6_giveUpRequest 17 = .ok (.getfield 38, 3) := by decide +kernel
theorem dX6_giveUpRequest_20 : decode cX6_giveUpRequest 20 = .ok (.aload_n 1, 1) := by decide +kernel
theorem dX6_giveUpRequest_21 : decode cX6_giveUpRequest 21 = .ok (.getfield 165, 3) := by decide +kernel
theorem dX6_giveUpRequest_24 : decode cX6_giveUpRequest 24 = .ok (.if_icmp .ne 8, 3) := by decide +kernel
theorem dX6_giveUpRequest_27 : decode cX6_giveUpRequest 27 = .ok (.aload_n 0, 1) := by decide +kernel
theorem dX6_giveUpRequest_28 : decode cX6_giveUpRequest 28 = .ok (.iconst (-1), 1) := by decide +kernel
theorem dX6_giveUpRequest_29 : decode cX6_giveUpRequest 29 = .ok (.putfield 38, 3) := by decide +kernel
theorem dX6_giveUpRequest_32 : decode cX6_giveUpRequest 32 = .ok (.return_, 1) := by decide +kernel
theorem dX6_sliceToBeServedIn_0 : decode cX6_sliceToBeServedIn 0 = .ok (.aload_n 0, 1) := by decide +kernel
theorem dX6_sliceToBeServedIn_1 : decode cX6_sliceToBeServedIn 1 = .ok (.invokevirtual 108, 3) := by decide +kernel
theorem dX6_sliceToBeServedIn_4 : decode cX6_sliceToBeServedIn 4 = .ok (.aload_n 1, 1) := by decide +kernel
theorem dX6_sliceToBeServedIn_5 : decode cX6_sliceToBeServedIn 5 = .ok (.invokevirtual 111, 3) := by decide +kernel
theorem dX6_sliceToBeServedIn_8 : decode cX6_sliceToBeServedIn 8 = .ok (.ifCond .eq 7, 3) := by decide +kernel
theorem dX6_sliceToBeServedIn_11 : decode cX6_sliceToBeServedIn 11 = .ok (.iconst 0, 1) := by decide +kernel
theorem dX6_sliceToBeServedIn_12 : decode cX6_sliceToBeServedIn 12 = .ok (.goto 7, 3) := by decide +kernel
theorem dX6_sliceToBeServedIn_15 : decode cX6_sliceToBeServedIn 15 = .ok (.aload_n 1, 1) := by decide +kernel
theorem dX6_sliceToBeServedIn_16 : decode cX6_sliceToBeServedIn 16 = .ok (.getfield 72, 3) := by decide +kernel
theorem dX6_sliceToBeServedIn_19 : decode cX6_sliceToBeServedIn 19 = .ok (.iadd, 1) := by decide +kernel
theorem dX6_sliceToBeServedIn_20 : decode cX6_sliceToBeServedIn 20 = .ok (.istore_n 3, 1) := by decide +kernel
theorem dX6_sliceToBeServedIn_21 : decode cX6_sliceToBeServedIn 21 = .ok (.iload_n 3, 1) := by decide +kernel
theorem dX6_sliceToBeServedIn_22 : decode cX6_sliceToBeServedIn 22 = .ok (.ifCond .le 14, 3) := by decide +kernel
theorem dX6_sliceToBeServedIn_25 : decode cX6_sliceToBeServedIn 25 = .ok (.iload_n 2, 1) := by decide +kernel
theorem dX6_sliceToBeServedIn_26 : decode cX6_sliceToBeServedIn 26 = .ok (.aload_n 1, 1) := by decide +kernel
theorem dX6_sliceToBeServedIn_27 : decode cX6_sliceToBeServedIn 27 = .ok (.getfield 72, 3) := by decide +kernel
theorem dX6_sliceToBeServedIn_30 : decode cX6_sliceToBeServedIn 30 = .ok (.imul, 1) := by decide +kernel
theorem dX6_sliceToBeServedIn_31 : decode cX6_sliceToBeServedIn 31 = .ok (.iload_n 3, 1) := by decide +kernel
theorem dX6_sliceToBeServedIn_32 : decode cX6_sliceToBeServedIn 32 = .ok (.idiv, 1) := by decide +kernel
theorem dX6_sliceToBeServedIn_33 : decode cX6_sliceToBeServedIn 33 = .ok (.goto 4, 3) := by decide +kernel
theorem dX6_sliceToBeServedIn_36 : decode cX6_sliceToBeServedIn 36 = .ok (.iconst 1, 1) := by decide +kernel
theorem dX6_sliceToBeServedIn_37 : decode cX6_sliceToBeServedIn 37 = .ok (.istore 4, 2) := by decide +kernel
theorem dX6_sliceToBeServedIn_39 : decode cX6_sliceToBeServedIn 39 = .ok (.iconst 1, 1) := by decide +kernel
theorem dX6_sliceToBeServedIn_40 : decode cX6_sliceToBeServedIn 40 = .ok (.bipush 20, 2) := by decide +kernel
theorem dX6_sliceToBeServedIn_42 : decode cX6_sliceToBeServedIn 42 = .ok (.iload 4, 2) := by decide +kernel
theorem dX6_sliceToBeServedIn_44 : decode cX6_sliceToBeServedIn 44 = .ok (.invokestatic 171, 3) := by decide +kernel
theorem dX6_sliceToBeServedIn_47 : decode cX6_sliceToBeServedIn 47 = .ok (.invokestatic 174, 3) := by decide +kernel
theorem dX6_sliceToBeServedIn_50 : decode cX6_sliceToBeServedIn 50 = .ok (.ireturn, 1) := by decide +kernel
theorem dX6_eligibleBits_0 : decode cX6_eligibleBits 0 = .ok (.aload_n 0, 1) := by decide +kernel
theorem dX6_eligibleBits_1 : decode cX6_eligibleBits 1 = .ok (.invokevirtual 176, 3) := by decide +kernel
theorem dX6_eligibleBits_4 : decode cX6_eligibleBits 4 = .ok (.lstore_n 1, 1) := by decide +kernel
theorem dX6_eligibleBits_5 : decode cX6_eligibleBits 5 = .ok (.iconst 0, 1) := by decide +kernel
theorem dX6_eligibleBits_6 : decode cX6_eligibleBits 6 = .ok (.istore_n 3, 1) := by decide +kernel
theorem dX6_eligibleBits_7 : decode cX6_eligibleBits 7 = .ok (.iconst 0, 1) := by decide +kernel
theorem dX6_eligibleBits_8 : decode cX6_eligibleBits 8 = .ok (.istore 4, 2) := by decide +kernel
theorem dX6_eligibleBits_10 : decode cX6_eligibleBits 10 = .ok (.iload 4, 2) := by decide +kernel
theorem dX6_eligibleBits_12 : decode cX6_eligibleBits 12 = .ok (.aload_n 0, 1) := by decide +kernel
theorem dX6_eligibleBits_13 : decode cX6_eligibleBits 13 = .ok (.getfield 48, 3) := by decide +kernel
theorem dX6_eligibleBits_16 : decode cX6_eligibleBits 16 = .ok (.if_icmp .ge 44, 3) := by decide +kernel
theorem dX6_eligibleBits_19 : decode cX6_eligibleBits 19 = .ok (.aload_n 0, 1) := by decide +kernel
theorem dX6_eligibleBits_20 : decode cX6_eligibleBits 20 = .ok (.getfield 11, 3) := by decide +kernel
theorem dX6_eligibleBits_23 : decode cX6_eligibleBits 23 = .ok (.iload 4, 2) := by decide +kernel
theorem dX6_eligibleBits_25 : decode cX6_eligibleBits 25 = .ok (.aaload, 1) := by decide +kernel
theorem dX6_eligibleBits_26 : decode cX6_eligibleBits 26 = .ok (.invokevirtual 111, 3) := by decide +kernel
theorem dX6_eligibleBits_29 : decode cX6_eligibleBits 29 = .ok (.ifCond .eq 25, 3) := by decide +kernel
theorem dX6_eligibleBits_32 : decode cX6_eligibleBits 32 = .ok (.aload_n 0, 1) := by decide +kernel
theorem dX6_eligibleBits_33 : decode cX6_eligibleBits 33 = .ok (.getfield 11, 3) := by decide +kernel
theorem dX6_eligibleBits_36 : decode cX6_eligibleBits 36 = .ok (.iload 4, 2) := by decide +kernel
theorem dX6_eligibleBits_38 : decode cX6_eligibleBits 38 = .ok (.aaload, 1) := by decide +kernel
theorem dX6_eligibleBits_39 : decode cX6_eligibleBits 39 = .ok (.getfield 79, 3) := by decide +kernel
theorem dX6_eligibleBits_42 : decode cX6_eligibleBits 42 = .ok (.lload_n 1, 1) := by decide +kernel
theorem dX6_eligibleBits_43 : decode cX6_eligibleBits 43 = .ok (.lcmp, 1) := by decide +kernel
theorem dX6_eligibleBits_44 : decode cX6_eligibleBits 44 = .ok (.ifCond .gt 10, 3) := by decide +kernel
theorem dX6_eligibleBits_47 : decode cX6_eligibleBits 47 = .ok (.iload_n 3, 1) := by decide +kernel
theorem dX6_eligibleBits_48 : decode cX6_eligibleBits 48 = .ok (.iconst 1, 1) := by decide +kernel
theorem dX6_eligibleBits_49 : decode cX6_eligibleBits 49 = .ok (.iload 4, 2) := by decide +kernel
theorem dX6_eligibleBits_51 : decode cX6_eligibleBits 51 = .ok (.ishl, 1) := by decide +kernel
theorem dX6_eligibleBits_52 : decode cX6_eligibleBits 52 = .ok (.ior, 1) := by decide +kernel
theorem dX6_eligibleBits_53 : decode cX6_eligibleBits 53 = .ok (.istore_n 3, 1) := by decide +kernel
theorem dX6_eligibleBits_54 : decode cX6_eligibleBits 54 = .ok (.iinc 4 1, 3) := by decide +kernel
theorem dX6_eligibleBits_57 : decode cX6_eligibleBits 57 = .ok (.goto (-47), 3) := by decide +kernel
theorem dX6_eligibleBits_60 : decode cX6_eligibleBits 60 = .ok (.iload_n 3, 1) := by decide +kernel
theorem dX6_eligibleBits_61 : decode cX6_eligibleBits 61 = .ok (.ireturn, 1) := by decide +kernel
theorem dX6_eligibleAt_0 : decode cX6_eligibleAt 0 = .ok (.aload_n 0, 1) := by decide +kernel
theorem dX6_eligibleAt_1 : decode cX6_eligibleAt 1 = .ok (.invokevirtual 179, 3) := by decide +kernel
theorem dX6_eligibleAt_4 : decode cX6_eligibleAt 4 = .ok (.istore_n 2, 1) := by decide +kernel
theorem dX6_eligibleAt_5 : decode cX6_eligibleAt 5 = .ok (.iconst 0, 1) := by decide +kernel
theorem dX6_eligibleAt_6 : decode cX6_eligibleAt 6 = .ok (.istore_n 3, 1) := by decide +kernel
theorem dX6_eligibleAt_7 : decode cX6_eligibleAt 7 = .ok (.iload_n 3, 1) := by decide +kernel
theorem dX6_eligibleAt_8 : decode cX6_eligibleAt 8 = .ok (.aload_n 0, 1) := by decide +kernel
theorem dX6_eligibleAt_9 : decode cX6_eligibleAt 9 = .ok (.getfield 48, 3) := by decide +kernel
theorem dX6_eligibleAt_12 : decode cX6_eligibleAt 12 = .ok (.if_icmp .ge 35, 3) := by decide +kernel
theorem dX6_eligibleAt_15 : decode cX6_eligibleAt 15 = .ok (.iload_n 2, 1) := by decide +kernel
theorem dX6_eligibleAt_16 : decode cX6_eligibleAt 16 = .ok (.iload_n 3, 1) := by decide +kernel
theorem dX6_eligibleAt_17 : decode cX6_eligibleAt 17 = .ok (.ishr, 1) := by decide +kernel
theorem dX6_eligibleAt_18 : decode cX6_eligibleAt 18 = .ok (.iconst 1, 1) := by decide +kernel
theorem dX6_eligibleAt_19 : decode cX6_eligibleAt 19 = .ok (.iand, 1) := by decide +kernel
theorem dX6_eligibleAt_20 : decode cX6_eligibleAt 20 = .ok (.iconst 1, 1) := by decide +kernel
theorem dX6_eligibleAt_21 : decode cX6_eligibleAt 21 = .ok (.if_icmp .ne 20, 3) := by decide +kernel
theorem dX6_eligibleAt_24 : decode cX6_eligibleAt 24 = .ok (.aload_n 0, 1) := by decide +kernel
theorem dX6_eligibleAt_25 : decode cX6_eligibleAt 25 = .ok (.aload_n 0, 1) := by decide +kernel
theorem dX6_eligibleAt_26 : decode cX6_eligibleAt 26 = .ok (.getfield 11, 3) := by decide +kernel
theorem dX6_eligibleAt_29 : decode cX6_eligibleAt 29 = .ok (.iload_n 3, 1) := by decide +kernel
theorem dX6_eligibleAt_30 : decode cX6_eligibleAt 30 = .ok (.aaload, 1) := by decide +kernel
theorem dX6_eligibleAt_31 : decode cX6_eligibleAt 31 = .ok (.iload_n 2, 1) := by decide +kernel
theorem dX6_eligibleAt_32 : decode cX6_eligibleAt 32 = .ok (.invokevirtual 182, 3) := by decide +kernel
theorem dX6_eligibleAt_35 : decode cX6_eligibleAt 35 = .ok (.iload_n 1, 1) := by decide +kernel
theorem dX6_eligibleAt_36 : decode cX6_eligibleAt 36 = .ok (.if_icmp .ne 5, 3) := by decide +kernel
theorem dX6_eligibleAt_39 : decode cX6_eligibleAt 39 = .ok (.iload_n 3, 1) := by decide +kernel
theorem dX6_eligibleAt_40 : decode cX6_eligibleAt 40 = .ok (.ireturn, 1) := by decide +kernel
theorem dX6_eligibleAt_41 : decode cX6_eligibleAt 41 = .ok (.iinc 3 1, 3) := by decide +kernel
theorem dX6_eligibleAt_44 : decode cX6_eligibleAt 44 = .ok (.goto (-37), 3) := by decide +kernel
theorem dX6_eligibleAt_47 : decode cX6_eligibleAt 47 = .ok (.iconst (-1), 1) := by decide +kernel
theorem dX6_eligibleAt_48 : decode cX6_eligibleAt 48 = .ok (.ireturn, 1) := by decide +kernel
theorem dX6_howManyEarlier_0 : decode cX6_howManyEarlier 0 = .ok (.iconst 0, 1) := by decide +kernel
theorem dX6_howManyEarlier_1 : decode cX6_howManyEarlier 1 = .ok (.istore_n 3, 1) := by decide +kernel
theorem dX6_howManyEarlier_2 : decode cX6_howManyEarlier 2 = .ok (.iconst 0, 1) := by decide +kernel
theorem dX6_howManyEarlier_3 : decode cX6_howManyEarlier 3 = .ok (.istore 4, 2) := by decide +kernel
theorem dX6_howManyEarlier_5 : decode cX6_howManyEarlier 5 = .ok (.iload 4, 2) := by decide +kernel
theorem dX6_howManyEarlier_7 : decode cX6_howManyEarlier 7 = .ok (.aload_n 0, 1) := by decide +kernel
theorem dX6_howManyEarlier_8 : decode cX6_howManyEarlier 8 = .ok (.getfield 48, 3) := by decide +kernel
theorem dX6_howManyEarlier_11 : decode cX6_howManyEarlier 11 = .ok (.if_icmp .ge 36, 3) := by decide +kernel
theorem dX6_howManyEarlier_14 : decode cX6_howManyEarlier 14 = .ok (.iload_n 2, 1) := by decide +kernel
theorem dX6_howManyEarlier_15 : decode cX6_howManyEarlier 15 = .ok (.iload 4, 2) := by decide +kernel
theorem dX6_howManyEarlier_17 : decode cX6_howManyEarlier 17 = .ok (.ishr, 1) := by decide +kernel
theorem dX6_howManyEarlier_18 : decode cX6_howManyEarlier 18 = .ok (.iconst 1, 1) := by decide +kernel
theorem dX6_howManyEarlier_19 : decode cX6_howManyEarlier 19 = .ok (.iand, 1) := by decide +kernel
theorem dX6_howManyEarlier_20 : decode cX6_howManyEarlier 20 = .ok (.iconst 1, 1) := by decide +kernel
theorem dX6_howManyEarlier_21 : decode cX6_howManyEarlier 21 = .ok (.if_icmp .ne 20, 3) := by decide +kernel
theorem dX6_howManyEarlier_24 : decode cX6_howManyEarlier 24 = .ok (.aload_n 0, 1) := by decide +kernel
theorem dX6_howManyEarlier_25 : decode cX6_howManyEarlier 25 = .ok (.getfield 11, 3) := by decide +kernel
theorem dX6_howManyEarlier_28 : decode cX6_howManyEarlier 28 = .ok (.iload 4, 2) := by decide +kernel
theorem dX6_howManyEarlier_30 : decode cX6_howManyEarlier 30 = .ok (.aaload, 1) := by decide +kernel
theorem dX6_howManyEarlier_31 : decode cX6_howManyEarlier 31 = .ok (.aload_n 1, 1) := by decide +kernel
theorem dX6_howManyEarlier_32 : decode cX6_howManyEarlier 32 = .ok (.invokevirtual 186, 3) := by decide +kernel
theorem dX6_howManyEarlier_35 : decode cX6_howManyEarlier 35 = .ok (.ifCond .eq 6, 3) := by decide +kernel
theorem dX6_howManyEarlier_38 : decode cX6_howManyEarlier 38 = .ok (.iinc 3 1, 3) := by decide +kernel
theorem dX6_howManyEarlier_41 : decode cX6_howManyEarlier 41 = .ok (.iinc 4 1, 3) := by decide +kernel
theorem dX6_howManyEarlier_44 : decode cX6_howManyEarlier 44 = .ok (.goto (-39), 3) := by decide +kernel
theorem dX6_howManyEarlier_47 : decode cX6_howManyEarlier 47 = .ok (.iload_n 3, 1) := by decide +kernel
theorem dX6_howManyEarlier_48 : decode cX6_howManyEarlier 48 = .ok (.ireturn, 1) := by decide +kernel
theorem dX6_howManyBefore_0 : decode cX6_howManyBefore 0 = .ok (.iconst 0, 1) := by decide +kernel
theorem dX6_howManyBefore_1 : decode cX6_howManyBefore 1 = .ok (.istore_n 2, 1) := by decide +kernel
theorem dX6_howManyBefore_2 : decode cX6_howManyBefore 2 = .ok (.iconst 0, 1) := by decide +kernel
theorem dX6_howManyBefore_3 : decode cX6_howManyBefore 3 = .ok (.istore_n 3, 1) := by decide +kernel
theorem dX6_howManyBefore_4 : decode cX6_howManyBefore 4 = .ok (.iload_n 3, 1) := by decide +kernel
theorem dX6_howManyBefore_5 : decode cX6_howManyBefore 5 = .ok (.aload_n 0, 1) := by decide +kernel
theorem dX6_howManyBefore_6 : decode cX6_howManyBefore 6 = .ok (.getfield 48, 3) := by decide +kernel
theorem dX6_howManyBefore_9 : decode cX6_howManyBefore 9 = .ok (.if_icmp .ge 62, 3) := by decide +kernel
theorem dX6_howManyBefore_12 : decode cX6_howManyBefore 12 = .ok (.aload_n 0, 1) := by decide +kernel
theorem dX6_howManyBefore_13 : decode cX6_howManyBefore 13 = .ok (.getfield 11, 3) := by decide +kernel
theorem dX6_howManyBefore_16 : decode cX6_howManyBefore 16 = .ok (.iload_n 3, 1) := by decide +kernel
theorem dX6_howManyBefore_17 : decode cX6_howManyBefore 17 = .ok (.aaload, 1) := by decide +kernel
theorem dX6_howManyBefore_18 : decode cX6_howManyBefore 18 = .ok (.astore 4, 2) := by decide +kernel
theorem dX6_howManyBefore_20 : decode cX6_howManyBefore 20 = .ok (.aload 4, 2) := by decide +kernel
theorem dX6_howManyBefore_22 : decode cX6_howManyBefore 22 = .ok (.invokevirtual 111, 3) := by decide +kernel
theorem dX6_howManyBefore_25 : decode cX6_howManyBefore 25 = .ok (.ifCond .eq 40, 3) := by decide +kernel
theorem dX6_howManyBefore_28 : decode cX6_howManyBefore 28 = .ok (.aload 4, 2) := by decide +kernel
theorem dX6_howManyBefore_30 : decode cX6_howManyBefore 30 = .ok (.getfield 79, 3) := by decide +kernel
theorem dX6_howManyBefore_33 : decode cX6_howManyBefore 33 = .ok (.aload_n 1, 1) := by decide +kernel
theorem dX6_howManyBefore_34 : decode cX6_howManyBefore 34 = .ok (.getfield 79, 3) := by decide +kernel
theorem dX6_howManyBefore_37 : decode cX6_howManyBefore 37 = .ok (.lcmp, 1) := by decide +kernel
theorem dX6_howManyBefore_38 : decode cX6_howManyBefore 38 = .ok (.ifCond .lt 24, 3) := by decide +kernel
theorem dX6_howManyBefore_41 : decode cX6_howManyBefore 41 = .ok (.aload 4, 2) := by decide +kernel
theorem dX6_howManyBefore_43 : decode cX6_howManyBefore 43 = .ok (.getfield 79, 3) := by decide +kernel
theorem dX6_howManyBefore_46 : decode cX6_howManyBefore 46 = .ok (.aload_n 1, 1) := by decide +kernel
theorem dX6_howManyBefore_47 : decode cX6_howManyBefore 47 = .ok (.getfield 79, 3) := by decide +kernel
theorem dX6_howManyBefore_50 : decode cX6_howManyBefore 50 = .ok (.lcmp, 1) := by decide +kernel
theorem dX6_howManyBefore_51 : decode cX6_howManyBefore 51 = .ok (.ifCond .ne 14, 3) := by decide +kernel
theorem dX6_howManyBefore_54 : decode cX6_howManyBefore 54 = .ok (.iload_n 3, 1) := by decide +kernel
theorem dX6_howManyBefore_55 : decode cX6_howManyBefore 55 = .ok (.aload_n 1, 1) := by decide +kernel
theorem dX6_howManyBefore_56 : decode cX6_howManyBefore 56 = .ok (.getfield 165, 3) := by decide +kernel
theorem dX6_howManyBefore_59 : decode cX6_howManyBefore 59 = .ok (.if_icmp .ge 6, 3) := by decide +kernel
theorem dX6_howManyBefore_62 : decode cX6_howManyBefore 62 = .ok (.iinc 2 1, 3) := by decide +kernel
theorem dX6_howManyBefore_65 : decode cX6_howManyBefore 65 = .ok (.iinc 3 1, 3) := by decide +kernel
theorem dX6_howManyBefore_68 : decode cX6_howManyBefore 68 = .ok (.goto (-64), 3) := by decide +kernel
theorem dX6_howManyBefore_71 : decode cX6_howManyBefore 71 = .ok (.iload_n 2, 1) := by decide +kernel
theorem dX6_howManyBefore_72 : decode cX6_howManyBefore 72 = .ok (.ireturn, 1) := by decide +kernel
theorem dX6_firstDeadline_0 : decode cX6_firstDeadline 0 = .ok (.iload_n 1, 1) := by decide +kernel
theorem dX6_firstDeadline_1 : decode cX6_firstDeadline 1 = .ok (.ifCond .eq 10, 3) := by decide +kernel
theorem dX6_firstDeadline_4 : decode cX6_firstDeadline 4 = .ok (.aload_n 0, 1) := by decide +kernel
theorem dX6_firstDeadline_5 : decode cX6_firstDeadline 5 = .ok (.invokevirtual 176, 3) := by decide +kernel
theorem dX6_firstDeadline_8 : decode cX6_firstDeadline 8 = .ok (.goto 6, 3) := by decide +kernel
theorem dX6_firstDeadline_11 : decode cX6_firstDeadline 11 = .ok (.ldc2_w 192, 3) := by decide +kernel
theorem dX6_firstDeadline_14 : decode cX6_firstDeadline 14 = .ok (.lstore_n 2, 1) := by decide +kernel
theorem dX6_firstDeadline_15 : decode cX6_firstDeadline 15 = .ok (.iconst (-1), 1) := by decide +kernel
theorem dX6_firstDeadline_16 : decode cX6_firstDeadline 16 = .ok (.istore 4, 2) := by decide +kernel
theorem dX6_firstDeadline_18 : decode cX6_firstDeadline 18 = .ok (.iconst 0, 1) := by decide +kernel
theorem dX6_firstDeadline_19 : decode cX6_firstDeadline 19 = .ok (.istore 5, 2) := by decide +kernel
theorem dX6_firstDeadline_21 : decode cX6_firstDeadline 21 = .ok (.iload 5, 2) := by decide +kernel
theorem dX6_firstDeadline_23 : decode cX6_firstDeadline 23 = .ok (.aload_n 0, 1) := by decide +kernel
theorem dX6_firstDeadline_24 : decode cX6_firstDeadline 24 = .ok (.getfield 48, 3) := by decide +kernel
theorem dX6_firstDeadline_27 : decode cX6_firstDeadline 27 = .ok (.if_icmp .ge 64, 3) := by decide +kernel
theorem dX6_firstDeadline_30 : decode cX6_firstDeadline 30 = .ok (.aload_n 0, 1) := by decide +kernel
theorem dX6_firstDeadline_31 : decode cX6_firstDeadline 31 = .ok (.getfield 11, 3) := by decide +kernel
theorem dX6_firstDeadline_34 : decode cX6_firstDeadline 34 = .ok (.iload 5, 2) := by decide +kernel
theorem dX6_firstDeadline_36 : decode cX6_firstDeadline 36 = .ok (.aaload, 1) := by decide +kernel
theorem dX6_firstDeadline_37 : decode cX6_firstDeadline 37 = .ok (.astore 6, 2) := by decide +kernel
theorem dX6_firstDeadline_39 : decode cX6_firstDeadline 39 = .ok (.aload 6, 2) := by decide +kernel
theorem dX6_firstDeadline_41 : decode cX6_firstDeadline 41 = .ok (.invokevirtual 111, 3) := by decide +kernel
theorem dX6_firstDeadline_44 : decode cX6_firstDeadline 44 = .ok (.ifCond .eq 41, 3) := by decide +kernel
theorem dX6_firstDeadline_47 : decode cX6_firstDeadline 47 = .ok (.aload 6, 2) := by decide +kernel
theorem dX6_firstDeadline_49 : decode cX6_firstDeadline 49 = .ok (.getfield 79, 3) := by decide +kernel
theorem dX6_firstDeadline_52 : decode cX6_firstDeadline 52 = .ok (.lload_n 2, 1) := by decide +kernel
theorem dX6_firstDeadline_53 : decode cX6_firstDeadline 53 = .ok (.lcmp, 1) := by decide +kernel
theorem dX6_firstDeadline_54 : decode cX6_firstDeadline 54 = .ok (.ifCond .gt 31, 3) := by decide +kernel
theorem dX6_firstDeadline_57 : decode cX6_firstDeadline 57 = .ok (.aload_n 0, 1) := by decide +kernel
theorem dX6_firstDeadline_58 : decode cX6_firstDeadline 58 = .ok (.iload 4, 2) := by decide +kernel
theorem dX6_firstDeadline_60 : decode cX6_firstDeadline 60 = .ok (.invokevirtual 194, 3) := by decide +kernel
theorem dX6_firstDeadline_63 : decode cX6_firstDeadline 63 = .ok (.ifCond .eq 18, 3) := by decide +kernel
theorem dX6_firstDeadline_66 : decode cX6_firstDeadline 66 = .ok (.aload 6, 2) := by decide +kernel
theorem dX6_firstDeadline_68 : decode cX6_firstDeadline 68 = .ok (.aload_n 0, 1) := by decide +kernel
theorem dX6_firstDeadline_69 : decode cX6_firstDeadline 69 = .ok (.getfield 11, 3) := by decide +kernel
theorem dX6_firstDeadline_72 : decode cX6_firstDeadline 72 = .ok (.iload 4, 2) := by decide +kernel
theorem dX6_firstDeadline_74 : decode cX6_firstDeadline 74 = .ok (.aaload, 1) := by decide +kernel
theorem dX6_firstDeadline_75 : decode cX6_firstDeadline 75 = .ok (.invokevirtual 186, 3) := by decide +kernel
theorem dX6_firstDeadline_78 : decode cX6_firstDeadline 78 = .ok (.ifCond .eq 7, 3) := by decide +kernel
theorem dX6_firstDeadline_81 : decode cX6_firstDeadline 81 = .ok (.iload 5, 2) := by decide +kernel
theorem dX6_firstDeadline_83 : decode cX6_firstDeadline 83 = .ok (.istore 4, 2) := by decide +kernel
theorem dX6_firstDeadline_85 : decode cX6_firstDeadline 85 = .ok (.iinc 5 1, 3) := by decide +kernel
theorem dX6_firstDeadline_88 : decode cX6_firstDeadline 88 = .ok (.goto (-67), 3) := by decide +kernel
theorem dX6_firstDeadline_91 : decode cX6_firstDeadline 91 = .ok (.iload 4, 2) := by decide +kernel
theorem dX6_firstDeadline_93 : decode cX6_firstDeadline 93 = .ok (.ireturn, 1) := by decide +kernel
theorem dX6_leastV_0 : decode cX6_leastV 0 = .ok (.iconst (-1), 1) := by decide +kernel
theorem dX6_leastV_1 : decode cX6_leastV 1 = .ok (.istore_n 1, 1) := by decide +kernel
theorem dX6_leastV_2 : decode cX6_leastV 2 = .ok (.lconst 0, 1) := by decide +kernel
theorem dX6_leastV_3 : decode cX6_leastV 3 = .ok (.lstore_n 2, 1) := by decide +kernel
theorem dX6_leastV_4 : decode cX6_leastV 4 = .ok (.iconst 0, 1) := by decide +kernel
theorem dX6_leastV_5 : decode cX6_leastV 5 = .ok (.istore 4, 2) := by decide +kernel
theorem dX6_leastV_7 : decode cX6_leastV 7 = .ok (.iload 4, 2) := by decide +kernel
theorem dX6_leastV_9 : decode cX6_leastV 9 = .ok (.aload_n 0, 1) := by decide +kernel
theorem dX6_leastV_10 : decode cX6_leastV 10 = .ok (.getfield 48, 3) := by decide +kernel
theorem dX6_leastV_13 : decode cX6_leastV 13 = .ok (.if_icmp .ge 56, 3) := by decide +kernel
theorem dX6_leastV_16 : decode cX6_leastV 16 = .ok (.aload_n 0, 1) := by decide +kernel
theorem dX6_leastV_17 : decode cX6_leastV 17 = .ok (.getfield 11, 3) := by decide +kernel
theorem dX6_leastV_20 : decode cX6_leastV 20 = .ok (.iload 4, 2) := by decide +kernel
theorem dX6_leastV_22 : decode cX6_leastV 22 = .ok (.aaload, 1) := by decide +kernel
theorem dX6_leastV_23 : decode cX6_leastV 23 = .ok (.invokevirtual 111, 3) := by decide +kernel
theorem dX6_leastV_26 : decode cX6_leastV 26 = .ok (.ifCond .eq 37, 3) := by decide +kernel
theorem dX6_leastV_29 : decode cX6_leastV 29 = .ok (.iload_n 1, 1) := by decide +kernel
theorem dX6_leastV_30 : decode cX6_leastV 30 = .ok (.iconst (-1), 1) := by decide +kernel
theorem dX6_leastV_31 : decode cX6_leastV 31 = .ok (.if_icmp .eq 18, 3) := by decide +kernel
theorem dX6_leastV_34 : decode cX6_leastV 34 = .ok (.aload_n 0, 1) := by decide +kernel
theorem dX6_leastV_35 : decode cX6_leastV 35 = .ok (.getfield 11, 3) := by decide +kernel
theorem dX6_leastV_38 : decode cX6_leastV 38 = .ok (.iload 4, 2) := by decide +kernel
theorem dX6_leastV_40 : decode cX6_leastV 40 = .ok (.aaload, 1) := by decide +kernel
theorem dX6_leastV_41 : decode cX6_leastV 41 = .ok (.getfield 79, 3) := by decide +kernel
theorem dX6_leastV_44 : decode cX6_leastV 44 = .ok (.lload_n 2, 1) := by decide +kernel
theorem dX6_leastV_45 : decode cX6_leastV 45 = .ok (.lcmp, 1) := by decide +kernel
theorem dX6_leastV_46 : decode cX6_leastV 46 = .ok (.ifCond .ge 17, 3) := by decide +kernel
theorem dX6_leastV_49 : decode cX6_leastV 49 = .ok (.iload 4, 2) := by decide +kernel
theorem dX6_leastV_51 : decode cX6_leastV 51 = .ok (.istore_n 1, 1) := by decide +kernel
theorem dX6_leastV_52 : decode cX6_leastV 52 = .ok (.aload_n 0, 1) := by decide +kernel
theorem dX6_leastV_53 : decode cX6_leastV 53 = .ok (.getfield 11, 3) := by decide +kernel
theorem dX6_leastV_56 : decode cX6_leastV 56 = .ok (.iload 4, 2) := by decide +kernel
theorem dX6_leastV_58 : decode cX6_leastV 58 = .ok (.aaload, 1) := by decide +kernel
theorem dX6_leastV_59 : decode cX6_leastV 59 = .ok (.getfield 79, 3) := by decide +kernel
theorem dX6_leastV_62 : decode cX6_leastV 62 = .ok (.lstore_n 2, 1) := by decide +kernel
theorem dX6_leastV_63 : decode cX6_leastV 63 = .ok (.iinc 4 1, 3) := by decide +kernel
theorem dX6_leastV_66 : decode cX6_leastV 66 = .ok (.goto (-59), 3) := by decide +kernel
theorem dX6_leastV_69 : decode cX6_leastV 69 = .ok (.iload_n 1, 1) := by decide +kernel
theorem dX6_leastV_70 : decode cX6_leastV 70 = .ok (.ireturn, 1) := by decide +kernel
theorem dX6_nextInTurn_0 : decode cX6_nextInTurn 0 = .ok (.iconst 1, 1) := by decide +kernel
theorem dX6_nextInTurn_1 : decode cX6_nextInTurn 1 = .ok (.istore_n 1, 1) := by decide +kernel
theorem dX6_nextInTurn_2 : decode cX6_nextInTurn 2 = .ok (.iload_n 1, 1) := by decide +kernel
theorem dX6_nextInTurn_3 : decode cX6_nextInTurn 3 = .ok (.aload_n 0, 1) := by decide +kernel
theorem dX6_nextInTurn_4 : decode cX6_nextInTurn 4 = .ok (.getfield 48, 3) := by decide +kernel
theorem dX6_nextInTurn_7 : decode cX6_nextInTurn 7 = .ok (.if_icmp .gt 43, 3) := by decide +kernel
theorem dX6_nextInTurn_10 : decode cX6_nextInTurn 10 = .ok (.aload_n 0, 1) := by decide +kernel
theorem dX6_nextInTurn_11 : decode cX6_nextInTurn 11 = .ok (.getfield 34, 3) := by decide +kernel
theorem dX6_nextInTurn_14 : decode cX6_nextInTurn 14 = .ok (.iload_n 1, 1) := by decide +kernel
theorem dX6_nextInTurn_15 : decode cX6_nextInTurn 15 = .ok (.iadd, 1) := by decide +kernel
theorem dX6_nextInTurn_16 : decode cX6_nextInTurn 16 = .ok (.aload_n 0, 1) := by decide +kernel
theorem dX6_nextInTurn_17 : decode cX6_nextInTurn 17 = .ok (.getfield 48, 3) := by decide +kernel
theorem dX6_nextInTurn_20 : decode cX6_nextInTurn 20 = .ok (.irem, 1) := by decide +kernel
theorem dX6_nextInTurn_21 : decode cX6_nextInTurn 21 = .ok (.istore_n 2, 1) := by decide +kernel
theorem dX6_nextInTurn_22 : decode cX6_nextInTurn 22 = .ok (.aload_n 0, 1) := by decide +kernel
theorem dX6_nextInTurn_23 : decode cX6_nextInTurn 23 = .ok (.iload_n 2, 1) := by decide +kernel
theorem dX6_nextInTurn_24 : decode cX6_nextInTurn 24 = .ok (.invokevirtual 194, 3) := by decide +kernel
theorem dX6_nextInTurn_27 : decode cX6_nextInTurn 27 = .ok (.ifCond .eq 17, 3) := by decide +kernel
theorem dX6_nextInTurn_30 : decode cX6_nextInTurn 30 = .ok (.aload_n 0, 1) := by decide +kernel
theorem dX6_nextInTurn_31 : decode cX6_nextInTurn 31 = .ok (.getfield 11, 3) := by decide +kernel
theorem dX6_nextInTurn_34 : decode cX6_nextInTurn 34 = .ok (.iload_n 2, 1) := by decide +kernel
theorem dX6_nextInTurn_35 : decode cX6_nextInTurn 35 = .ok (.aaload, 1) := by decide +kernel
theorem dX6_nextInTurn_36 : decode cX6_nextInTurn 36 = .ok (.invokevirtual 111, 3) := by decide +kernel
theorem dX6_nextInTurn_39 : decode cX6_nextInTurn 39 = .ok (.ifCond .eq 5, 3) := by decide +kernel
theorem dX6_nextInTurn_42 : decode cX6_nextInTurn 42 = .ok (.iload_n 2, 1) := by decide +kernel
theorem dX6_nextInTurn_43 : decode cX6_nextInTurn 43 = .ok (.ireturn, 1) := by decide +kernel
theorem dX6_nextInTurn_44 : decode cX6_nextInTurn 44 = .ok (.iinc 1 1, 3) := by decide +kernel
theorem dX6_nextInTurn_47 : decode cX6_nextInTurn 47 = .ok (.goto (-45), 3) := by decide +kernel
theorem dX6_nextInTurn_50 : decode cX6_nextInTurn 50 = .ok (.iconst (-1), 1) := by decide +kernel
theorem dX6_nextInTurn_51 : decode cX6_nextInTurn 51 = .ok (.ireturn, 1) := by decide +kernel
theorem dX6_atWeight_0 : decode cX6_atWeight 0 = .ok (.iload_n 1, 1) := by decide +kernel
theorem dX6_atWeight_1 : decode cX6_atWeight 1 = .ok (.istore_n 2, 1) := by decide +kernel
theorem dX6_atWeight_2 : decode cX6_atWeight 2 = .ok (.iconst 0, 1) := by decide +kernel
theorem dX6_atWeight_3 : decode cX6_atWeight 3 = .ok (.istore_n 3, 1) := by decide +kernel
theorem dX6_atWeight_4 : decode cX6_atWeight 4 = .ok (.iload_n 3, 1) := by decide +kernel
theorem dX6_atWeight_5 : decode cX6_atWeight 5 = .ok (.aload_n 0, 1) := by decide +kernel
theorem dX6_atWeight_6 : decode cX6_atWeight 6 = .ok (.getfield 48, 3) := by decide +kernel
theorem dX6_atWeight_9 : decode cX6_atWeight 9 = .ok (.if_icmp .ge 39, 3) := by decide +kernel
theorem dX6_atWeight_12 : decode cX6_atWeight 12 = .ok (.aload_n 0, 1) := by decide +kernel
theorem dX6_atWeight_13 : decode cX6_atWeight 13 = .ok (.getfield 11, 3) := by decide +kernel
theorem dX6_atWeight_16 : decode cX6_atWeight 16 = .ok (.iload_n 3, 1) := by decide +kernel
theorem dX6_atWeight_17 : decode cX6_atWeight 17 = .ok (.aaload, 1) := by decide +kernel
theorem dX6_atWeight_18 : decode cX6_atWeight 18 = .ok (.invokevirtual 111, 3) := by decide +kernel
theorem dX6_atWeight_21 : decode cX6_atWeight 21 = .ok (.ifCond .eq 21, 3) := by decide +kernel
theorem dX6_atWeight_24 : decode cX6_atWeight 24 = .ok (.iload_n 2, 1) := by decide +kernel
theorem dX6_atWeight_25 : decode cX6_atWeight 25 = .ok (.aload_n 0, 1) := by decide +kernel
theorem dX6_atWeight_26 : decode cX6_atWeight 26 = .ok (.getfield 11, 3) := by decide +kernel
theorem dX6_atWeight_29 : decode cX6_atWeight 29 = .ok (.iload_n 3, 1) := by decide +kernel
theorem dX6_atWeight_30 : decode cX6_atWeight 30 = .ok (.aaload, 1) := by decide +kernel
theorem dX6_atWeight_31 : decode cX6_atWeight 31 = .ok (.getfield 72, 3) := by decide +kernel
theorem dX6_atWeight_34 : decode cX6_atWeight 34 = .ok (.isub, 1) := by decide +kernel
theorem dX6_atWeight_35 : decode cX6_atWeight 35 = .ok (.istore_n 2, 1) := by decide +kernel
theorem dX6_atWeight_36 : decode cX6_atWeight 36 = .ok (.iload_n 2, 1) := by decide +kernel
theorem dX6_atWeight_37 : decode cX6_atWeight 37 = .ok (.ifCond .ge 5, 3) := by decide +kernel
theorem dX6_atWeight_40 : decode cX6_atWeight 40 = .ok (.iload_n 3, 1) := by decide +kernel
theorem dX6_atWeight_41 : decode cX6_atWeight 41 = .ok (.ireturn, 1) := by decide +kernel
theorem dX6_atWeight_42 : decode cX6_atWeight 42 = .ok (.iinc 3 1, 3) := by decide +kernel
theorem dX6_atWeight_45 : decode cX6_atWeight 45 = .ok (.goto (-41), 3) := by decide +kernel
theorem dX6_atWeight_48 : decode cX6_atWeight 48 = .ok (.iconst (-1), 1) := by decide +kernel
theorem dX6_atWeight_49 : decode cX6_atWeight 49 = .ok (.ireturn, 1) := by decide +kernel
theorem dX6_tick_0 : decode cX6_tick 0 = .ok (.iconst 0, 1) := by decide +kernel
theorem dX6_tick_1 : decode cX6_tick 1 = .ok (.istore_n 2, 1) := by decide +kernel
theorem dX6_tick_2 : decode cX6_tick 2 = .ok (.iload_n 2, 1) := by decide +kernel
theorem dX6_tick_3 : decode cX6_tick 3 = .ok (.aload_n 0, 1) := by decide +kernel
theorem dX6_tick_4 : decode cX6_tick 4 = .ok (.getfield 48, 3) := by decide +kernel
theorem dX6_tick_7 : decode cX6_tick 7 = .ok (.if_icmp .ge 22, 3) := by decide +kernel
theorem dX6_tick_10 : decode cX6_tick 10 = .ok (.aload_n 0, 1) := by decide +kernel
theorem dX6_tick_11 : decode cX6_tick 11 = .ok (.getfield 11, 3) := by decide +kernel
theorem dX6_tick_14 : decode cX6_tick 14 = .ok (.iload_n 2, 1) := by decide +kernel
theorem dX6_tick_15 : decode cX6_tick 15 = .ok (.aaload, 1) := by decide +kernel
theorem dX6_tick_16 : decode cX6_tick 16 = .ok (.aload_n 0, 1) := by decide +kernel
theorem dX6_tick_17 : decode cX6_tick 17 = .ok (.getfield 58, 3) := by decide +kernel
theorem dX6_tick_20 : decode cX6_tick 20 = .ok (.invokevirtual 198, 3) := by decide +kernel
theorem dX6_tick_23 : decode cX6_tick 23 = .ok (.iinc 2 1, 3) := by decide +kernel
theorem dX6_tick_26 : decode cX6_tick 26 = .ok (.goto (-24), 3) := by decide +kernel
theorem dX6_tick_29 : decode cX6_tick 29 = .ok (.iconst 0, 1) := by decide +kernel
theorem dX6_tick_30 : decode cX6_tick 30 = .ok (.istore_n 2, 1) := by decide +kernel
theorem dX6_tick_31 : decode cX6_tick 31 = .ok (.iload_n 2, 1) := by decide +kernel
theorem dX6_tick_32 : decode cX6_tick 32 = .ok (.aload_n 0, 1) := by decide +kernel
theorem dX6_tick_33 : decode cX6_tick 33 = .ok (.getfield 48, 3) := by decide +kernel
theorem dX6_tick_36 : decode cX6_tick 36 = .ok (.if_icmp .ge 19, 3) := by decide +kernel
theorem dX6_tick_39 : decode cX6_tick 39 = .ok (.aload_n 0, 1) := by decide +kernel
theorem dX6_tick_40 : decode cX6_tick 40 = .ok (.aload_n 0, 1) := by decide +kernel
theorem dX6_tick_41 : decode cX6_tick 41 = .ok (.getfield 11, 3) := by decide +kernel
theorem dX6_tick_44 : decode cX6_tick 44 = .ok (.iload_n 2, 1) := by decide +kernel
theorem dX6_tick_45 : decode cX6_tick 45 = .ok (.aaload, 1) := by decide +kernel
theorem dX6_tick_46 : decode cX6_tick 46 = .ok (.invokevirtual 201, 3) := by decide +kernel
theorem dX6_tick_49 : decode cX6_tick 49 = .ok (.iinc 2 1, 3) := by decide +kernel
theorem dX6_tick_52 : decode cX6_tick 52 = .ok (.goto (-21), 3) := by decide +kernel
theorem dX6_tick_55 : decode cX6_tick 55 = .ok (.aload_n 1, 1) := by decide +kernel
theorem dX6_tick_56 : decode cX6_tick 56 = .ok (.aload_n 0, 1) := by decide +kernel
theorem dX6_tick_57 : decode cX6_tick 57 = .ok (.invokevirtual 204, 3) := by decide +kernel
theorem dX6_tick_60 : decode cX6_tick 60 = .ok (.istore_n 2, 1) := by decide +kernel
theorem dX6_tick_61 : decode cX6_tick 61 = .ok (.aload_n 0, 1) := by decide +kernel
theorem dX6_tick_62 : decode cX6_tick 62 = .ok (.getfield 20, 3) := by decide +kernel
theorem dX6_tick_65 : decode cX6_tick 65 = .ok (.aload_n 0, 1) := by decide +kernel
theorem dX6_tick_66 : decode cX6_tick 66 = .ok (.getfield 58, 3) := by decide +kernel
theorem dX6_tick_69 : decode cX6_tick 69 = .ok (.iload_n 2, 1) := by decide +kernel
theorem dX6_tick_70 : decode cX6_tick 70 = .ok (.aload_n 0, 1) := by decide +kernel
theorem dX6_tick_71 : decode cX6_tick 71 = .ok (.invokevirtual 108, 3) := by decide +kernel
theorem dX6_tick_74 : decode cX6_tick 74 = .ok (.aload_n 0, 1) := by decide +kernel
theorem dX6_tick_75 : decode cX6_tick 75 = .ok (.invokevirtual 210, 3) := by decide +kernel
theorem dX6_tick_78 : decode cX6_tick 78 = .ok (.invokevirtual 213, 3) := by decide +kernel
theorem dX6_tick_81 : decode cX6_tick 81 = .ok (.aload_n 0, 1) := by decide +kernel
theorem dX6_tick_82 : decode cX6_tick 82 = .ok (.iload_n 2, 1) := by decide +kernel
theorem dX6_tick_83 : decode cX6_tick 83 = .ok (.invokevirtual 194, 3) := by decide +kernel
theorem dX6_tick_86 : decode cX6_tick 86 = .ok (.ifCond .eq 26, 3) := by decide +kernel
theorem dX6_tick_89 : decode cX6_tick 89 = .ok (.aload_n 0, 1) := by decide +kernel
theorem dX6_tick_90 : decode cX6_tick 90 = .ok (.aload_n 0, 1) := by decide +kernel
theorem dX6_tick_91 : decode cX6_tick 91 = .ok (.getfield 11, 3) := by decide +kernel
theorem dX6_tick_94 : decode cX6_tick 94 = .ok (.iload_n 2, 1) := by decide +kernel
theorem dX6_tick_95 : decode cX6_tick 95 = .ok (.aaload, 1) := by decide +kernel
theorem dX6_tick_96 : decode cX6_tick 96 = .ok (.invokevirtual 217, 3) := by decide +kernel
theorem dX6_tick_99 : decode cX6_tick 99 = .ok (.aload_n 0, 1) := by decide +kernel
theorem dX6_tick_100 : decode cX6_tick 100 = .ok (.aload_n 0, 1) := by decide +kernel
theorem dX6_tick_101 : decode cX6_tick 101 = .ok (.getfield 11, 3) := by decide +kernel
theorem dX6_tick_104 : decode cX6_tick 104 = .ok (.iload_n 2, 1) := by decide +kernel
theorem dX6_tick_105 : decode cX6_tick 105 = .ok (.aaload, 1) := by decide +kernel
theorem dX6_tick_106 : decode cX6_tick 106 = .ok (.invokevirtual 220, 3) := by decide +kernel
theorem dX6_tick_109 : decode cX6_tick 109 = .ok (.goto 8, 3) := by decide +kernel
theorem dX6_tick_112 : decode cX6_tick 112 = .ok (.aload_n 0, 1) := by decide +kernel
theorem dX6_tick_113 : decode cX6_tick 113 = .ok (.iconst (-1), 1) := by decide +kernel
theorem dX6_tick_114 : decode cX6_tick 114 = .ok (.putfield 38, 3) := by decide +kernel
theorem dX6_tick_117 : decode cX6_tick 117 = .ok (.aload_n 0, 1) := by decide +kernel

theorem dX12_task_122 : decode cX12_task 122 = .ok (.laload, 1) := by decide +kernel
theorem dX12_task_123 : decode cX12_task 123 = .ok (.lconst 1, 1) := by decide +kernel
theorem dX12_task_124 : decode cX12_task 124 = .ok (.ladd, 1) := by decide +kernel
theorem dX12_task_125 : decode cX12_task 125 = .ok (.lastore, 1) := by decide +kernel
theorem dX12_task_126 : decode cX12_task 126 = .ok (.aload_n 0, 1) := by decide +kernel
theorem dX12_task_127 : decode cX12_task 127 = .ok (.iload_n 3, 1) := by decide +kernel
theorem dX12_task_128 : decode cX12_task 128 = .ok (.invokevirtual 80, 3) := by decide +kernel
theorem dX12_task_131 : decode cX12_task 131 = .ok (.ireturn, 1) := by decide +kernel
theorem dX12_join_0 : decode cX12_join 0 = .ok (.aload_n 0, 1) := by decide +kernel
theorem dX12_join_1 : decode cX12_join 1 = .ok (.iconst 0, 1) := by decide +kernel
theorem dX12_join_2 : decode cX12_join 2 = .ok (.putfield 67, 3) := by decide +kernel
theorem dX12_join_5 : decode cX12_join 5 = .ok (.aload_n 0, 1) := by decide +kernel
theorem dX12_join_6 : decode cX12_join 6 = .ok (.iload_n 1, 1) := by decide +kernel
theorem dX12_join_7 : decode cX12_join 7 = .ok (.invokevirtual 142, 3) := by decide +kernel
theorem dX12_join_10 : decode cX12_join 10 = .ok (.ifCond .ne 10, 3) := by decide +kernel
theorem dX12_join_13 : decode cX12_join 13 = .ok (.aload_n 0, 1) := by decide +kernel
theorem dX12_join_14 : decode cX12_join 14 = .ok (.bipush (-2), 2) := by decide +kernel
theorem dX12_join_16 : decode cX12_join 16 = .ok (.invokevirtual 76, 3) := by decide +kernel
theorem dX12_join_19 : decode cX12_join 19 = .ok (.ireturn, 1) := by decide +kernel
theorem dX12_join_20 : decode cX12_join 20 = .ok (.aload_n 0, 1) := by decide +kernel
theorem dX12_join_21 : decode cX12_join 21 = .ok (.getfield 16, 3) := by decide +kernel
theorem dX12_join_24 : decode cX12_join 24 = .ok (.iload_n 1, 1) := by decide +kernel
theorem dX12_join_25 : decode cX12_join 25 = .ok (.invokestatic 87, 3) := by decide +kernel
theorem dX12_join_28 : decode cX12_join 28 = .ok (.iconst 2, 1) := by decide +kernel
theorem dX12_join_29 : decode cX12_join 29 = .ok (.iadd, 1) := by decide +kernel
theorem dX12_join_30 : decode cX12_join 30 = .ok (.laload, 1) := by decide +kernel
theorem dX12_join_31 : decode cX12_join 31 = .ok (.lconst 0, 1) := by decide +kernel
theorem dX12_join_32 : decode cX12_join 32 = .ok (.lcmp, 1) := by decide +kernel
theorem dX12_join_33 : decode cX12_join 33 = .ok (.ifCond .ne 11, 3) := by decide +kernel
theorem dX12_join_36 : decode cX12_join 36 = .ok (.aload_n 0, 1) := by decide +kernel
theorem dX12_join_37 : decode cX12_join 37 = .ok (.iload_n 1, 1) := by decide +kernel
theorem dX12_join_38 : decode cX12_join 38 = .ok (.invokevirtual 145, 3) := by decide +kernel
theorem dX12_join_41 : decode cX12_join 41 = .ok (.ifCond .eq 10, 3) := by decide +kernel
theorem dX12_join_44 : decode cX12_join 44 = .ok (.aload_n 0, 1) := by decide +kernel
theorem dX12_join_45 : decode cX12_join 45 = .ok (.bipush (-4), 2) := by decide +kernel
theorem dX12_join_47 : decode cX12_join 47 = .ok (.invokevirtual 76, 3) := by decide +kernel
theorem dX12_join_50 : decode cX12_join 50 = .ok (.ireturn, 1) := by decide +kernel
theorem dX12_join_51 : decode cX12_join 51 = .ok (.aload_n 0, 1) := by decide +kernel
theorem dX12_join_52 : decode cX12_join 52 = .ok (.iload_n 1, 1) := by decide +kernel
theorem dX12_join_53 : decode cX12_join 53 = .ok (.invokevirtual 148, 3) := by decide +kernel
theorem dX12_join_56 : decode cX12_join 56 = .ok (.ifCond .ne 10, 3) := by decide +kernel
theorem dX12_join_59 : decode cX12_join 59 = .ok (.aload_n 0, 1) := by decide +kernel
theorem dX12_join_60 : decode cX12_join 60 = .ok (.bipush (-5), 2) := by decide +kernel
theorem dX12_join_62 : decode cX12_join 62 = .ok (.invokevirtual 76, 3) := by decide +kernel
theorem dX12_join_65 : decode cX12_join 65 = .ok (.ireturn, 1) := by decide +kernel
theorem dX12_join_66 : decode cX12_join 66 = .ok (.aload_n 0, 1) := by decide +kernel
theorem dX12_join_67 : decode cX12_join 67 = .ok (.iconst 1, 1) := by decide +kernel
theorem dX12_join_68 : decode cX12_join 68 = .ok (.invokevirtual 139, 3) := by decide +kernel
theorem dX12_join_71 : decode cX12_join 71 = .ok (.aload_n 0, 1) := by decide +kernel
theorem dX12_join_72 : decode cX12_join 72 = .ok (.iload_n 1, 1) := by decide +kernel
theorem dX12_join_73 : decode cX12_join 73 = .ok (.invokevirtual 151, 3) := by decide +kernel
theorem dX12_join_76 : decode cX12_join 76 = .ok (.aload_n 0, 1) := by decide +kernel
theorem dX12_join_77 : decode cX12_join 77 = .ok (.aload_n 0, 1) := by decide +kernel
theorem dX12_join_78 : decode cX12_join 78 = .ok (.invokevirtual 105, 3) := by decide +kernel
theorem dX12_join_81 : decode cX12_join 81 = .ok (.l2i, 1) := by decide +kernel
theorem dX12_join_82 : decode cX12_join 82 = .ok (.invokevirtual 80, 3) := by decide +kernel
theorem dX12_join_85 : decode cX12_join 85 = .ok (.ireturn, 1) := by decide +kernel
theorem dX12_leave_0 : decode cX12_leave 0 = .ok (.aload_n 0, 1) := by decide +kernel
theorem dX12_leave_1 : decode cX12_leave 1 = .ok (.iconst 0, 1) := by decide +kernel
theorem dX12_leave_2 : decode cX12_leave 2 = .ok (.putfield 67, 3) := by decide +kernel
theorem dX12_leave_5 : decode cX12_leave 5 = .ok (.aload_n 0, 1) := by decide +kernel
theorem dX12_leave_6 : decode cX12_leave 6 = .ok (.iload_n 1, 1) := by decide +kernel
theorem dX12_leave_7 : decode cX12_leave 7 = .ok (.invokevirtual 142, 3) := by decide +kernel
theorem dX12_leave_10 : decode cX12_leave 10 = .ok (.ifCond .ne 10, 3) := by decide +kernel
theorem dX12_leave_13 : decode cX12_leave 13 = .ok (.aload_n 0, 1) := by decide +kernel
theorem dX12_leave_14 : decode cX12_leave 14 = .ok (.bipush (-2), 2) := by decide +kernel
theorem dX12_leave_16 : decode cX12_leave 16 = .ok (.invokevirtual 76, 3) := by decide +kernel
theorem dX12_leave_19 : decode cX12_leave 19 = .ok (.ireturn, 1) := by decide +kernel
theorem dX12_leave_20 : decode cX12_leave 20 = .ok (.aload_n 0, 1) := by decide +kernel
theorem dX12_leave_21 : decode cX12_leave 21 = .ok (.getfield 16, 3) := by decide +kernel
theorem dX12_leave_24 : decode cX12_leave 24 = .ok (.iload_n 1, 1) := by decide +kernel
theorem dX12_leave_25 : decode cX12_leave 25 = .ok (.invokestatic 87, 3) := by decide +kernel
theorem dX12_leave_28 : decode cX12_leave 28 = .ok (.iconst 2, 1) := by decide +kernel
theorem dX12_leave_29 : decode cX12_leave 29 = .ok (.iadd, 1) := by decide +kernel
theorem dX12_leave_30 : decode cX12_leave 30 = .ok (.laload, 1) := by decide +kernel
theorem dX12_leave_31 : decode cX12_leave 31 = .ok (.lconst 0, 1) := by decide +kernel
theorem dX12_leave_32 : decode cX12_leave 32 = .ok (.lcmp, 1) := by decide +kernel
theorem dX12_leave_33 : decode cX12_leave 33 = .ok (.ifCond .ne 10, 3) := by decide +kernel
theorem dX12_leave_36 : decode cX12_leave 36 = .ok (.aload_n 0, 1) := by decide +kernel
theorem dX12_leave_37 : decode cX12_leave 37 = .ok (.bipush (-4), 2) := by decide +kernel
theorem dX12_leave_39 : decode cX12_leave 39 = .ok (.invokevirtual 76, 3) := by decide +kernel
theorem dX12_leave_42 : decode cX12_leave 42 = .ok (.ireturn, 1) := by decide +kernel
theorem dX12_leave_43 : decode cX12_leave 43 = .ok (.aload_n 0, 1) := by decide +kernel
theorem dX12_leave_44 : decode cX12_leave 44 = .ok (.iconst 2, 1) := by decide +kernel
theorem dX12_leave_45 : decode cX12_leave 45 = .ok (.invokevirtual 139, 3) := by decide +kernel
theorem dX12_leave_48 : decode cX12_leave 48 = .ok (.aload_n 0, 1) := by decide +kernel
theorem dX12_leave_49 : decode cX12_leave 49 = .ok (.iload_n 1, 1) := by decide +kernel
theorem dX12_leave_50 : decode cX12_leave 50 = .ok (.invokevirtual 154, 3) := by decide +kernel
theorem dX12_leave_53 : decode cX12_leave 53 = .ok (.aload_n 0, 1) := by decide +kernel
theorem dX12_leave_54 : decode cX12_leave 54 = .ok (.getfield 16, 3) := by decide +kernel
theorem dX12_leave_57 : decode cX12_leave 57 = .ok (.iload_n 1, 1) := by decide +kernel
theorem dX12_leave_58 : decode cX12_leave 58 = .ok (.invokestatic 87, 3) := by decide +kernel
theorem dX12_leave_61 : decode cX12_leave 61 = .ok (.bipush 13, 2) := by decide +kernel
theorem dX12_leave_63 : decode cX12_leave 63 = .ok (.iadd, 1) := by decide +kernel
theorem dX12_leave_64 : decode cX12_leave 64 = .ok (.lconst 0, 1) := by decide +kernel
theorem dX12_leave_65 : decode cX12_leave 65 = .ok (.lastore, 1) := by decide +kernel
theorem dX12_leave_66 : decode cX12_leave 66 = .ok (.aload_n 0, 1) := by decide +kernel
theorem dX12_leave_67 : decode cX12_leave 67 = .ok (.aload_n 0, 1) := by decide +kernel
theorem dX12_leave_68 : decode cX12_leave 68 = .ok (.invokevirtual 105, 3) := by decide +kernel
theorem dX12_leave_71 : decode cX12_leave 71 = .ok (.l2i, 1) := by decide +kernel
theorem dX12_leave_72 : decode cX12_leave 72 = .ok (.invokevirtual 80, 3) := by decide +kernel
theorem dX12_leave_75 : decode cX12_leave 75 = .ok (.ireturn, 1) := by decide +kernel
theorem dX12_weigh_0 : decode cX12_weigh 0 = .ok (.aload_n 0, 1) := by decide +kernel
theorem dX12_weigh_1 : decode cX12_weigh 1 = .ok (.iconst 0, 1) := by decide +kernel
theorem dX12_weigh_2 : decode cX12_weigh 2 = .ok (.putfield 67, 3) := by decide +kernel
theorem dX12_weigh_5 : decode cX12_weigh 5 = .ok (.iload_n 2, 1) := by decide +kernel
theorem dX12_weigh_6 : decode cX12_weigh 6 = .ok (.i2l, 1) := by decide +kernel
theorem dX12_weigh_7 : decode cX12_weigh 7 = .ok (.lconst 1, 1) := by decide +kernel
theorem dX12_weigh_8 : decode cX12_weigh 8 = .ok (.ldc2_w 135, 3) := by decide +kernel
theorem dX12_weigh_11 : decode cX12_weigh 11 = .ok (.invokestatic 83, 3) := by decide +kernel
theorem dX12_weigh_14 : decode cX12_weigh 14 = .ok (.ifCond .ne 9, 3) := by decide +kernel
theorem dX12_weigh_17 : decode cX12_weigh 17 = .ok (.aload_n 0, 1) := by decide +kernel
theorem dX12_weigh_18 : decode cX12_weigh 18 = .ok (.iconst (-1), 1) := by decide +kernel
theorem dX12_weigh_19 : decode cX12_weigh 19 = .ok (.invokevirtual 76, 3) := by decide +kernel
theorem dX12_weigh_22 : decode cX12_weigh 22 = .ok (.ireturn, 1) := by decide +kernel
theorem dX12_weigh_23 : decode cX12_weigh 23 = .ok (.aload_n 0, 1) := by decide +kernel
theorem dX12_weigh_24 : decode cX12_weigh 24 = .ok (.iload_n 1, 1) := by decide +kernel
theorem dX12_weigh_25 : decode cX12_weigh 25 = .ok (.invokevirtual 142, 3) := by decide +kernel
theorem dX12_weigh_28 : decode cX12_weigh 28 = .ok (.ifCond .ne 10, 3) := by decide +kernel
theorem dX12_weigh_31 : decode cX12_weigh 31 = .ok (.aload_n 0, 1) := by decide +kernel
theorem dX12_weigh_32 : decode cX12_weigh 32 = .ok (.bipush (-2), 2) := by decide +kernel
theorem dX12_weigh_34 : decode cX12_weigh 34 = .ok (.invokevirtual 76, 3) := by decide +kernel
theorem dX12_weigh_37 : decode cX12_weigh 37 = .ok (.ireturn, 1) := by decide +kernel
theorem dX12_weigh_38 : decode cX12_weigh 38 = .ok (.aload_n 0, 1) := by decide +kernel
theorem dX12_weigh_39 : decode cX12_weigh 39 = .ok (.iload_n 1, 1) := by decide +kernel
theorem dX12_weigh_40 : decode cX12_weigh 40 = .ok (.invokevirtual 94, 3) := by decide +kernel
theorem dX12_weigh_43 : decode cX12_weigh 43 = .ok (.l2i, 1) := by decide +kernel
theorem dX12_weigh_44 : decode cX12_weigh 44 = .ok (.istore_n 3, 1) := by decide +kernel
theorem dX12_weigh_45 : decode cX12_weigh 45 = .ok (.iload_n 3, 1) := by decide +kernel
theorem dX12_weigh_46 : decode cX12_weigh 46 = .ok (.iload_n 2, 1) := by decide +kernel
theorem dX12_weigh_47 : decode cX12_weigh 47 = .ok (.if_icmp .ne 10, 3) := by decide +kernel
theorem dX12_weigh_50 : decode cX12_weigh 50 = .ok (.aload_n 0, 1) := by decide +kernel
theorem dX12_weigh_51 : decode cX12_weigh 51 = .ok (.bipush (-4), 2) := by decide +kernel
theorem dX12_weigh_53 : decode cX12_weigh 53 = .ok (.invokevirtual 76, 3) := by decide +kernel
theorem dX12_weigh_56 : decode cX12_weigh 56 = .ok (.ireturn, 1) := by decide +kernel
theorem dX12_weigh_57 : decode cX12_weigh 57 = .ok (.aload_n 0, 1) := by decide +kernel
theorem dX12_weigh_58 : decode cX12_weigh 58 = .ok (.iload_n 1, 1) := by decide +kernel
theorem dX12_weigh_59 : decode cX12_weigh 59 = .ok (.invokevirtual 90, 3) := by decide +kernel
theorem dX12_weigh_62 : decode cX12_weigh 62 = .ok (.ifCond .eq 27, 3) := by decide +kernel
theorem dX12_weigh_65 : decode cX12_weigh 65 = .ok (.aload_n 0, 1) := by decide +kernel
theorem dX12_weigh_66 : decode cX12_weigh 66 = .ok (.invokevirtual 105, 3) := by decide +kernel
theorem dX12_weigh_69 : decode cX12_weigh 69 = .ok (.iload_n 3, 1) := by decide +kernel
theorem dX12_weigh_70 : decode cX12_weigh 70 = .ok (.i2l, 1) := by decide +kernel
theorem dX12_weigh_71 : decode cX12_weigh 71 = .ok (.lsub, 1) := by decide +kernel
theorem dX12_weigh_72 : decode cX12_weigh 72 = .ok (.iload_n 2, 1) := by decide +kernel
theorem dX12_weigh_73 : decode cX12_weigh 73 = .ok (.i2l, 1) := by decide +kernel
theorem dX12_weigh_74 : decode cX12_weigh 74 = .ok (.ladd, 1) := by decide +kernel
theorem dX12_weigh_75 : decode cX12_weigh 75 = .ok (.ldc2_w 110, 3) := by decide +kernel
theorem dX12_weigh_78 : decode cX12_weigh 78 = .ok (.lcmp, 1) := by decide +kernel
theorem dX12_weigh_79 : decode cX12_weigh 79 = .ok (.ifCond .le 10, 3) := by decide +kernel
theorem dX12_weigh_82 : decode cX12_weigh 82 = .ok (.aload_n 0, 1) := by decide +kernel
theorem dX12_weigh_83 : decode cX12_weigh 83 = .ok (.bipush (-5), 2) := by decide +kernel
theorem dX12_weigh_85 : decode cX12_weigh 85 = .ok (.invokevirtual 76, 3) := by decide +kernel
theorem dX12_weigh_88 : decode cX12_weigh 88 = .ok (.ireturn, 1) := by decide +kernel
theorem dX12_weigh_89 : decode cX12_weigh 89 = .ok (.aload_n 0, 1) := by decide +kernel
theorem dX12_weigh_90 : decode cX12_weigh 90 = .ok (.iconst 3, 1) := by decide +kernel
theorem dX12_weigh_91 : decode cX12_weigh 91 = .ok (.invokevirtual 139, 3) := by decide +kernel
theorem dX12_weigh_94 : decode cX12_weigh 94 = .ok (.aload_n 0, 1) := by decide +kernel
theorem dX12_weigh_95 : decode cX12_weigh 95 = .ok (.iload_n 1, 1) := by decide +kernel
theorem dX12_weigh_96 : decode cX12_weigh 96 = .ok (.iload_n 2, 1) := by decide +kernel
theorem dX12_weigh_97 : decode cX12_weigh 97 = .ok (.i2l, 1) := by decide +kernel
theorem dX12_weigh_98 : decode cX12_weigh 98 = .ok (.invokevirtual 157, 3) := by decide +kernel
theorem dX12_weigh_101 : decode cX12_weigh 101 = .ok (.pop, 1) := by decide +kernel
theorem dX12_weigh_102 : decode cX12_weigh 102 = .ok (.aload_n 0, 1) := by decide +kernel
theorem dX12_weigh_103 : decode cX12_weigh 103 = .ok (.iload_n 3, 1) := by decide +kernel
theorem dX12_weigh_104 : decode cX12_weigh 104 = .ok (.invokevirtual 80, 3) := by decide +kernel
theorem dX12_weigh_107 : decode cX12_weigh 107 = .ok (.ireturn, 1) := by decide +kernel
theorem dX12_slice_0 : decode cX12_slice 0 = .ok (.aload_n 0, 1) := by decide +kernel
theorem dX12_slice_1 : decode cX12_slice 1 = .ok (.iconst 0, 1) := by decide +kernel
theorem dX12_slice_2 : decode cX12_slice 2 = .ok (.putfield 67, 3) := by decide +kernel
theorem dX12_slice_5 : decode cX12_slice 5 = .ok (.iload_n 2, 1) := by decide +kernel
theorem dX12_slice_6 : decode cX12_slice 6 = .ok (.i2l, 1) := by decide +kernel
theorem dX12_slice_7 : decode cX12_slice 7 = .ok (.lconst 1, 1) := by decide +kernel
theorem dX12_slice_8 : decode cX12_slice 8 = .ok (.ldc2_w 137, 3) := by decide +kernel
theorem dX12_slice_11 : decode cX12_slice 11 = .ok (.invokestatic 83, 3) := by decide +kernel
theorem dX12_slice_14 : decode cX12_slice 14 = .ok (.ifCond .ne 9, 3) := by decide +kernel
theorem dX12_slice_17 : decode cX12_slice 17 = .ok (.aload_n 0, 1) := by decide +kernel
theorem dX12_slice_18 : decode cX12_slice 18 = .ok (.iconst (-1), 1) := by decide +kernel
theorem dX12_slice_19 : decode cX12_slice 19 = .ok (.invokevirtual 76, 3) := by decide +kernel
theorem dX12_slice_22 : decode cX12_slice 22 = .ok (.ireturn, 1) := by decide +kernel
theorem dX12_slice_23 : decode cX12_slice 23 = .ok (.aload_n 0, 1) := by decide +kernel
theorem dX12_slice_24 : decode cX12_slice 24 = .ok (.iload_n 1, 1) := by decide +kernel
theorem dX12_slice_25 : decode cX12_slice 25 = .ok (.invokevirtual 142, 3) := by decide +kernel
theorem dX12_slice_28 : decode cX12_slice 28 = .ok (.ifCond .ne 10, 3) := by decide +kernel
theorem dX12_slice_31 : decode cX12_slice 31 = .ok (.aload_n 0, 1) := by decide +kernel
theorem dX12_slice_32 : decode cX12_slice 32 = .ok (.bipush (-2), 2) := by decide +kernel
theorem dX12_slice_34 : decode cX12_slice 34 = .ok (.invokevirtual 76, 3) := by decide +kernel
theorem dX12_slice_37 : decode cX12_slice 37 = .ok (.ireturn, 1) := by decide +kernel
theorem dX12_slice_38 : decode cX12_slice 38 = .ok (.aload_n 0, 1) := by decide +kernel
theorem dX12_slice_39 : decode cX12_slice 39 = .ok (.getfield 16, 3) := by decide +kernel
theorem dX12_slice_42 : decode cX12_slice 42 = .ok (.iload_n 1, 1) := by decide +kernel
theorem dX12_slice_43 : decode cX12_slice 43 = .ok (.invokestatic 87, 3) := by decide +kernel
theorem dX12_slice_46 : decode cX12_slice 46 = .ok (.iconst 1, 1) := by decide +kernel
theorem dX12_slice_47 : decode cX12_slice 47 = .ok (.iadd, 1) := by decide +kernel
theorem dX12_slice_48 : decode cX12_slice 48 = .ok (.laload, 1) := by decide +kernel
theorem dX12_slice_49 : decode cX12_slice 49 = .ok (.l2i, 1) := by decide +kernel
theorem dX12_slice_50 : decode cX12_slice 50 = .ok (.istore_n 3, 1) := by decide +kernel
theorem dX12_slice_51 : decode cX12_slice 51 = .ok (.iload_n 3, 1) := by decide +kernel
theorem dX12_slice_52 : decode cX12_slice 52 = .ok (.iload_n 2, 1) := by decide +kernel
theorem dX12_slice_53 : decode cX12_slice 53 = .ok (.if_icmp .ne 10, 3) := by decide +kernel
theorem dX12_slice_56 : decode cX12_slice 56 = .ok (.aload_n 0, 1) := by decide +kernel
theorem dX12_slice_57 : decode cX12_slice 57 = .ok (.bipush (-4), 2) := by decide +kernel
theorem dX12_slice_59 : decode cX12_slice 59 = .ok (.invokevirtual 76, 3) := by decide +kernel
theorem dX12_slice_62 : decode cX12_slice 62 = .ok (.ireturn, 1) := by decide +kernel
theorem dX12_slice_63 : decode cX12_slice 63 = .ok (.aload_n 0, 1) := by decide +kernel
theorem dX12_slice_64 : decode cX12_slice 64 = .ok (.iconst 4, 1) := by decide +kernel
theorem dX12_slice_65 : decode cX12_slice 65 = .ok (.invokevirtual 139, 3) := by decide +kernel
theorem dX12_slice_68 : decode cX12_slice 68 = .ok (.aload_n 0, 1) := by decide +kernel
theorem dX12_slice_69 : decode cX12_slice 69 = .ok (.iload_n 1, 1) := by decide +kernel
theorem dX12_slice_70 : decode cX12_slice 70 = .ok (.iload_n 2, 1) := by decide +kernel
theorem dX12_slice_71 : decode cX12_slice 71 = .ok (.i2l, 1) := by decide +kernel
theorem dX12_slice_72 : decode cX12_slice 72 = .ok (.invokevirtual 161, 3) := by decide +kernel
theorem dX12_slice_75 : decode cX12_slice 75 = .ok (.aload_n 0, 1) := by decide +kernel
theorem dX12_slice_76 : decode cX12_slice 76 = .ok (.iload_n 3, 1) := by decide +kernel
theorem dX12_slice_77 : decode cX12_slice 77 = .ok (.invokevirtual 80, 3) := by decide +kernel
theorem dX12_slice_80 : decode cX12_slice 80 = .ok (.ireturn, 1) := by decide +kernel
theorem dX12_wish_0 : decode cX12_wish 0 = .ok (.aload_n 0, 1) := by decide +kernel
theorem dX12_wish_1 : decode cX12_wish 1 = .ok (.iconst 0, 1) := by decide +kernel
theorem dX12_wish_2 : decode cX12_wish 2 = .ok (.putfield 67, 3) := by decide +kernel
theorem dX12_wish_5 : decode cX12_wish 5 = .ok (.iload_n 2, 1) := by decide +kernel
theorem dX12_wish_6 : decode cX12_wish 6 = .ok (.i2l, 1) := by decide +kernel
theorem dX12_wish_7 : decode cX12_wish 7 = .ok (.lconst 1, 1) := by decide +kernel
theorem dX12_wish_8 : decode cX12_wish 8 = .ok (.ldc2_w 165, 3) := by decide +kernel
theorem dX12_wish_11 : decode cX12_wish 11 = .ok (.invokestatic 83, 3) := by decide +kernel
theorem dX12_wish_14 : decode cX12_wish 14 = .ok (.ifCond .ne 9, 3) := by decide +kernel
theorem dX12_wish_17 : decode cX12_wish 17 = .ok (.aload_n 0, 1) := by decide +kernel
theorem dX12_wish_18 : decode cX12_wish 18 = .ok (.iconst (-1), 1) := by decide +kernel
theorem dX12_wish_19 : decode cX12_wish 19 = .ok (.invokevirtual 76, 3) := by decide +kernel
theorem dX12_wish_22 : decode cX12_wish 22 = .ok (.ireturn, 1) := by decide +kernel
theorem dX12_wish_23 : decode cX12_wish 23 = .ok (.aload_n 0, 1) := by decide +kernel
theorem dX12_wish_24 : decode cX12_wish 24 = .ok (.iload_n 1, 1) := by decide +kernel
theorem dX12_wish_25 : decode cX12_wish 25 = .ok (.invokevirtual 142, 3) := by decide +kernel
theorem dX12_wish_28 : decode cX12_wish 28 = .ok (.ifCond .ne 10, 3) := by decide +kernel
theorem dX12_wish_31 : decode cX12_wish 31 = .ok (.aload_n 0, 1) := by decide +kernel
theorem dX12_wish_32 : decode cX12_wish 32 = .ok (.bipush (-2), 2) := by decide +kernel
theorem dX12_wish_34 : decode cX12_wish 34 = .ok (.invokevirtual 76, 3) := by decide +kernel
theorem dX12_wish_37 : decode cX12_wish 37 = .ok (.ireturn, 1) := by decide +kernel
theorem dX12_wish_38 : decode cX12_wish 38 = .ok (.aload_n 0, 1) := by decide +kernel
theorem dX12_wish_39 : decode cX12_wish 39 = .ok (.bipush 7, 2) := by decide +kernel
theorem dX12_wish_41 : decode cX12_wish 41 = .ok (.invokevirtual 139, 3) := by decide +kernel
theorem dX12_wish_44 : decode cX12_wish 44 = .ok (.aload_n 0, 1) := by decide +kernel
theorem dX12_wish_45 : decode cX12_wish 45 = .ok (.invokevirtual 105, 3) := by decide +kernel
theorem dX12_wish_48 : decode cX12_wish 48 = .ok (.aload_n 0, 1) := by decide +kernel
theorem dX12_wish_49 : decode cX12_wish 49 = .ok (.iload_n 1, 1) := by decide +kernel
theorem dX12_wish_50 : decode cX12_wish 50 = .ok (.invokevirtual 90, 3) := by decide +kernel
theorem dX12_wish_53 : decode cX12_wish 53 = .ok (.ifCond .eq 7, 3) := by decide +kernel
theorem dX12_wish_56 : decode cX12_wish 56 = .ok (.lconst 0, 1) := by decide +kernel
theorem dX12_wish_57 : decode cX12_wish 57 = .ok (.goto 8, 3) := by decide +kernel
theorem dX12_wish_60 : decode cX12_wish 60 = .ok (.aload_n 0, 1) := by decide +kernel
theorem dX12_wish_61 : decode cX12_wish 61 = .ok (.iload_n 1, 1) := by decide +kernel
theorem dX12_wish_62 : decode cX12_wish 62 = .ok (.invokevirtual 94, 3) := by decide +kernel
theorem dX12_wish_65 : decode cX12_wish 65 = .ok (.ladd, 1) := by decide +kernel
theorem dX12_wish_66 : decode cX12_wish 66 = .ok (.lstore_n 3, 1) := by decide +kernel
theorem dX12_wish_67 : decode cX12_wish 67 = .ok (.iload_n 2, 1) := by decide +kernel
theorem dX12_wish_68 : decode cX12_wish 68 = .ok (.i2l, 1) := by decide +kernel
theorem dX12_wish_69 : decode cX12_wish 69 = .ok (.aload_n 0, 1) := by decide +kernel
theorem dX12_wish_70 : decode cX12_wish 70 = .ok (.iload_n 1, 1) := by decide +kernel
theorem dX12_wish_71 : decode cX12_wish 71 = .ok (.invokevirtual 94, 3) := by decide +kernel
theorem dX12_wish_74 : decode cX12_wish 74 = .ok (.lmul, 1) := by decide +kernel
theorem dX12_wish_75 : decode cX12_wish 75 = .ok (.lload_n 3, 1) := by decide +kernel
theorem dX12_wish_76 : decode cX12_wish 76 = .ok (.ldiv, 1) := by decide +kernel
theorem dX12_wish_77 : decode cX12_wish 77 = .ok (.lstore 5, 2) := by decide +kernel
theorem dX12_wish_79 : decode cX12_wish 79 = .ok (.lload 5, 2) := by decide +kernel
theorem dX12_wish_81 : decode cX12_wish 81 = .ok (.lconst 1, 1) := by decide +kernel
theorem dX12_wish_82 : decode cX12_wish 82 = .ok (.lcmp, 1) := by decide +kernel
theorem dX12_wish_83 : decode cX12_wish 83 = .ok (.ifCond .ge 7, 3) := by decide +kernel
theorem dX12_wish_86 : decode cX12_wish 86 = .ok (.lconst 1, 1) := by decide +kernel
theorem dX12_wish_87 : decode cX12_wish 87 = .ok (.goto 20, 3) := by decide +kernel
theorem dX12_wish_90 : decode cX12_wish 90 = .ok (.lload 5, 2) := by decide +kernel
theorem dX12_wish_92 : decode cX12_wish 92 = .ok (.ldc2_w 137, 3) := by decide +kernel
theorem dX12_wish_95 : decode cX12_wish 95 = .ok (.lcmp, 1) := by decide +kernel
theorem dX12_wish_96 : decode cX12_wish 96 = .ok (.ifCond .le 9, 3) := by decide +kernel
theorem dX12_wish_99 : decode cX12_wish 99 = .ok (.ldc2_w 137, 3) := by decide +kernel
theorem dX12_wish_102 : decode cX12_wish 102 = .ok (.goto 5, 3) := by decide +kernel
theorem dX12_wish_105 : decode cX12_wish 105 = .ok (.lload 5, 2) := by decide +kernel
theorem dX12_wish_107 : decode cX12_wish 107 = .ok (.lstore 5, 2) := by decide +kernel
theorem dX12_wish_109 : decode cX12_wish 109 = .ok (.aload_n 0, 1) := by decide +kernel
theorem dX12_wish_110 : decode cX12_wish 110 = .ok (.iload_n 1, 1) := by decide +kernel
theorem dX12_wish_111 : decode cX12_wish 111 = .ok (.lload 5, 2) := by decide +kernel
theorem dX12_wish_113 : decode cX12_wish 113 = .ok (.invokevirtual 161, 3) := by decide +kernel
theorem dX12_wish_116 : decode cX12_wish 116 = .ok (.aload_n 0, 1) := by decide +kernel
theorem dX12_wish_117 : decode cX12_wish 117 = .ok (.lload 5, 2) := by decide +kernel
theorem dX12_wish_119 : decode cX12_wish 119 = .ok (.l2i, 1) := by decide +kernel
theorem dX12_wish_120 : decode cX12_wish 120 = .ok (.invokevirtual 80, 3) := by decide +kernel
theorem dX12_wish_123 : decode cX12_wish 123 = .ok (.ireturn, 1) := by decide +kernel
theorem dX12_yields_0 : decode cX12_yields 0 = .ok (.aload_n 0, 1) := by decide +kernel
theorem dX12_yields_1 : decode cX12_yields 1 = .ok (.iconst 0, 1) := by decide +kernel
theorem dX12_yields_2 : decode cX12_yields 2 = .ok (.putfield 67, 3) := by decide +kernel
theorem dX12_yields_5 : decode cX12_yields 5 = .ok (.aload_n 0, 1) := by decide +kernel
theorem dX12_yields_6 : decode cX12_yields 6 = .ok (.iload_n 1, 1) := by decide +kernel
theorem dX12_yields_7 : decode cX12_yields 7 = .ok (.invokevirtual 142, 3) := by decide +kernel
theorem dX12_yields_10 : decode cX12_yields 10 = .ok (.ifCond .ne 10, 3) := by decide +kernel
theorem dX12_yields_13 : decode cX12_yields 13 = .ok (.aload_n 0, 1) := by decide +kernel
theorem dX12_yields_14 : decode cX12_yields 14 = .ok (.bipush (-2), 2) := by decide +kernel
theorem dX12_yields_16 : decode cX12_yields 16 = .ok (.invokevirtual 76, 3) := by decide +kernel
theorem dX12_yields_19 : decode cX12_yields 19 = .ok (.ireturn, 1) := by decide +kernel
theorem dX12_yields_20 : decode cX12_yields 20 = .ok (.aload_n 0, 1) := by decide +kernel
theorem dX12_yields_21 : decode cX12_yields 21 = .ok (.iload_n 1, 1) := by decide +kernel
theorem dX12_yields_22 : decode cX12_yields 22 = .ok (.invokevirtual 90, 3) := by decide +kernel
theorem dX12_yields_25 : decode cX12_yields 25 = .ok (.ifCond .ne 10, 3) := by decide +kernel
theorem dX12_yields_28 : decode cX12_yields 28 = .ok (.aload_n 0, 1) := by decide +kernel
theorem dX12_yields_29 : decode cX12_yields 29 = .ok (.bipush (-4), 2) := by decide +kernel
theorem dX12_yields_31 : decode cX12_yields 31 = .ok (.invokevirtual 76, 3) := by decide +kernel
theorem dX12_yields_34 : decode cX12_yields 34 = .ok (.ireturn, 1) := by decide +kernel
theorem dX12_yields_35 : decode cX12_yields 35 = .ok (.aload_n 0, 1) := by decide +kernel
theorem dX12_yields_36 : decode cX12_yields 36 = .ok (.bipush 8, 2) := by decide +kernel
theorem dX12_yields_38 : decode cX12_yields 38 = .ok (.invokevirtual 139, 3) := by decide +kernel
theorem dX12_yields_41 : decode cX12_yields 41 = .ok (.iload_n 1, 1) := by decide +kernel
theorem dX12_yields_42 : decode cX12_yields 42 = .ok (.invokestatic 87, 3) := by decide +kernel
theorem dX12_yields_45 : decode cX12_yields 45 = .ok (.istore_n 2, 1) := by decide +kernel
theorem dX12_yields_46 : decode cX12_yields 46 = .ok (.aload_n 0, 1) := by decide +kernel
theorem dX12_yields_47 : decode cX12_yields 47 = .ok (.getfield 16, 3) := by decide +kernel
theorem dX12_yields_50 : decode cX12_yields 50 = .ok (.iload_n 2, 1) := by decide +kernel
theorem dX12_yields_51 : decode cX12_yields 51 = .ok (.iconst 3, 1) := by decide +kernel
theorem dX12_yields_52 : decode cX12_yields 52 = .ok (.iadd, 1) := by decide +kernel
theorem dX12_yields_53 : decode cX12_yields 53 = .ok (.laload, 1) := by decide +kernel
theorem dX12_yields_54 : decode cX12_yields 54 = .ok (.l2i, 1) := by decide +kernel
theorem dX12_yields_55 : decode cX12_yields 55 = .ok (.istore_n 3, 1) := by decide +kernel
theorem dX12_yields_56 : decode cX12_yields 56 = .ok (.aload_n 0, 1) := by decide +kernel
theorem dX12_yields_57 : decode cX12_yields 57 = .ok (.getfield 16, 3) := by decide +kernel
theorem dX12_yields_60 : decode cX12_yields 60 = .ok (.iload_n 2, 1) := by decide +kernel
theorem dX12_yields_61 : decode cX12_yields 61 = .ok (.bipush 10, 2) := by decide +kernel
theorem dX12_yields_63 : decode cX12_yields 63 = .ok (.iadd, 1) := by decide +kernel
theorem dX12_yields_64 : decode cX12_yields 64 = .ok (.aload_n 0, 1) := by decide +kernel
theorem dX12_yields_65 : decode cX12_yields 65 = .ok (.iload_n 1, 1) := by decide +kernel
theorem dX12_yields_66 : decode cX12_yields 66 = .ok (.invokevirtual 167, 3) := by decide +kernel
theorem dX12_yields_69 : decode cX12_yields 69 = .ok (.lastore, 1) := by decide +kernel
theorem dX12_yields_70 : decode cX12_yields 70 = .ok (.aload_n 0, 1) := by decide +kernel
theorem dX12_yields_71 : decode cX12_yields 71 = .ok (.getfield 16, 3) := by decide +kernel
theorem dX12_yields_74 : decode cX12_yields 74 = .ok (.iload_n 2, 1) := by decide +kernel
theorem dX12_yields_75 : decode cX12_yields 75 = .ok (.iconst 3, 1) := by decide +kernel
theorem dX12_yields_76 : decode cX12_yields 76 = .ok (.iadd, 1) := by decide +kernel
theorem dX12_yields_77 : decode cX12_yields 77 = .ok (.aload_n 0, 1) := by decide +kernel
theorem dX12_yields_78 : decode cX12_yields 78 = .ok (.getfield 16, 3) := by decide +kernel
theorem dX12_yields_81 : decode cX12_yields 81 = .ok (.iload_n 2, 1) := by decide +kernel
theorem dX12_yields_82 : decode cX12_yields 82 = .ok (.iconst 1, 1) := by decide +kernel
theorem dX12_yields_83 : decode cX12_yields 83 = .ok (.iadd, 1) := by decide +kernel
theorem dX12_yields_84 : decode cX12_yields 84 = .ok (.laload, 1) := by decide +kernel
theorem dX12_yields_85 : decode cX12_yields 85 = .ok (.lastore, 1) := by decide +kernel
theorem dX12_yields_86 : decode cX12_yields 86 = .ok (.aload_n 0, 1) := by decide +kernel
theorem dX12_yields_87 : decode cX12_yields 87 = .ok (.getfield 16, 3) := by decide +kernel
theorem dX12_yields_90 : decode cX12_yields 90 = .ok (.iconst 4, 1) := by decide +kernel
theorem dX12_yields_91 : decode cX12_yields 91 = .ok (.aload_n 0, 1) := by decide +kernel
theorem dX12_yields_92 : decode cX12_yields 92 = .ok (.getfield 16, 3) := by decide +kernel
theorem dX12_yields_95 : decode cX12_yields 95 = .ok (.iconst 4, 1) := by decide +kernel
theorem dX12_yields_96 : decode cX12_yields 96 = .ok (.laload, 1) := by decide +kernel
theorem dX12_yields_97 : decode cX12_yields 97 = .ok (.iload_n 1, 1) := by decide +kernel
theorem dX12_yields_98 : decode cX12_yields 98 = .ok (.i2l, 1) := by decide +kernel
theorem dX12_yields_99 : decode cX12_yields 99 = .ok (.lcmp, 1) := by decide +kernel
theorem dX12_yields_100 : decode cX12_yields 100 = .ok (.ifCond .ne 9, 3) := by decide +kernel
theorem dX12_yields_103 : decode cX12_yields 103 = .ok (.ldc2_w 65, 3) := by decide +kernel
theorem dX12_yields_106 : decode cX12_yields 106 = .ok (.goto 9, 3) := by decide +kernel
theorem dX12_yields_109 : decode cX12_yields 109 = .ok (.aload_n 0, 1) := by decide +kernel
theorem dX12_yields_110 : decode cX12_yields 110 = .ok (.getfield 16, 3) := by decide +kernel
theorem dX12_yields_113 : decode cX12_yields 113 = .ok (.iconst 4, 1) := by decide +kernel
theorem dX12_yields_114 : decode cX12_yields 114 = .ok (.laload, 1) := by decide +kernel
theorem dX12_yields_115 : decode cX12_yields 115 = .ok (.lastore, 1) := by decide +kernel
theorem dX12_yields_116 : decode cX12_yields 116 = .ok (.aload_n 0, 1) := by decide +kernel
theorem dX12_yields_117 : decode cX12_yields 117 = .ok (.iload_n 3, 1) := by decide +kernel
theorem dX12_yields_118 : decode cX12_yields 118 = .ok (.invokevirtual 80, 3) := by decide +kernel
theorem dX12_yields_121 : decode cX12_yields 121 = .ok (.ireturn, 1) := by decide +kernel
theorem dX12_quota_0 : decode cX12_quota 0 = .ok (.aload_n 0, 1) := by decide +kernel
theorem dX12_quota_1 : decode cX12_quota 1 = .ok (.iconst 0, 1) := by decide +kernel
theorem dX12_quota_2 : decode cX12_quota 2 = .ok (.putfield 67, 3) := by decide +kernel
theorem dX12_quota_5 : decode cX12_quota 5 = .ok (.iload_n 2, 1) := by decide +kernel
theorem dX12_quota_6 : decode cX12_quota 6 = .ok (.i2l, 1) := by decide +kernel
theorem dX12_quota_7 : decode cX12_quota 7 = .ok (.lconst 0, 1) := by decide +kernel
theorem dX12_quota_8 : decode cX12_quota 8 = .ok (.ldc2_w 170, 3) := by decide +kernel
theorem dX12_quota_11 : decode cX12_quota 11 = .ok (.invokestatic 83, 3) := by decide +kernel
theorem dX12_quota_14 : decode cX12_quota 14 = .ok (.ifCond .eq 22, 3) := by decide +kernel
theorem dX12_quota_17 : decode cX12_quota 17 = .ok (.iload_n 2, 1) := by decide +kernel
theorem dX12_quota_18 : decode cX12_quota 18 = .ok (.ifCond .le 24, 3) := by decide +kernel
theorem dX12_quota_21 : decode cX12_quota 21 = .ok (.iload_n 3, 1) := by decide +kernel
theorem dX12_quota_22 : decode cX12_quota 22 = .ok (.i2l, 1) := by decide +kernel
theorem dX12_quota_23 : decode cX12_quota 23 = .ok (.iload_n 2, 1) := by decide +kernel
theorem dX12_quota_24 : decode cX12_quota 24 = .ok (.i2l, 1) := by decide +kernel
theorem dX12_quota_25 : decode cX12_quota 25 = .ok (.lconst 1, 1) := by decide +kernel
theorem dX12_quota_26 : decode cX12_quota 26 = .ok (.ladd, 1) := by decide +kernel
theorem dX12_quota_27 : decode cX12_quota 27 = .ok (.ldc2_w 172, 3) := by decide +kernel
theorem dX12_quota_30 : decode cX12_quota 30 = .ok (.invokestatic 83, 3) := by decide +kernel
theorem dX12_quota_33 : decode cX12_quota 33 = .ok (.ifCond .ne 9, 3) := by decide +kernel
theorem dX12_quota_36 : decode cX12_quota 36 = .ok (.aload_n 0, 1) := by decide +kernel
theorem dX12_quota_37 : decode cX12_quota 37 = .ok (.iconst (-1), 1) := by decide +kernel
theorem dX12_quota_38 : decode cX12_quota 38 = .ok (.invokevirtual 76, 3) := by decide +kernel
theorem dX12_quota_41 : decode cX12_quota 41 = .ok (.ireturn, 1) := by decide +kernel
theorem dX12_quota_42 : decode cX12_quota 42 = .ok (.aload_n 0, 1) := by decide +kernel
theorem dX12_quota_43 : decode cX12_quota 43 = .ok (.iload_n 1, 1) := by decide +kernel
theorem dX12_quota_44 : decode cX12_quota 44 = .ok (.invokevirtual 142, 3) := by decide +kernel
theorem dX12_quota_47 : decode cX12_quota 47 = .ok (.ifCond .ne 10, 3) := by decide +kernel
theorem dX12_quota_50 : decode cX12_quota 50 = .ok (.aload_n 0, 1) := by decide +kernel
theorem dX12_quota_51 : decode cX12_quota 51 = .ok (.bipush (-2), 2) := by decide +kernel
theorem dX12_quota_53 : decode cX12_quota 53 = .ok (.invokevirtual 76, 3) := by decide +kernel
theorem dX12_quota_56 : decode cX12_quota 56 = .ok (.ireturn, 1) := by decide +kernel
theorem dX12_quota_57 : decode cX12_quota 57 = .ok (.aload_n 0, 1) := by decide +kernel
theorem dX12_quota_58 : decode cX12_quota 58 = .ok (.bipush 9, 2) := by decide +kernel
theorem dX12_quota_60 : decode cX12_quota 60 = .ok (.invokevirtual 139, 3) := by decide +kernel
theorem dX12_quota_63 : decode cX12_quota 63 = .ok (.iload_n 1, 1) := by decide +kernel
theorem dX12_quota_64 : decode cX12_quota 64 = .ok (.invokestatic 87, 3) := by decide +kernel
theorem dX12_quota_67 : decode cX12_quota 67 = .ok (.istore 4, 2) := by decide +kernel
theorem dX12_quota_69 : decode cX12_quota 69 = .ok (.aload_n 0, 1) := by decide +kernel
theorem dX12_quota_70 : decode cX12_quota 70 = .ok (.getfield 16, 3) := by decide +kernel
theorem dX12_quota_73 : decode cX12_quota 73 = .ok (.iload 4, 2) := by decide +kernel
theorem dX12_quota_75 : decode cX12_quota 75 = .ok (.bipush 41, 2) := by decide +kernel
theorem dX12_quota_77 : decode cX12_quota 77 = .ok (.iadd, 1) := by decide +kernel
theorem dX12_quota_78 : decode cX12_quota 78 = .ok (.laload, 1) := by decide +kernel
theorem dX12_quota_79 : decode cX12_quota 79 = .ok (.lconst 0, 1) := by decide +kernel
theorem dX12_quota_80 : decode cX12_quota 80 = .ok (.lcmp, 1) := by decide +kernel
theorem dX12_quota_81 : decode cX12_quota 81 = .ok (.ifCond .le 17, 3) := by decide +kernel
theorem dX12_quota_84 : decode cX12_quota 84 = .ok (.aload_n 0, 1) := by decide +kernel
theorem dX12_quota_85 : decode cX12_quota 85 = .ok (.getfield 16, 3) := by decide +kernel
theorem dX12_quota_88 : decode cX12_quota 88 = .ok (.iload 4, 2) := by decide +kernel
theorem dX12_quota_90 : decode cX12_quota 90 = .ok (.bipush 40, 2) := by decide +kernel
theorem dX12_quota_92 : decode cX12_quota 92 = .ok (.iadd, 1) := by decide +kernel
theorem dX12_quota_93 : decode cX12_quota 93 = .ok (.laload, 1) := by decide +kernel
theorem dX12_quota_94 : decode cX12_quota 94 = .ok (.l2i, 1) := by decide +kernel
theorem dX12_quota_95 : decode cX12_quota 95 = .ok (.goto 4, 3) := by decide +kernel
theorem dX12_quota_98 : decode cX12_quota 98 = .ok (.iconst (-1), 1) := by decide +kernel
theorem dX12_quota_99 : decode cX12_quota 99 = .ok (.istore 5, 2) := by decide +kernel
theorem dX12_quota_101 : decode cX12_quota 101 = .ok (.aload_n 0, 1) := by decide +kernel
theorem dX12_quota_102 : decode cX12_quota 102 = .ok (.getfield 16, 3) := by decide +kernel
theorem dX12_quota_105 : decode cX12_quota 105 = .ok (.iload 4, 2) := by decide +kernel
theorem dX12_quota_107 : decode cX12_quota 107 = .ok (.bipush 41, 2) := by decide +kernel
theorem dX12_quota_109 : decode cX12_quota 109 = .ok (.iadd, 1) := by decide +kernel
theorem dX12_quota_110 : decode cX12_quota 110 = .ok (.iload_n 2, 1) := by decide +kernel
theorem dX12_quota_111 : decode cX12_quota 111 = .ok (.i2l, 1) := by decide +kernel
theorem dX12_quota_112 : decode cX12_quota 112 = .ok (.lastore, 1) := by decide +kernel
theorem dX12_quota_113 : decode cX12_quota 113 = .ok (.aload_n 0, 1) := by decide +kernel
theorem dX12_quota_114 : decode cX12_quota 114 = .ok (.getfield 16, 3) := by decide +kernel
theorem dX12_quota_117 : decode cX12_quota 117 = .ok (.iload 4, 2) := by decide +kernel
theorem dX12_quota_119 : decode cX12_quota 119 = .ok (.bipush 42, 2) := by decide +kernel
theorem dX12_quota_121 : decode cX12_quota 121 = .ok (.iadd, 1) := by decide +kernel
theorem dX12_quota_122 : decode cX12_quota 122 = .ok (.iload_n 2, 1) := by decide +kernel
theorem dX12_quota_123 : decode cX12_quota 123 = .ok (.ifCond .le 8, 3) := by decide +kernel
theorem dX12_quota_126 : decode cX12_quota 126 = .ok (.iload_n 3, 1) := by decide +kernel
theorem dX12_quota_127 : decode cX12_quota 127 = .ok (.i2l, 1) := by decide +kernel
theorem dX12_quota_128 : decode cX12_quota 128 = .ok (.goto 4, 3) := by decide +kernel
theorem dX12_quota_131 : decode cX12_quota 131 = .ok (.lconst 0, 1) := by decide +kernel
theorem dX12_quota_132 : decode cX12_quota 132 = .ok (.lastore, 1) := by decide +kernel
theorem dX12_quota_133 : decode cX12_quota 133 = .ok (.aload_n 0, 1) := by decide +kernel
theorem dX12_quota_134 : decode cX12_quota 134 = .ok (.getfield 16, 3) := by decide +kernel
theorem dX12_quota_137 : decode cX12_quota 137 = .ok (.iload 4, 2) := by decide +kernel
theorem dX12_quota_139 : decode cX12_quota 139 = .ok (.bipush 40, 2) := by decide +kernel
theorem dX12_quota_141 : decode cX12_quota 141 = .ok (.iadd, 1) := by decide +kernel
theorem dX12_quota_142 : decode cX12_quota 142 = .ok (.iload_n 2, 1) := by decide +kernel
theorem dX12_quota_143 : decode cX12_quota 143 = .ok (.i2l, 1) := by decide +kernel
theorem dX12_quota_144 : decode cX12_quota 144 = .ok (.lastore, 1) := by decide +kernel
theorem dX12_quota_145 : decode cX12_quota 145 = .ok (.aload_n 0, 1) := by decide +kernel
theorem dX12_quota_146 : decode cX12_quota 146 = .ok (.iload 5, 2) := by decide +kernel
theorem dX12_quota_148 : decode cX12_quota 148 = .ok (.invokevirtual 80, 3) := by decide +kernel
theorem dX12_quota_151 : decode cX12_quota 151 = .ok (.ireturn, 1) := by decide +kernel
theorem dX12_image_0 : decode cX12_image 0 = .ok (.aload_n 0, 1) := by decide +kernel
theorem dX12_image_1 : decode cX12_image 1 = .ok (.iconst 0, 1) := by decide +kernel
theorem dX12_image_2 : decode cX12_image 2 = .ok (.putfield 67, 3) := by decide +kernel
theorem dX12_image_5 : decode cX12_image 5 = .ok (.iload_n 1, 1) := by decide +kernel
theorem dX12_image_6 : decode cX12_image 6 = .ok (.i2l, 1) := by decide +kernel
theorem dX12_image_7 : decode cX12_image 7 = .ok (.lconst 0, 1) := by decide +kernel
theorem dX12_image_8 : decode cX12_image 8 = .ok (.lconst 1, 1) := by decide +kernel
theorem dX12_image_9 : decode cX12_image 9 = .ok (.invokestatic 83, 3) := by decide +kernel
theorem dX12_image_12 : decode cX12_image 12 = .ok (.ifCond .ne 9, 3) := by decide +kernel
theorem dX12_image_15 : decode cX12_image 15 = .ok (.aload_n 0, 1) := by decide +kernel
theorem dX12_image_16 : decode cX12_image 16 = .ok (.iconst (-1), 1) := by decide +kernel
theorem dX12_image_17 : decode cX12_image 17 = .ok (.invokevirtual 76, 3) := by decide +kernel
theorem dX12_image_20 : decode cX12_image 20 = .ok (.ireturn, 1) := by decide +kernel
theorem dX12_image_21 : decode cX12_image 21 = .ok (.iconst 0, 1) := by decide +kernel
theorem dX12_image_22 : decode cX12_image 22 = .ok (.istore_n 2, 1) := by decide +kernel
theorem dX12_image_23 : decode cX12_image 23 = .ok (.iload_n 2, 1) := by decide +kernel
theorem dX12_image_24 : decode cX12_image 24 = .ok (.sipush 906, 3) := by decide +kernel
theorem dX12_image_27 : decode cX12_image 27 = .ok (.if_icmp .ge 27, 3) := by decide +kernel
theorem dX12_image_30 : decode cX12_image 30 = .ok (.aload_n 0, 1) := by decide +kernel
theorem dX12_image_31 : decode cX12_image 31 = .ok (.getfield 26, 3) := by decide +kernel
theorem dX12_image_34 : decode cX12_image 34 = .ok (.sipush 906, 3) := by decide +kernel
theorem dX12_image_37 : decode cX12_image 37 = .ok (.iload_n 1, 1) := by decide +kernel
theorem dX12_image_38 : decode cX12_image 38 = .ok (.imul, 1) := by decide +kernel
theorem dX12_image_39 : decode cX12_image 39 = .ok (.iload_n 2, 1) := by decide +kernel
theorem dX12_image_40 : decode cX12_image 40 = .ok (.iadd, 1) := by decide +kernel
theorem dX12_image_41 : decode cX12_image 41 = .ok (.aload_n 0, 1) := by decide +kernel
theorem dX12_image_42 : decode cX12_image 42 = .ok (.getfield 16, 3) := by decide +kernel
theorem dX12_image_45 : decode cX12_image 45 = .ok (.iload_n 2, 1) := by decide +kernel
theorem dX12_image_46 : decode cX12_image 46 = .ok (.laload, 1) := by decide +kernel
theorem dX12_image_47 : decode cX12_image 47 = .ok (.lastore, 1) := by decide +kernel
theorem dX12_image_48 : decode cX12_image 48 = .ok (.iinc 2 1, 3) := by decide +kernel
theorem dX12_image_51 : decode cX12_image 51 = .ok (.goto (-28), 3) := by decide +kernel
theorem dX12_image_54 : decode cX12_image 54 = .ok (.aload_n 0, 1) := by decide +kernel
theorem dX12_image_55 : decode cX12_image 55 = .ok (.getfield 29, 3) := by decide +kernel
theorem dX12_image_58 : decode cX12_image 58 = .ok (.iload_n 1, 1) := by decide +kernel
theorem dX12_image_59 : decode cX12_image 59 = .ok (.iconst 1, 1) := by decide +kernel
theorem dX12_image_60 : decode cX12_image 60 = .ok (.bastore, 1) := by decide +kernel
theorem dX12_image_61 : decode cX12_image 61 = .ok (.aload_n 0, 1) := by decide +kernel
theorem dX12_image_62 : decode cX12_image 62 = .ok (.aload_n 0, 1) := by decide +kernel
theorem dX12_image_63 : decode cX12_image 63 = .ok (.getfield 16, 3) := by decide +kernel
theorem dX12_image_66 : decode cX12_image 66 = .ok (.iconst 1, 1) := by decide +kernel
theorem dX12_image_67 : decode cX12_image 67 = .ok (.laload, 1) := by decide +kernel
theorem dX12_image_68 : decode cX12_image 68 = .ok (.l2i, 1) := by decide +kernel
theorem dX12_image_69 : decode cX12_image 69 = .ok (.invokevirtual 80, 3) := by decide +kernel
theorem dX12_image_72 : decode cX12_image 72 = .ok (.ireturn, 1) := by decide +kernel
theorem dX12_back_0 : decode cX12_back 0 = .ok (.aload_n 0, 1) := by decide +kernel
theorem dX12_back_1 : decode cX12_back 1 = .ok (.iconst 0, 1) := by decide +kernel
theorem dX12_back_2 : decode cX12_back 2 = .ok (.putfield 67, 3) := by decide +kernel
theorem dX12_back_5 : decode cX12_back 5 = .ok (.iload_n 1, 1) := by decide +kernel
theorem dX12_back_6 : decode cX12_back 6 = .ok (.i2l, 1) := by decide +kernel
theorem dX12_back_7 : decode cX12_back 7 = .ok (.lconst 0, 1) := by decide +kernel
theorem dX12_back_8 : decode cX12_back 8 = .ok (.lconst 1, 1) := by decide +kernel
theorem dX12_back_9 : decode cX12_back 9 = .ok (.invokestatic 83, 3) := by decide +kernel
theorem dX12_back_12 : decode cX12_back 12 = .ok (.ifCond .ne 9, 3) := by decide +kernel
theorem dX12_back_15 : decode cX12_back 15 = .ok (.aload_n 0, 1) := by decide +kernel
theorem dX12_back_16 : decode cX12_back 16 = .ok (.iconst (-1), 1) := by decide +kernel
theorem dX12_back_17 : decode cX12_back 17 = .ok (.invokevirtual 76, 3) := by decide +kernel
theorem dX12_back_20 : decode cX12_back 20 = .ok (.ireturn, 1) := by decide +kernel
theorem dX12_back_21 : decode cX12_back 21 = .ok (.aload_n 0, 1) := by decide +kernel
theorem dX12_back_22 : decode cX12_back 22 = .ok (.getfield 29, 3) := by decide +kernel
theorem dX12_back_25 : decode cX12_back 25 = .ok (.iload_n 1, 1) := by decide +kernel
theorem dX12_back_26 : decode cX12_back 26 = .ok (.baload, 1) := by decide +kernel
theorem dX12_back_27 : decode cX12_back 27 = .ok (.ifCond .ne 10, 3) := by decide +kernel
theorem dX12_back_30 : decode cX12_back 30 = .ok (.aload_n 0, 1) := by decide +kernel
theorem dX12_back_31 : decode cX12_back 31 = .ok (.bipush (-4), 2) := by decide +kernel
theorem dX12_back_33 : decode cX12_back 33 = .ok (.invokevirtual 76, 3) := by decide +kernel
theorem dX12_back_36 : decode cX12_back 36 = .ok (.ireturn, 1) := by decide +kernel
theorem dX12_back_37 : decode cX12_back 37 = .ok (.iconst 0, 1) := by decide +kernel
theorem dX12_back_38 : decode cX12_back 38 = .ok (.istore_n 2, 1) := by decide +kernel
theorem dX12_back_39 : decode cX12_back 39 = .ok (.iload_n 2, 1) := by decide +kernel
theorem dX12_back_40 : decode cX12_back 40 = .ok (.sipush 906, 3) := by decide +kernel
theorem dX12_back_43 : decode cX12_back 43 = .ok (.if_icmp .ge 27, 3) := by decide +kernel
theorem dX12_back_46 : decode cX12_back 46 = .ok (.aload_n 0, 1) := by decide +kernel
theorem dX12_back_47 : decode cX12_back 47 = .ok (.getfield 16, 3) := by decide +kernel
theorem dX12_back_50 : decode cX12_back 50 = .ok (.iload_n 2, 1) := by decide +kernel
theorem dX12_back_51 : decode cX12_back 51 = .ok (.aload_n 0, 1) := by decide +kernel
theorem dX12_back_52 : decode cX12_back 52 = .ok (.getfield 26, 3) := by decide +kernel
theorem dX12_back_55 : decode cX12_back 55 = .ok (.sipush 906, 3) := by decide +kernel
theorem dX12_back_58 : decode cX12_back 58 = .ok (.iload_n 1, 1) := by decide +kernel
theorem dX12_back_59 : decode cX12_back 59 = .ok (.imul, 1) := by decide +kernel
theorem dX12_back_60 : decode cX12_back 60 = .ok (.iload_n 2, 1) := by decide +kernel
theorem dX12_back_61 : decode cX12_back 61 = .ok (.iadd, 1) := by decide +kernel
theorem dX12_back_62 : decode cX12_back 62 = .ok (.laload, 1) := by decide +kernel
theorem dX12_back_63 : decode cX12_back 63 = .ok (.lastore, 1) := by decide +kernel
theorem dX12_back_64 : decode cX12_back 64 = .ok (.iinc 2 1, 3) := by decide +kernel
theorem dX12_back_67 : decode cX12_back 67 = .ok (.goto (-28), 3) := by decide +kernel
theorem dX12_back_70 : decode cX12_back 70 = .ok (.aload_n 0, 1) := by decide +kernel
theorem dX12_back_71 : decode cX12_back 71 = .ok (.iconst 0, 1) := by decide +kernel
theorem dX12_back_72 : decode cX12_back 72 = .ok (.putfield 73, 3) := by decide +kernel
theorem dX12_back_75 : decode cX12_back 75 = .ok (.aload_n 0, 1) := by decide +kernel
theorem dX12_back_76 : decode cX12_back 76 = .ok (.aload_n 0, 1) := by decide +kernel
theorem dX12_back_77 : decode cX12_back 77 = .ok (.getfield 16, 3) := by decide +kernel
theorem dX12_back_80 : decode cX12_back 80 = .ok (.iconst 1, 1) := by decide +kernel
theorem dX12_back_81 : decode cX12_back 81 = .ok (.laload, 1) := by decide +kernel
theorem dX12_back_82 : decode cX12_back 82 = .ok (.l2i, 1) := by decide +kernel
theorem dX12_back_83 : decode cX12_back 83 = .ok (.invokevirtual 80, 3) := by decide +kernel
theorem dX12_back_86 : decode cX12_back 86 = .ok (.ireturn, 1) := by decide +kernel
theorem dX12_isSmall_0 : decode cX12_isSmall 0 = .ok (.iload_n 0, 1) := by decide +kernel
theorem dX12_isSmall_1 : decode cX12_isSmall 1 = .ok (.bipush 97, 2) := by decide +kernel
theorem dX12_isSmall_3 : decode cX12_isSmall 3 = .ok (.if_icmp .lt 13, 3) := by decide +kernel
theorem dX12_isSmall_6 : decode cX12_isSmall 6 = .ok (.iload_n 0, 1) := by decide +kernel
theorem dX12_isSmall_7 : decode cX12_isSmall 7 = .ok (.bipush 122, 2) := by decide +kernel
theorem dX12_isSmall_9 : decode cX12_isSmall 9 = .ok (.if_icmp .gt 7, 3) := by decide +kernel
theorem dX12_isSmall_12 : decode cX12_isSmall 12 = .ok (.iconst 1, 1) := by decide +kernel
theorem dX12_isSmall_13 : decode cX12_isSmall 13 = .ok (.goto 4, 3) := by decide +kernel
theorem dX12_isSmall_16 : decode cX12_isSmall 16 = .ok (.iconst 0, 1) := by decide +kernel
theorem dX12_isSmall_17 : decode cX12_isSmall 17 = .ok (.ireturn, 1) := by decide +kernel
theorem dX12_isDigit_0 : decode cX12_isDigit 0 = .ok (.iload_n 0, 1) := by decide +kernel
theorem dX12_isDigit_1 : decode cX12_isDigit 1 = .ok (.bipush 48, 2) := by decide +kernel
theorem dX12_isDigit_3 : decode cX12_isDigit 3 = .ok (.if_icmp .lt 13, 3) := by decide +kernel
theorem dX12_isDigit_6 : decode cX12_isDigit 6 = .ok (.iload_n 0, 1) := by decide +kernel
theorem dX12_isDigit_7 : decode cX12_isDigit 7 = .ok (.bipush 57, 2) := by decide +kernel
theorem dX12_isDigit_9 : decode cX12_isDigit 9 = .ok (.if_icmp .gt 7, 3) := by decide +kernel
theorem dX12_isDigit_12 : decode cX12_isDigit 12 = .ok (.iconst 1, 1) := by decide +kernel
theorem dX12_isDigit_13 : decode cX12_isDigit 13 = .ok (.goto 4, 3) := by decide +kernel
theorem dX12_isDigit_16 : decode cX12_isDigit 16 = .ok (.iconst 0, 1) := by decide +kernel
theorem dX12_isDigit_17 : decode cX12_isDigit 17 = .ok (.ireturn, 1) := by decide +kernel
theorem dX12_next_0 : decode cX12_next 0 = .ok (.aload_n 0, 1) := by decide +kernel
theorem dX12_next_1 : decode cX12_next 1 = .ok (.aload_n 0, 1) := by decide +kernel
theorem dX12_next_2 : decode cX12_next 2 = .ok (.getfield 174, 3) := by decide +kernel
theorem dX12_next_5 : decode cX12_next 5 = .ok (.putfield 177, 3) := by decide +kernel
theorem dX12_next_8 : decode cX12_next 8 = .ok (.aload_n 0, 1) := by decide +kernel
theorem dX12_next_9 : decode cX12_next 9 = .ok (.getfield 177, 3) := by decide +kernel
theorem dX12_next_12 : decode cX12_next 12 = .ok (.aload_n 0, 1) := by decide +kernel
theorem dX12_next_13 : decode cX12_next 13 = .ok (.getfield 128, 3) := by decide +kernel
theorem dX12_next_16 : decode cX12_next 16 = .ok (.if_icmp .ge 30, 3) := by decide +kernel
theorem dX12_next_19 : decode cX12_next 19 = .ok (.aload_n 0, 1) := by decide +kernel
theorem dX12_next_20 : decode cX12_next 20 = .ok (.getfield 36, 3) := by decide +kernel
theorem dX12_next_23 : decode cX12_next 23 = .ok (.aload_n 0, 1) := by decide +kernel
theorem dX12_next_24 : decode cX12_next 24 = .ok (.getfield 177, 3) := by decide +kernel
theorem dX12_next_27 : decode cX12_next 27 = .ok (.iaload, 1) := by decide +kernel
theorem dX12_next_28 : decode cX12_next 28 = .ok (.bipush 32, 2) := by decide +kernel
theorem dX12_next_30 : decode cX12_next 30 = .ok (.if_icmp .ne 16, 3) := by decide +kernel
theorem dX12_next_33 : decode cX12_next 33 = .ok (.aload_n 0, 1) := by decide +kernel
theorem dX12_next_34 : decode cX12_next 34 = .ok (.dup, 1) := by decide +kernel
theorem dX12_next_35 : decode cX12_next 35 = .ok (.getfield 177, 3) := by decide +kernel
theorem dX12_next_38 : decode cX12_next 38 = .ok (.iconst 1, 1) := by decide +kernel
theorem dX12_next_39 : decode cX12_next 39 = .ok (.iadd, 1) := by decide +kernel
theorem dX12_next_40 : decode cX12_next 40 = .ok (.putfield 177, 3) := by decide +kernel
theorem dX12_next_43 : decode cX12_next 43 = .ok (.goto (-35), 3) := by decide +kernel
theorem dX12_next_46 : decode cX12_next 46 = .ok (.aload_n 0, 1) := by decide +kernel
theorem dX12_next_47 : decode cX12_next 47 = .ok (.aload_n 0, 1) := by decide +kernel
theorem dX12_next_48 : decode cX12_next 48 = .ok (.getfield 177, 3) := by decide +kernel
theorem dX12_next_51 : decode cX12_next 51 = .ok (.putfield 174, 3) := by decide +kernel
theorem dX12_next_54 : decode cX12_next 54 = .ok (.aload_n 0, 1) := by decide +kernel
theorem dX12_next_55 : decode cX12_next 55 = .ok (.lconst 0, 1) := by decide +kernel
theorem dX12_next_56 : decode cX12_next 56 = .ok (.putfield 180, 3) := by decide +kernel
theorem dX12_next_59 : decode cX12_next 59 = .ok (.aload_n 0, 1) := by decide +kernel
theorem dX12_next_60 : decode cX12_next 60 = .ok (.aload_n 0, 1) := by decide +kernel
theorem dX12_next_61 : decode cX12_next 61 = .ok (.getfield 177, 3) := by decide +kernel
theorem dX12_next_64 : decode cX12_next 64 = .ok (.aload_n 0, 1) := by decide +kernel
theorem dX12_next_65 : decode cX12_next 65 = .ok (.getfield 128, 3) := by decide +kernel
theorem dX12_next_68 : decode cX12_next 68 = .ok (.if_icmp .ne 7, 3) := by decide +kernel
theorem dX12_next_71 : decode cX12_next 71 = .ok (.iconst 0, 1) := by decide +kernel
theorem dX12_next_72 : decode cX12_next 72 = .ok (.goto 42, 3) := by decide +kernel
theorem dX12_next_75 : decode cX12_next 75 = .ok (.aload_n 0, 1) := by decide +kernel
theorem dX12_next_76 : decode cX12_next 76 = .ok (.getfield 36, 3) := by decide +kernel
theorem dX12_next_79 : decode cX12_next 79 = .ok (.aload_n 0, 1) := by decide +kernel
theorem dX12_next_80 : decode cX12_next 80 = .ok (.getfield 177, 3) := by decide +kernel
theorem dX12_next_83 : decode cX12_next 83 = .ok (.iaload, 1) := by decide +kernel
theorem dX12_next_84 : decode cX12_next 84 = .ok (.invokestatic 184, 3) := by decide +kernel
theorem dX12_next_87 : decode cX12_next 87 = .ok (.ifCond .eq 7, 3) := by decide +kernel
theorem dX12_next_90 : decode cX12_next 90 = .ok (.iconst 1, 1) := by decide +kernel
theorem dX12_next_91 : decode cX12_next 91 = .ok (.goto 23, 3) := by decide +kernel
theorem dX12_next_94 : decode cX12_next 94 = .ok (.aload_n 0, 1) := by decide +kernel
theorem dX12_next_95 : decode cX12_next 95 = .ok (.getfield 36, 3) := by decide +kernel
theorem dX12_next_98 : decode cX12_next 98 = .ok (.aload_n 0, 1) := by decide +kernel
theorem dX12_next_99 : decode cX12_next 99 = .ok (.getfield 177, 3) := by decide +kernel
theorem dX12_next_102 : decode cX12_next 102 = .ok (.iaload, 1) := by decide +kernel
theorem dX12_next_103 : decode cX12_next 103 = .ok (.invokestatic 187, 3) := by decide +kernel
theorem dX12_next_106 : decode cX12_next 106 = .ok (.ifCond .eq 7, 3) := by decide +kernel
theorem dX12_next_109 : decode cX12_next 109 = .ok (.iconst 2, 1) := by decide +kernel
theorem dX12_next_110 : decode cX12_next 110 = .ok (.goto 4, 3) := by decide +kernel
theorem dX12_next_113 : decode cX12_next 113 = .ok (.iconst 3, 1) := by decide +kernel
theorem dX12_next_114 : decode cX12_next 114 = .ok (.putfield 190, 3) := by decide +kernel
theorem dX12_next_117 : decode cX12_next 117 = .ok (.aload_n 0, 1) := by decide +kernel
theorem dX12_next_118 : decode cX12_next 118 = .ok (.getfield 190, 3) := by decide +kernel
theorem dX12_next_121 : decode cX12_next 121 = .ok (.iconst 3, 1) := by decide +kernel
theorem dX12_next_122 : decode cX12_next 122 = .ok (.if_icmp .ne 27, 3) := by decide +kernel
theorem dX12_next_125 : decode cX12_next 125 = .ok (.aload_n 0, 1) := by decide +kernel
theorem dX12_next_126 : decode cX12_next 126 = .ok (.aload_n 0, 1) := by decide +kernel
theorem dX12_next_127 : decode cX12_next 127 = .ok (.getfield 36, 3) := by decide +kernel
theorem dX12_next_130 : decode cX12_next 130 = .ok (.aload_n 0, 1) := by decide +kernel
theorem dX12_next_131 : decode cX12_next 131 = .ok (.getfield 177, 3) := by decide +kernel
theorem dX12_next_134 : decode cX12_next 134 = .ok (.iaload, 1) := by decide +kernel
theorem dX12_next_135 : decode cX12_next 135 = .ok (.i2l, 1) := by decide +kernel
theorem dX12_next_136 : decode cX12_next 136 = .ok (.putfield 180, 3) := by decide +kernel
theorem dX12_next_139 : decode cX12_next 139 = .ok (.aload_n 0, 1) := by decide +kernel
theorem dX12_next_140 : decode cX12_next 140 = .ok (.dup, 1) := by decide +kernel
theorem dX12_next_141 : decode cX12_next 141 = .ok (.getfield 174, 3) := by decide +kernel
theorem dX12_next_144 : decode cX12_next 144 = .ok (.iconst 1, 1) := by decide +kernel
theorem dX12_next_145 : decode cX12_next 145 = .ok (.iadd, 1) := by decide +kernel
theorem dX12_next_146 : decode cX12_next 146 = .ok (.putfield 174, 3) := by decide +kernel
theorem dX12_next_149 : decode cX12_next 149 = .ok (.aload_n 0, 1) := by decide +kernel
theorem dX12_next_150 : decode cX12_next 150 = .ok (.getfield 190, 3) := by decide +kernel
theorem dX12_next_153 : decode cX12_next 153 = .ok (.iconst 1, 1) := by decide +kernel
theorem dX12_next_154 : decode cX12_next 154 = .ok (.if_icmp .ne 89, 3) := by decide +kernel
theorem dX12_next_157 : decode cX12_next 157 = .ok (.aload_n 0, 1) := by decide +kernel
theorem dX12_next_158 : decode cX12_next 158 = .ok (.getfield 174, 3) := by decide +kernel
theorem dX12_next_161 : decode cX12_next 161 = .ok (.aload_n 0, 1) := by decide +kernel
theorem dX12_next_162 : decode cX12_next 162 = .ok (.getfield 128, 3) := by decide +kernel
theorem dX12_next_165 : decode cX12_next 165 = .ok (.if_icmp .ge 78, 3) := by decide +kernel
theorem dX12_next_168 : decode cX12_next 168 = .ok (.aload_n 0, 1) := by decide +kernel
theorem dX12_next_169 : decode cX12_next 169 = .ok (.getfield 36, 3) := by decide +kernel
theorem dX12_next_172 : decode cX12_next 172 = .ok (.aload_n 0, 1) := by decide +kernel
theorem dX12_next_173 : decode cX12_next 173 = .ok (.getfield 174, 3) := by decide +kernel
theorem dX12_next_176 : decode cX12_next 176 = .ok (.iaload, 1) := by decide +kernel
theorem dX12_next_177 : decode cX12_next 177 = .ok (.invokestatic 184, 3) := by decide +kernel
theorem dX12_next_180 : decode cX12_next 180 = .ok (.ifCond .eq 63, 3) := by decide +kernel
theorem dX12_next_183 : decode cX12_next 183 = .ok (.aload_n 0, 1) := by decide +kernel
theorem dX12_next_184 : decode cX12_next 184 = .ok (.aload_n 0, 1) := by decide +kernel
theorem dX12_next_185 : decode cX12_next 185 = .ok (.getfield 174, 3) := by decide +kernel
theorem dX12_next_188 : decode cX12_next 188 = .ok (.aload_n 0, 1) := by decide +kernel
theorem dX12_next_189 : decode cX12_next 189 = .ok (.getfield 177, 3) := by decide +kernel
theorem dX12_next_192 : decode cX12_next 192 = .ok (.isub, 1) := by decide +kernel
theorem dX12_next_193 : decode cX12_next 193 = .ok (.bipush 10, 2) := by decide +kernel
theorem dX12_next_195 : decode cX12_next 195 = .ok (.if_icmp .ge 29, 3) := by decide +kernel
theorem dX12_next_198 : decode cX12_next 198 = .ok (.aload_n 0, 1) := by decide +kernel
theorem dX12_next_199 : decode cX12_next 199 = .ok (.getfield 180, 3) := by decide +kernel
theorem dX12_next_202 : decode cX12_next 202 = .ok (.ldc2_w 193, 3) := by decide +kernel
theorem dX12_next_205 : decode cX12_next 205 = .ok (.lmul, 1) := by decide +kernel
theorem dX12_next_206 : decode cX12_next 206 = .ok (.aload_n 0, 1) := by decide +kernel
theorem dX12_next_207 : decode cX12_next 207 = .ok (.getfield 36, 3) := by decide +kernel
theorem dX12_next_210 : decode cX12_next 210 = .ok (.aload_n 0, 1) := by decide +kernel
theorem dX12_next_211 : decode cX12_next 211 = .ok (.getfield 174, 3) := by decide +kernel
theorem dX12_next_214 : decode cX12_next 214 = .ok (.iaload, 1) := by decide +kernel
theorem dX12_next_215 : decode cX12_next 215 = .ok (.i2l, 1) := by decide +kernel
theorem dX12_next_216 : decode cX12_next 216 = .ok (.ladd, 1) := by decide +kernel
theorem dX12_next_217 : decode cX12_next 217 = .ok (.ldc2_w 195, 3) := by decide +kernel
theorem dX12_next_220 : decode cX12_next 220 = .ok (.lsub, 1) := by decide +kernel
theorem dX12_next_221 : decode cX12_next 221 = .ok (.goto 6, 3) := by decide +kernel
theorem dX12_next_224 : decode cX12_next 224 = .ok (.ldc2_w 65, 3) := by decide +kernel
theorem dX12_next_227 : decode cX12_next 227 = .ok (.putfield 180, 3) := by decide +kernel
theorem dX12_next_230 : decode cX12_next 230 = .ok (.aload_n 0, 1) := by decide +kernel
theorem dX12_next_231 : decode cX12_next 231 = .ok (.dup, 1) := by decide +kernel
theorem dX12_next_232 : decode cX12_next 232 = .ok (.getfield 174, 3) := by decide +kernel
theorem dX12_next_235 : decode cX12_next 235 = .ok (.iconst 1, 1) := by decide +kernel
theorem dX12_next_236 : decode cX12_next 236 = .ok (.iadd, 1) := by decide +kernel
theorem dX12_next_237 : decode cX12_next 237 = .ok (.putfield 174, 3) := by decide +kernel
theorem dX12_next_240 : decode cX12_next 240 = .ok (.goto (-91), 3) := by decide +kernel
theorem dX12_next_243 : decode cX12_next 243 = .ok (.aload_n 0, 1) := by decide +kernel
theorem dX12_next_244 : decode cX12_next 244 = .ok (.getfield 190, 3) := by decide +kernel
theorem dX12_next_247 : decode cX12_next 247 = .ok (.iconst 2, 1) := by decide +kernel
theorem dX12_next_248 : decode cX12_next 248 = .ok (.if_icmp .ne 87, 3) := by decide +kernel
theorem dX12_next_251 : decode cX12_next 251 = .ok (.aload_n 0, 1) := by decide +kernel
theorem dX12_next_252 : decode cX12_next 252 = .ok (.getfield 174, 3) := by decide +kernel
theorem dX12_next_255 : decode cX12_next 255 = .ok (.aload_n 0, 1) := by decide +kernel
theorem dX12_next_256 : decode cX12_next 256 = .ok (.getfield 128, 3) := by decide +kernel
theorem dX12_next_259 : decode cX12_next 259 = .ok (.if_icmp .ge 76, 3) := by decide +kernel
theorem dX12_next_262 : decode cX12_next 262 = .ok (.aload_n 0, 1) := by decide +kernel
theorem dX12_next_263 : decode cX12_next 263 = .ok (.getfield 36, 3) := by decide +kernel
theorem dX12_next_266 : decode cX12_next 266 = .ok (.aload_n 0, 1) := by decide +kernel
theorem dX12_next_267 : decode cX12_next 267 = .ok (.getfield 174, 3) := by decide +kernel
theorem dX12_next_270 : decode cX12_next 270 = .ok (.iaload, 1) := by decide +kernel
theorem dX12_next_271 : decode cX12_next 271 = .ok (.invokestatic 187, 3) := by decide +kernel
theorem dX12_next_274 : decode cX12_next 274 = .ok (.ifCond .eq 61, 3) := by decide +kernel
theorem dX12_next_277 : decode cX12_next 277 = .ok (.aload_n 0, 1) := by decide +kernel
theorem dX12_next_278 : decode cX12_next 278 = .ok (.aload_n 0, 1) := by decide +kernel
theorem dX12_next_279 : decode cX12_next 279 = .ok (.getfield 180, 3) := by decide +kernel
theorem dX12_next_282 : decode cX12_next 282 = .ok (.ldc2_w 126, 3) := by decide +kernel
theorem dX12_next_285 : decode cX12_next 285 = .ok (.lcmp, 1) := by decide +kernel
theorem dX12_next_286 : decode cX12_next 286 = .ok (.ifCond .le 10, 3) := by decide +kernel
theorem dX12_next_289 : decode cX12_next 289 = .ok (.aload_n 0, 1) := by decide +kernel
theorem dX12_next_290 : decode cX12_next 290 = .ok (.getfield 180, 3) := by decide +kernel
theorem dX12_next_293 : decode cX12_next 293 = .ok (.goto 26, 3) := by decide +kernel
theorem dX12_next_296 : decode cX12_next 296 = .ok (.aload_n 0, 1) := by decide +kernel
theorem dX12_next_297 : decode cX12_next 297 = .ok (.getfield 180, 3) := by decide +kernel
theorem dX12_next_300 : decode cX12_next 300 = .ok (.ldc2_w 197, 3) := by decide +kernel
theorem dX12_next_303 : decode cX12_next 303 = .ok (.lmul, 1) := by decide +kernel
theorem dX12_next_304 : decode cX12_next 304 = .ok (.aload_n 0, 1) := by decide +kernel
theorem dX12_next_305 : decode cX12_next 305 = .ok (.getfield 36, 3) := by decide +kernel
theorem dX12_next_308 : decode cX12_next 308 = .ok (.aload_n 0, 1) := by decide +kernel
theorem dX12_next_309 : decode cX12_next 309 = .ok (.getfield 174, 3) := by decide +kernel
theorem dX12_next_312 : decode cX12_next 312 = .ok (.iaload, 1) := by decide +kernel
theorem dX12_next_313 : decode cX12_next 313 = .ok (.i2l, 1) := by decide +kernel
theorem dX12_next_314 : decode cX12_next 314 = .ok (.ladd, 1) := by decide +kernel
theorem dX12_next_315 : decode cX12_next 315 = .ok (.ldc2_w 199, 3) := by decide +kernel
theorem dX12_next_318 : decode cX12_next 318 = .ok (.lsub, 1) := by decide +kernel
theorem dX12_next_319 : decode cX12_next 319 = .ok (.putfield 180, 3) := by decide +kernel
theorem dX12_next_322 : decode cX12_next 322 = .ok (.aload_n 0, 1) := by decide +kernel
theorem dX12_next_323 : decode cX12_next 323 = .ok (.dup, 1) := by decide +kernel
theorem dX12_next_324 : decode cX12_next 324 = .ok (.getfield 174, 3) := by decide +kernel
theorem dX12_next_327 : decode cX12_next 327 = .ok (.iconst 1, 1) := by decide +kernel
theorem dX12_next_328 : decode cX12_next 328 = .ok (.iadd, 1) := by decide +kernel
theorem dX12_next_329 : decode cX12_next 329 = .ok (.putfield 174, 3) := by decide +kernel
theorem dX12_next_332 : decode cX12_next 332 = .ok (.goto (-89), 3) := by decide +kernel
theorem dX12_next_335 : decode cX12_next 335 = .ok (.return_, 1) := by decide +kernel
theorem dX12_must_0 : decode cX12_must 0 = .ok (.aload_n 0, 1) := by decide +kernel
theorem dX12_must_1 : decode cX12_must 1 = .ok (.getfield 201, 3) := by decide +kernel
theorem dX12_must_4 : decode cX12_must 4 = .ok (.ifCond .ne 20, 3) := by decide +kernel
theorem dX12_must_7 : decode cX12_must 7 = .ok (.iload_n 1, 1) := by decide +kernel
theorem dX12_must_8 : decode cX12_must 8 = .ok (.ifCond .ne 16, 3) := by decide +kernel
theorem dX12_must_11 : decode cX12_must 11 = .ok (.aload_n 0, 1) := by decide +kernel
theorem dX12_must_12 : decode cX12_must 12 = .ok (.iconst 1, 1) := by decide +kernel
theorem dX12_must_13 : decode cX12_must 13 = .ok (.putfield 201, 3) := by decide +kernel
theorem dX12_must_16 : decode cX12_must 16 = .ok (.aload_n 0, 1) := by decide +kernel
theorem dX12_must_17 : decode cX12_must 17 = .ok (.aload_n 0, 1) := by decide +kernel
theorem dX12_must_18 : decode cX12_must 18 = .ok (.getfield 177, 3) := by decide +kernel
theorem dX12_must_21 : decode cX12_must 21 = .ok (.putfield 39, 3) := by decide +kernel
theorem dX12_must_24 : decode cX12_must 24 = .ok (.aload_n 0, 1) := by decide +kernel
theorem dX12_must_25 : decode cX12_must 25 = .ok (.getfield 201, 3) := by decide +kernel
theorem dX12_must_28 : decode cX12_must 28 = .ok (.ifCond .ne 7, 3) := by decide +kernel
theorem dX12_must_31 : decode cX12_must 31 = .ok (.aload_n 0, 1) := by decide +kernel
theorem dX12_must_32 : decode cX12_must 32 = .ok (.invokevirtual 205, 3) := by decide +kernel
theorem dX12_must_35 : decode cX12_must 35 = .ok (.return_, 1) := by decide +kernel
theorem dX12_readStep_0 : decode cX12_readStep 0 = .ok (.iconst (-1), 1) := by decide +kernel
theorem dX12_readStep_1 : decode cX12_readStep 1 = .ok (.istore_n 1, 1) := by decide +kernel
theorem dX12_readStep_2 : decode cX12_readStep 2 = .ok (.iconst 0, 1) := by decide +kernel
theorem dX12_readStep_3 : decode cX12_readStep 3 = .ok (.istore_n 2, 1) := by decide +kernel
theorem dX12_readStep_4 : decode cX12_readStep 4 = .ok (.iload_n 2, 1) := by decide +kernel
theorem dX12_readStep_5 : decode cX12_readStep 5 = .ok (.iconst 5, 1) := by decide +kernel
theorem dX12_readStep_6 : decode cX12_readStep 6 = .ok (.if_icmp .ge 37, 3) := by decide +kernel
theorem dX12_readStep_9 : decode cX12_readStep 9 = .ok (.aload_n 0, 1) := by decide +kernel
theorem dX12_readStep_10 : decode cX12_readStep 10 = .ok (.getfield 190, 3) := by decide +kernel
theorem dX12_readStep_13 : decode cX12_readStep 13 = .ok (.iconst 1, 1) := by decide +kernel
theorem dX12_readStep_14 : decode cX12_readStep 14 = .ok (.if_icmp .ne 21, 3) := by decide +kernel
theorem dX12_readStep_17 : decode cX12_readStep 17 = .ok (.aload_n 0, 1) := by decide +kernel
theorem dX12_readStep_18 : decode cX12_readStep 18 = .ok (.getfield 180, 3) := by decide +kernel
theorem dX12_readStep_21 : decode cX12_readStep 21 = .ok (.aload_n 0, 1) := by decide +kernel
theorem dX12_readStep_22 : decode cX12_readStep 22 = .ok (.getfield 53, 3) := by decide +kernel
theorem dX12_readStep_25 : decode cX12_readStep 25 = .ok (.iload_n 2, 1) := by decide +kernel
theorem dX12_readStep_26 : decode cX12_readStep 26 = .ok (.laload, 1) := by decide +kernel
theorem dX12_readStep_27 : decode cX12_readStep 27 = .ok (.lcmp, 1) := by decide +kernel
theorem dX12_readStep_28 : decode cX12_readStep 28 = .ok (.ifCond .ne 7, 3) := by decide +kernel
theorem dX12_readStep_31 : decode cX12_readStep 31 = .ok (.iload_n 2, 1) := by decide +kernel
theorem dX12_readStep_32 : decode cX12_readStep 32 = .ok (.goto 4, 3) := by decide +kernel
theorem dX12_readStep_35 : decode cX12_readStep 35 = .ok (.iload_n 1, 1) := by decide +kernel
theorem dX12_readStep_36 : decode cX12_readStep 36 = .ok (.istore_n 1, 1) := by decide +kernel
theorem dX12_readStep_37 : decode cX12_readStep 37 = .ok (.iinc 2 1, 3) := by decide +kernel
theorem dX12_readStep_40 : decode cX12_readStep 40 = .ok (.goto (-36), 3) := by decide +kernel
theorem dX12_readStep_43 : decode cX12_readStep 43 = .ok (.aload_n 0, 1) := by decide +kernel
theorem dX12_readStep_44 : decode cX12_readStep 44 = .ok (.iload_n 1, 1) := by decide +kernel
theorem dX12_readStep_45 : decode cX12_readStep 45 = .ok (.iconst (-1), 1) := by decide +kernel
theorem dX12_readStep_46 : decode cX12_readStep 46 = .ok (.if_icmp .eq 16, 3) := by decide +kernel
theorem dX12_readStep_49 : decode cX12_readStep 49 = .ok (.aload_n 0, 1) := by decide +kernel
theorem dX12_readStep_50 : decode cX12_readStep 50 = .ok (.getfield 208, 3) := by decide +kernel
theorem dX12_readStep_53 : decode cX12_readStep 53 = .ok (.bipush 8, 2) := by decide +kernel
theorem dX12_readStep_55 : decode cX12_readStep 55 = .ok (.if_icmp .ge 7, 3) := by decide +kernel
theorem dX12_readStep_58 : decode cX12_readStep 58 = .ok (.iconst 1, 1) := by decide +kernel
theorem dX12_readStep_59 : decode cX12_readStep 59 = .ok (.goto 4, 3) := by decide +kernel
theorem dX12_readStep_62 : decode cX12_readStep 62 = .ok (.iconst 0, 1) := by decide +kernel
theorem dX12_readStep_63 : decode cX12_readStep 63 = .ok (.invokevirtual 211, 3) := by decide +kernel
theorem dX12_readStep_66 : decode cX12_readStep 66 = .ok (.aload_n 0, 1) := by decide +kernel
theorem dX12_readStep_67 : decode cX12_readStep 67 = .ok (.getfield 201, 3) := by decide +kernel
theorem dX12_readStep_70 : decode cX12_readStep 70 = .ok (.ifCond .eq 4, 3) := by decide +kernel
theorem dX12_readStep_73 : decode cX12_readStep 73 = .ok (.return_, 1) := by decide +kernel
theorem dX12_readStep_74 : decode cX12_readStep 74 = .ok (.aload_n 0, 1) := by decide +kernel
theorem dX12_readStep_75 : decode cX12_readStep 75 = .ok (.getfield 59, 3) := by decide +kernel
theorem dX12_readStep_78 : decode cX12_readStep 78 = .ok (.aload_n 0, 1) := by decide +kernel
theorem dX12_readStep_79 : decode cX12_readStep 79 = .ok (.getfield 208, 3) := by decide +kernel
theorem dX12_readStep_82 : decode cX12_readStep 82 = .ok (.iload_n 1, 1) := by decide +kernel
theorem dX12_readStep_83 : decode cX12_readStep 83 = .ok (.iastore, 1) := by decide +kernel
theorem dX12_readStep_84 : decode cX12_readStep 84 = .ok (.aload_n 0, 1) := by decide +kernel
theorem dX12_readStep_85 : decode cX12_readStep 85 = .ok (.getfield 62, 3) := by decide +kernel
theorem dX12_readStep_88 : decode cX12_readStep 88 = .ok (.aload_n 0, 1) := by decide +kernel
theorem dX12_readStep_89 : decode cX12_readStep 89 = .ok (.getfield 208, 3) := by decide +kernel
theorem dX12_readStep_92 : decode cX12_readStep 92 = .ok (.aload_n 0, 1) := by decide +kernel
theorem dX12_readStep_93 : decode cX12_readStep 93 = .ok (.getfield 180, 3) := by decide +kernel
theorem dX12_readStep_96 : decode cX12_readStep 96 = .ok (.l2i, 1) := by decide +kernel
theorem dX12_readStep_97 : decode cX12_readStep 97 = .ok (.iastore, 1) := by decide +kernel
theorem dX12_readStep_98 : decode cX12_readStep 98 = .ok (.aload_n 0, 1) := by decide +kernel
theorem dX12_readStep_99 : decode cX12_readStep 99 = .ok (.aload_n 0, 1) := by decide +kernel
theorem dX12_readStep_100 : decode cX12_readStep 100 = .ok (.getfield 190, 3) := by decide +kernel
theorem dX12_readStep_103 : decode cX12_readStep 103 = .ok (.iconst 2, 1) := by decide +kernel
theorem dX12_readStep_104 : decode cX12_readStep 104 = .ok (.if_icmp .ne 25, 3) := by decide +kernel
theorem dX12_readStep_107 : decode cX12_readStep 107 = .ok (.aload_n 0, 1) := by decide +kernel
theorem dX12_readStep_108 : decode cX12_readStep 108 = .ok (.getfield 180, 3) := by decide +kernel
theorem dX12_readStep_111 : decode cX12_readStep 111 = .ok (.lconst 1, 1) := by decide +kernel
theorem dX12_readStep_112 : decode cX12_readStep 112 = .ok (.aload_n 0, 1) := by decide +kernel
theorem dX12_readStep_113 : decode cX12_readStep 113 = .ok (.getfield 56, 3) := by decide +kernel
theorem dX12_readStep_116 : decode cX12_readStep 116 = .ok (.iload_n 1, 1) := by decide +kernel
theorem dX12_readStep_117 : decode cX12_readStep 117 = .ok (.iaload, 1) := by decide +kernel
theorem dX12_readStep_118 : decode cX12_readStep 118 = .ok (.i2l, 1) := by decide +kernel
theorem dX12_readStep_119 : decode cX12_readStep 119 = .ok (.invokestatic 83, 3) := by decide +kernel
theorem dX12_readStep_122 : decode cX12_readStep 122 = .ok (.ifCond .eq 7, 3) := by decide +kernel
theorem dX12_readStep_125 : decode cX12_readStep 125 = .ok (.iconst 1, 1) := by decide +kernel
theorem dX12_readStep_126 : decode cX12_readStep 126 = .ok (.goto 4, 3) := by decide +kernel
theorem dX12_readStep_129 : decode cX12_readStep 129 = .ok (.iconst 0, 1) := by decide +kernel
theorem dX12_readStep_130 : decode cX12_readStep 130 = .ok (.invokevirtual 211, 3) := by decide +kernel
theorem dX12_readStep_133 : decode cX12_readStep 133 = .ok (.aload_n 0, 1) := by decide +kernel
theorem dX12_readStep_134 : decode cX12_readStep 134 = .ok (.dup, 1) := by decide +kernel
theorem dX12_readStep_135 : decode cX12_readStep 135 = .ok (.getfield 208, 3) := by decide +kernel
theorem dX12_readStep_138 : decode cX12_readStep 138 = .ok (.iconst 1, 1) := by decide +kernel
theorem dX12_readStep_139 : decode cX12_readStep 139 = .ok (.iadd, 1) := by decide +kernel
theorem dX12_readStep_140 : decode cX12_readStep 140 = .ok (.putfield 208, 3) := by decide +kernel
theorem dX12_readStep_143 : decode cX12_readStep 143 = .ok (.return_, 1) := by decide +kernel
theorem dX12_readScript_0 : decode cX12_readScript 0 = .ok (.aload_n 0, 1) := by decide +kernel
theorem dX12_readScript_1 : decode cX12_readScript 1 = .ok (.iconst 0, 1) := by decide +kernel
theorem dX12_readScript_2 : decode cX12_readScript 2 = .ok (.putfield 174, 3) := by decide +kernel
theorem dX12_readScript_5 : decode cX12_readScript 5 = .ok (.aload_n 0, 1) := by decide +kernel
theorem dX12_readScript_6 : decode cX12_readScript 6 = .ok (.iconst 0, 1) := by decide +kernel
theorem dX12_readScript_7 : decode cX12_readScript 7 = .ok (.putfield 201, 3) := by decide +kernel
theorem dX12_readScript_10 : decode cX12_readScript 10 = .ok (.aload_n 0, 1) := by decide +kernel
theorem dX12_readScript_11 : decode cX12_readScript 11 = .ok (.iconst (-1), 1) := by decide +kernel
theorem dX12_readScript_12 : decode cX12_readScript 12 = .ok (.putfield 39, 3) := by decide +kernel
theorem dX12_readScript_15 : decode cX12_readScript 15 = .ok (.aload_n 0, 1) := by decide +kernel
theorem dX12_readScript_16 : decode cX12_readScript 16 = .ok (.iconst 0, 1) := by decide +kernel
theorem dX12_readScript_17 : decode cX12_readScript 17 = .ok (.putfield 208, 3) := by decide +kernel
theorem dX12_readScript_20 : decode cX12_readScript 20 = .ok (.aload_n 0, 1) := by decide +kernel
theorem dX12_readScript_21 : decode cX12_readScript 21 = .ok (.invokevirtual 205, 3) := by decide +kernel
theorem dX12_readScript_24 : decode cX12_readScript 24 = .ok (.aload_n 0, 1) := by decide +kernel
theorem dX12_readScript_25 : decode cX12_readScript 25 = .ok (.invokevirtual 215, 3) := by decide +kernel
theorem dX12_readScript_28 : decode cX12_readScript 28 = .ok (.aload_n 0, 1) := by decide +kernel
theorem dX12_readScript_29 : decode cX12_readScript 29 = .ok (.getfield 201, 3) := by decide +kernel
theorem dX12_readScript_32 : decode cX12_readScript 32 = .ok (.ifCond .ne 33, 3) := by decide +kernel
theorem dX12_readScript_35 : decode cX12_readScript 35 = .ok (.aload_n 0, 1) := by decide +kernel
theorem dX12_readScript_36 : decode cX12_readScript 36 = .ok (.getfield 190, 3) := by decide +kernel
theorem dX12_readScript_39 : decode cX12_readScript 39 = .ok (.iconst 3, 1) := by decide +kernel
theorem dX12_readScript_40 : decode cX12_readScript 40 = .ok (.if_icmp .ne 25, 3) := by decide +kernel
theorem dX12_readScript_43 : decode cX12_readScript 43 = .ok (.aload_n 0, 1) := by decide +kernel
theorem dX12_readScript_44 : decode cX12_readScript 44 = .ok (.getfield 180, 3) := by decide +kernel
theorem dX12_readScript_47 : decode cX12_readScript 47 = .ok (.ldc2_w 218, 3) := by decide +kernel
theorem dX12_readScript_50 : decode cX12_readScript 50 = .ok (.lcmp, 1) := by decide +kernel
theorem dX12_readScript_51 : decode cX12_readScript 51 = .ok (.ifCond .ne 14, 3) := by decide +kernel
theorem dX12_readScript_54 : decode cX12_readScript 54 = .ok (.aload_n 0, 1) := by decide +kernel
theorem dX12_readScript_55 : decode cX12_readScript 55 = .ok (.invokevirtual 205, 3) := by decide +kernel
theorem dX12_readScript_58 : decode cX12_readScript 58 = .ok (.aload_n 0, 1) := by decide +kernel
theorem dX12_readScript_59 : decode cX12_readScript 59 = .ok (.invokevirtual 215, 3) := by decide +kernel
theorem dX12_readScript_62 : decode cX12_readScript 62 = .ok (.goto (-34), 3) := by decide +kernel
theorem dX12_readScript_65 : decode cX12_readScript 65 = .ok (.aload_n 0, 1) := by decide +kernel
theorem dX12_readScript_66 : decode cX12_readScript 66 = .ok (.getfield 201, 3) := by decide +kernel
theorem dX12_readScript_69 : decode cX12_readScript 69 = .ok (.ifCond .ne 19, 3) := by decide +kernel
theorem dX12_readScript_72 : decode cX12_readScript 72 = .ok (.aload_n 0, 1) := by decide +kernel
theorem dX12_readScript_73 : decode cX12_readScript 73 = .ok (.aload_n 0, 1) := by decide +kernel
theorem dX12_readScript_74 : decode cX12_readScript 74 = .ok (.getfield 190, 3) := by decide +kernel
theorem dX12_readScript_77 : decode cX12_readScript 77 = .ok (.ifCond .ne 7, 3) := by decide +kernel
theorem dX12_readScript_80 : decode cX12_readScript 80 = .ok (.iconst 1, 1) := by decide +kernel
theorem dX12_readScript_81 : decode cX12_readScript 81 = .ok (.goto 4, 3) := by decide +kernel
theorem dX12_readScript_84 : decode cX12_readScript 84 = .ok (.iconst 0, 1) := by decide +kernel
theorem dX12_readScript_85 : decode cX12_readScript 85 = .ok (.invokevirtual 211, 3) := by decide +kernel
theorem dX12_readScript_88 : decode cX12_readScript 88 = .ok (.return_, 1) := by decide +kernel
theorem dX12_script_0 : decode cX12_script 0 = .ok (.aload_n 0, 1) := by decide +kernel
theorem dX12_script_1 : decode cX12_script 1 = .ok (.iconst 0, 1) := by decide +kernel
theorem dX12_script_2 : decode cX12_script 2 = .ok (.putfield 67, 3) := by decide +kernel
theorem dX12_script_5 : decode cX12_script 5 = .ok (.aload_n 0, 1) := by decide +kernel
theorem dX12_script_6 : decode cX12_script 6 = .ok (.iload_n 1, 1) := by decide +kernel
theorem dX12_script_7 : decode cX12_script 7 = .ok (.invokevirtual 142, 3) := by decide +kernel
theorem dX12_script_10 : decode cX12_script 10 = .ok (.ifCond .ne 10, 3) := by decide +kernel
theorem dX12_script_13 : decode cX12_script 13 = .ok (.aload_n 0, 1) := by decide +kernel
theorem dX12_script_14 : decode cX12_script 14 = .ok (.bipush (-2), 2) := by decide +kernel
theorem dX12_script_16 : decode cX12_script 16 = .ok (.invokevirtual 76, 3) := by decide +kernel
theorem dX12_script_19 : decode cX12_script 19 = .ok (.ireturn, 1) := by decide +kernel
theorem dX12_script_20 : decode cX12_script 20 = .ok (.iload_n 1, 1) := by decide +kernel
theorem dX12_script_21 : decode cX12_script 21 = .ok (.invokestatic 87, 3) := by decide +kernel
theorem dX12_script_24 : decode cX12_script 24 = .ok (.istore_n 2, 1) := by decide +kernel
theorem dX12_script_25 : decode cX12_script 25 = .ok (.aload_n 0, 1) := by decide +kernel
theorem dX12_script_26 : decode cX12_script 26 = .ok (.getfield 16, 3) := by decide +kernel
theorem dX12_script_29 : decode cX12_script 29 = .ok (.iload_n 2, 1) := by decide +kernel
theorem dX12_script_30 : decode cX12_script 30 = .ok (.iconst 2, 1) := by decide +kernel
theorem dX12_script_31 : decode cX12_script 31 = .ok (.iadd, 1) := by decide +kernel

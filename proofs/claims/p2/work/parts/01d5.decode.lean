theorem dX12_tell_2 : decode cX12_tell 2 = .ok (.putfield 70, 3) := by decide +kernel
theorem dX12_tell_5 : decode cX12_tell 5 = .ok (.iload_n 1, 1) := by decide +kernel
theorem dX12_tell_6 : decode cX12_tell 6 = .ok (.ireturn, 1) := by decide +kernel
theorem dX12_refuse_0 : decode cX12_refuse 0 = .ok (.aload_n 0, 1) := by decide +kernel
theorem dX12_refuse_1 : decode cX12_refuse 1 = .ok (.iload_n 1, 1) := by decide +kernel
theorem dX12_refuse_2 : decode cX12_refuse 2 = .ok (.putfield 70, 3) := by decide +kernel
theorem dX12_refuse_5 : decode cX12_refuse 5 = .ok (.aload_n 0, 1) := by decide +kernel
theorem dX12_refuse_6 : decode cX12_refuse 6 = .ok (.getfield 7, 3) := by decide +kernel
theorem dX12_refuse_9 : decode cX12_refuse 9 = .ok (.iload_n 1, 1) := by decide +kernel
theorem dX12_refuse_10 : decode cX12_refuse 10 = .ok (.ineg, 1) := by decide +kernel
theorem dX12_refuse_11 : decode cX12_refuse 11 = .ok (.dup2, 1) := by decide +kernel
theorem dX12_refuse_12 : decode cX12_refuse 12 = .ok (.iaload, 1) := by decide +kernel
theorem dX12_refuse_13 : decode cX12_refuse 13 = .ok (.iconst 1, 1) := by decide +kernel
theorem dX12_refuse_14 : decode cX12_refuse 14 = .ok (.iadd, 1) := by decide +kernel
theorem dX12_refuse_15 : decode cX12_refuse 15 = .ok (.iastore, 1) := by decide +kernel
theorem dX12_refuse_16 : decode cX12_refuse 16 = .ok (.iload_n 1, 1) := by decide +kernel
theorem dX12_refuse_17 : decode cX12_refuse 17 = .ok (.ireturn, 1) := by decide +kernel
theorem dX12_remember_0 : decode cX12_remember 0 = .ok (.aload_n 0, 1) := by decide +kernel
theorem dX12_remember_1 : decode cX12_remember 1 = .ok (.getfield 73, 3) := by decide +kernel
theorem dX12_remember_4 : decode cX12_remember 4 = .ok (.bipush 10, 2) := by decide +kernel
theorem dX12_remember_6 : decode cX12_remember 6 = .ok (.if_icmp .ne 72, 3) := by decide +kernel
theorem dX12_remember_9 : decode cX12_remember 9 = .ok (.iconst 0, 1) := by decide +kernel
theorem dX12_remember_10 : decode cX12_remember 10 = .ok (.istore_n 2, 1) := by decide +kernel
theorem dX12_remember_11 : decode cX12_remember 11 = .ok (.iload_n 2, 1) := by decide +kernel
theorem dX12_remember_12 : decode cX12_remember 12 = .ok (.sipush 8154, 3) := by decide +kernel
theorem dX12_remember_15 : decode cX12_remember 15 = .ok (.if_icmp .ge 25, 3) := by decide +kernel
theorem dX12_remember_18 : decode cX12_remember 18 = .ok (.aload_n 0, 1) := by decide +kernel
theorem dX12_remember_19 : decode cX12_remember 19 = .ok (.getfield 20, 3) := by decide +kernel
theorem dX12_remember_22 : decode cX12_remember 22 = .ok (.iload_n 2, 1) := by decide +kernel
theorem dX12_remember_23 : decode cX12_remember 23 = .ok (.aload_n 0, 1) := by decide +kernel
theorem dX12_remember_24 : decode cX12_remember 24 = .ok (.getfield 20, 3) := by decide +kernel
theorem dX12_remember_27 : decode cX12_remember 27 = .ok (.iload_n 2, 1) := by decide +kernel
theorem dX12_remember_28 : decode cX12_remember 28 = .ok (.sipush 906, 3) := by decide +kernel
theorem dX12_remember_31 : decode cX12_remember 31 = .ok (.iadd, 1) := by decide +kernel
theorem dX12_remember_32 : decode cX12_remember 32 = .ok (.laload, 1) := by decide +kernel
theorem dX12_remember_33 : decode cX12_remember 33 = .ok (.lastore, 1) := by decide +kernel
theorem dX12_remember_34 : decode cX12_remember 34 = .ok (.iinc 2 1, 3) := by decide +kernel
theorem dX12_remember_37 : decode cX12_remember 37 = .ok (.goto (-26), 3) := by decide +kernel
theorem dX12_remember_40 : decode cX12_remember 40 = .ok (.iconst 0, 1) := by decide +kernel
theorem dX12_remember_41 : decode cX12_remember 41 = .ok (.istore_n 2, 1) := by decide +kernel
theorem dX12_remember_42 : decode cX12_remember 42 = .ok (.iload_n 2, 1) := by decide +kernel
theorem dX12_remember_43 : decode cX12_remember 43 = .ok (.bipush 9, 2) := by decide +kernel
theorem dX12_remember_45 : decode cX12_remember 45 = .ok (.if_icmp .ge 23, 3) := by decide +kernel
theorem dX12_remember_48 : decode cX12_remember 48 = .ok (.aload_n 0, 1) := by decide +kernel
theorem dX12_remember_49 : decode cX12_remember 49 = .ok (.getfield 33, 3) := by decide +kernel
theorem dX12_remember_52 : decode cX12_remember 52 = .ok (.iload_n 2, 1) := by decide +kernel
theorem dX12_remember_53 : decode cX12_remember 53 = .ok (.aload_n 0, 1) := by decide +kernel
theorem dX12_remember_54 : decode cX12_remember 54 = .ok (.getfield 33, 3) := by decide +kernel
theorem dX12_remember_57 : decode cX12_remember 57 = .ok (.iload_n 2, 1) := by decide +kernel
theorem dX12_remember_58 : decode cX12_remember 58 = .ok (.iconst 1, 1) := by decide +kernel
theorem dX12_remember_59 : decode cX12_remember 59 = .ok (.iadd, 1) := by decide +kernel
theorem dX12_remember_60 : decode cX12_remember 60 = .ok (.iaload, 1) := by decide +kernel
theorem dX12_remember_61 : decode cX12_remember 61 = .ok (.iastore, 1) := by decide +kernel
theorem dX12_remember_62 : decode cX12_remember 62 = .ok (.iinc 2 1, 3) := by decide +kernel
theorem dX12_remember_65 : decode cX12_remember 65 = .ok (.goto (-23), 3) := by decide +kernel
theorem dX12_remember_68 : decode cX12_remember 68 = .ok (.aload_n 0, 1) := by decide +kernel
theorem dX12_remember_69 : decode cX12_remember 69 = .ok (.dup, 1) := by decide +kernel
theorem dX12_remember_70 : decode cX12_remember 70 = .ok (.getfield 73, 3) := by decide +kernel
theorem dX12_remember_73 : decode cX12_remember 73 = .ok (.iconst 1, 1) := by decide +kernel
theorem dX12_remember_74 : decode cX12_remember 74 = .ok (.isub, 1) := by decide +kernel
theorem dX12_remember_75 : decode cX12_remember 75 = .ok (.putfield 73, 3) := by decide +kernel
theorem dX12_remember_78 : decode cX12_remember 78 = .ok (.iconst 0, 1) := by decide +kernel
theorem dX12_remember_79 : decode cX12_remember 79 = .ok (.istore_n 2, 1) := by decide +kernel
theorem dX12_remember_80 : decode cX12_remember 80 = .ok (.iload_n 2, 1) := by decide +kernel
theorem dX12_remember_81 : decode cX12_remember 81 = .ok (.sipush 906, 3) := by decide +kernel
theorem dX12_remember_84 : decode cX12_remember 84 = .ok (.if_icmp .ge 30, 3) := by decide +kernel
theorem dX12_remember_87 : decode cX12_remember 87 = .ok (.aload_n 0, 1) := by decide +kernel
theorem dX12_remember_88 : decode cX12_remember 88 = .ok (.getfield 20, 3) := by decide +kernel
theorem dX12_remember_91 : decode cX12_remember 91 = .ok (.sipush 906, 3) := by decide +kernel
theorem dX12_remember_94 : decode cX12_remember 94 = .ok (.aload_n 0, 1) := by decide +kernel
theorem dX12_remember_95 : decode cX12_remember 95 = .ok (.getfield 73, 3) := by decide +kernel
theorem dX12_remember_98 : decode cX12_remember 98 = .ok (.imul, 1) := by decide +kernel
theorem dX12_remember_99 : decode cX12_remember 99 = .ok (.iload_n 2, 1) := by decide +kernel
theorem dX12_remember_100 : decode cX12_remember 100 = .ok (.iadd, 1) := by decide +kernel
theorem dX12_remember_101 : decode cX12_remember 101 = .ok (.aload_n 0, 1) := by decide +kernel
theorem dX12_remember_102 : decode cX12_remember 102 = .ok (.getfield 16, 3) := by decide +kernel
theorem dX12_remember_105 : decode cX12_remember 105 = .ok (.iload_n 2, 1) := by decide +kernel
theorem dX12_remember_106 : decode cX12_remember 106 = .ok (.laload, 1) := by decide +kernel
theorem dX12_remember_107 : decode cX12_remember 107 = .ok (.lastore, 1) := by decide +kernel
theorem dX12_remember_108 : decode cX12_remember 108 = .ok (.iinc 2 1, 3) := by decide +kernel
theorem dX12_remember_111 : decode cX12_remember 111 = .ok (.goto (-31), 3) := by decide +kernel
theorem dX12_remember_114 : decode cX12_remember 114 = .ok (.aload_n 0, 1) := by decide +kernel
theorem dX12_remember_115 : decode cX12_remember 115 = .ok (.getfield 33, 3) := by decide +kernel
theorem dX12_remember_118 : decode cX12_remember 118 = .ok (.aload_n 0, 1) := by decide +kernel
theorem dX12_remember_119 : decode cX12_remember 119 = .ok (.getfield 73, 3) := by decide +kernel
theorem dX12_remember_122 : decode cX12_remember 122 = .ok (.iload_n 1, 1) := by decide +kernel
theorem dX12_remember_123 : decode cX12_remember 123 = .ok (.iastore, 1) := by decide +kernel
theorem dX12_remember_124 : decode cX12_remember 124 = .ok (.aload_n 0, 1) := by decide +kernel
theorem dX12_remember_125 : decode cX12_remember 125 = .ok (.dup, 1) := by decide +kernel
theorem dX12_remember_126 : decode cX12_remember 126 = .ok (.getfield 73, 3) := by decide +kernel
theorem dX12_remember_129 : decode cX12_remember 129 = .ok (.iconst 1, 1) := by decide +kernel
theorem dX12_remember_130 : decode cX12_remember 130 = .ok (.iadd, 1) := by decide +kernel
theorem dX12_remember_131 : decode cX12_remember 131 = .ok (.putfield 73, 3) := by decide +kernel
theorem dX12_remember_134 : decode cX12_remember 134 = .ok (.return_, 1) := by decide +kernel
theorem dX12_undo_0 : decode cX12_undo 0 = .ok (.aload_n 0, 1) := by decide +kernel
theorem dX12_undo_1 : decode cX12_undo 1 = .ok (.iconst 0, 1) := by decide +kernel
theorem dX12_undo_2 : decode cX12_undo 2 = .ok (.putfield 67, 3) := by decide +kernel
theorem dX12_undo_5 : decode cX12_undo 5 = .ok (.aload_n 0, 1) := by decide +kernel
theorem dX12_undo_6 : decode cX12_undo 6 = .ok (.getfield 73, 3) := by decide +kernel
theorem dX12_undo_9 : decode cX12_undo 9 = .ok (.ifCond .ne 10, 3) := by decide +kernel
theorem dX12_undo_12 : decode cX12_undo 12 = .ok (.aload_n 0, 1) := by decide +kernel
theorem dX12_undo_13 : decode cX12_undo 13 = .ok (.bipush (-4), 2) := by decide +kernel
theorem dX12_undo_15 : decode cX12_undo 15 = .ok (.invokevirtual 76, 3) := by decide +kernel
theorem dX12_undo_18 : decode cX12_undo 18 = .ok (.ireturn, 1) := by decide +kernel
theorem dX12_undo_19 : decode cX12_undo 19 = .ok (.aload_n 0, 1) := by decide +kernel
theorem dX12_undo_20 : decode cX12_undo 20 = .ok (.dup, 1) := by decide +kernel
theorem dX12_undo_21 : decode cX12_undo 21 = .ok (.getfield 73, 3) := by decide +kernel
theorem dX12_undo_24 : decode cX12_undo 24 = .ok (.iconst 1, 1) := by decide +kernel
theorem dX12_undo_25 : decode cX12_undo 25 = .ok (.isub, 1) := by decide +kernel
theorem dX12_undo_26 : decode cX12_undo 26 = .ok (.putfield 73, 3) := by decide +kernel
theorem dX12_undo_29 : decode cX12_undo 29 = .ok (.iconst 0, 1) := by decide +kernel
theorem dX12_undo_30 : decode cX12_undo 30 = .ok (.istore_n 1, 1) := by decide +kernel
theorem dX12_undo_31 : decode cX12_undo 31 = .ok (.iload_n 1, 1) := by decide +kernel
theorem dX12_undo_32 : decode cX12_undo 32 = .ok (.sipush 906, 3) := by decide +kernel
theorem dX12_undo_35 : decode cX12_undo 35 = .ok (.if_icmp .ge 30, 3) := by decide +kernel
theorem dX12_undo_38 : decode cX12_undo 38 = .ok (.aload_n 0, 1) := by decide +kernel
theorem dX12_undo_39 : decode cX12_undo 39 = .ok (.getfield 16, 3) := by decide +kernel
theorem dX12_undo_42 : decode cX12_undo 42 = .ok (.iload_n 1, 1) := by decide +kernel
theorem dX12_undo_43 : decode cX12_undo 43 = .ok (.aload_n 0, 1) := by decide +kernel
theorem dX12_undo_44 : decode cX12_undo 44 = .ok (.getfield 20, 3) := by decide +kernel
theorem dX12_undo_47 : decode cX12_undo 47 = .ok (.sipush 906, 3) := by decide +kernel
theorem dX12_undo_50 : decode cX12_undo 50 = .ok (.aload_n 0, 1) := by decide +kernel
theorem dX12_undo_51 : decode cX12_undo 51 = .ok (.getfield 73, 3) := by decide +kernel
theorem dX12_undo_54 : decode cX12_undo 54 = .ok (.imul, 1) := by decide +kernel
theorem dX12_undo_55 : decode cX12_undo 55 = .ok (.iload_n 1, 1) := by decide +kernel
theorem dX12_undo_56 : decode cX12_undo 56 = .ok (.iadd, 1) := by decide +kernel
theorem dX12_undo_57 : decode cX12_undo 57 = .ok (.laload, 1) := by decide +kernel
theorem dX12_undo_58 : decode cX12_undo 58 = .ok (.lastore, 1) := by decide +kernel
theorem dX12_undo_59 : decode cX12_undo 59 = .ok (.iinc 1 1, 3) := by decide +kernel
theorem dX12_undo_62 : decode cX12_undo 62 = .ok (.goto (-31), 3) := by decide +kernel
theorem dX12_undo_65 : decode cX12_undo 65 = .ok (.aload_n 0, 1) := by decide +kernel
theorem dX12_undo_66 : decode cX12_undo 66 = .ok (.aload_n 0, 1) := by decide +kernel
theorem dX12_undo_67 : decode cX12_undo 67 = .ok (.getfield 33, 3) := by decide +kernel
theorem dX12_undo_70 : decode cX12_undo 70 = .ok (.aload_n 0, 1) := by decide +kernel
theorem dX12_undo_71 : decode cX12_undo 71 = .ok (.getfield 73, 3) := by decide +kernel
theorem dX12_undo_74 : decode cX12_undo 74 = .ok (.iaload, 1) := by decide +kernel
theorem dX12_undo_75 : decode cX12_undo 75 = .ok (.invokevirtual 80, 3) := by decide +kernel
theorem dX12_undo_78 : decode cX12_undo 78 = .ok (.ireturn, 1) := by decide +kernel
theorem dX12_begin_0 : decode cX12_begin 0 = .ok (.iconst 0, 1) := by decide +kernel
theorem dX12_begin_1 : decode cX12_begin 1 = .ok (.istore_n 1, 1) := by decide +kernel
theorem dX12_begin_2 : decode cX12_begin 2 = .ok (.iload_n 1, 1) := by decide +kernel
theorem dX12_begin_3 : decode cX12_begin 3 = .ok (.sipush 906, 3) := by decide +kernel
theorem dX12_begin_6 : decode cX12_begin 6 = .ok (.if_icmp .ge 21, 3) := by decide +kernel
theorem dX12_begin_9 : decode cX12_begin 9 = .ok (.aload_n 0, 1) := by decide +kernel
theorem dX12_begin_10 : decode cX12_begin 10 = .ok (.getfield 23, 3) := by decide +kernel
theorem dX12_begin_13 : decode cX12_begin 13 = .ok (.iload_n 1, 1) := by decide +kernel
theorem dX12_begin_14 : decode cX12_begin 14 = .ok (.aload_n 0, 1) := by decide +kernel
theorem dX12_begin_15 : decode cX12_begin 15 = .ok (.getfield 16, 3) := by decide +kernel
theorem dX12_begin_18 : decode cX12_begin 18 = .ok (.iload_n 1, 1) := by decide +kernel
theorem dX12_begin_19 : decode cX12_begin 19 = .ok (.laload, 1) := by decide +kernel
theorem dX12_begin_20 : decode cX12_begin 20 = .ok (.lastore, 1) := by decide +kernel
theorem dX12_begin_21 : decode cX12_begin 21 = .ok (.iinc 1 1, 3) := by decide +kernel
theorem dX12_begin_24 : decode cX12_begin 24 = .ok (.goto (-22), 3) := by decide +kernel
theorem dX12_begin_27 : decode cX12_begin 27 = .ok (.return_, 1) := by decide +kernel
theorem dX12_over_0 : decode cX12_over 0 = .ok (.iconst 0, 1) := by decide +kernel
theorem dX12_over_1 : decode cX12_over 1 = .ok (.istore_n 1, 1) := by decide +kernel
theorem dX12_over_2 : decode cX12_over 2 = .ok (.iload_n 1, 1) := by decide +kernel
theorem dX12_over_3 : decode cX12_over 3 = .ok (.sipush 906, 3) := by decide +kernel
theorem dX12_over_6 : decode cX12_over 6 = .ok (.if_icmp .ge 21, 3) := by decide +kernel
theorem dX12_over_9 : decode cX12_over 9 = .ok (.aload_n 0, 1) := by decide +kernel
theorem dX12_over_10 : decode cX12_over 10 = .ok (.getfield 16, 3) := by decide +kernel
theorem dX12_over_13 : decode cX12_over 13 = .ok (.iload_n 1, 1) := by decide +kernel
theorem dX12_over_14 : decode cX12_over 14 = .ok (.aload_n 0, 1) := by decide +kernel
theorem dX12_over_15 : decode cX12_over 15 = .ok (.getfield 23, 3) := by decide +kernel
theorem dX12_over_18 : decode cX12_over 18 = .ok (.iload_n 1, 1) := by decide +kernel
theorem dX12_over_19 : decode cX12_over 19 = .ok (.laload, 1) := by decide +kernel
theorem dX12_over_20 : decode cX12_over 20 = .ok (.lastore, 1) := by decide +kernel
theorem dX12_over_21 : decode cX12_over 21 = .ok (.iinc 1 1, 3) := by decide +kernel
theorem dX12_over_24 : decode cX12_over 24 = .ok (.goto (-22), 3) := by decide +kernel
theorem dX12_over_27 : decode cX12_over 27 = .ok (.return_, 1) := by decide +kernel
theorem dX12_at_0 : decode cX12_at 0 = .ok (.bipush 6, 2) := by decide +kernel
theorem dX12_at_2 : decode cX12_at 2 = .ok (.bipush 43, 2) := by decide +kernel
theorem dX12_at_4 : decode cX12_at 4 = .ok (.iload_n 0, 1) := by decide +kernel
theorem dX12_at_5 : decode cX12_at 5 = .ok (.imul, 1) := by decide +kernel
theorem dX12_at_6 : decode cX12_at 6 = .ok (.iadd, 1) := by decide +kernel
theorem dX12_at_7 : decode cX12_at 7 = .ok (.ireturn, 1) := by decide +kernel
theorem dX12_isTask_0 : decode cX12_isTask 0 = .ok (.iload_n 1, 1) := by decide +kernel
theorem dX12_isTask_1 : decode cX12_isTask 1 = .ok (.i2l, 1) := by decide +kernel
theorem dX12_isTask_2 : decode cX12_isTask 2 = .ok (.lconst 0, 1) := by decide +kernel
theorem dX12_isTask_3 : decode cX12_isTask 3 = .ok (.aload_n 0, 1) := by decide +kernel
theorem dX12_isTask_4 : decode cX12_isTask 4 = .ok (.getfield 16, 3) := by decide +kernel
theorem dX12_isTask_7 : decode cX12_isTask 7 = .ok (.iconst 0, 1) := by decide +kernel
theorem dX12_isTask_8 : decode cX12_isTask 8 = .ok (.laload, 1) := by decide +kernel
theorem dX12_isTask_9 : decode cX12_isTask 9 = .ok (.lconst 1, 1) := by decide +kernel
theorem dX12_isTask_10 : decode cX12_isTask 10 = .ok (.lsub, 1) := by decide +kernel
theorem dX12_isTask_11 : decode cX12_isTask 11 = .ok (.invokestatic 83, 3) := by decide +kernel
theorem dX12_isTask_14 : decode cX12_isTask 14 = .ok (.ireturn, 1) := by decide +kernel
theorem dX12_isOn_0 : decode cX12_isOn 0 = .ok (.aload_n 0, 1) := by decide +kernel
theorem dX12_isOn_1 : decode cX12_isOn 1 = .ok (.getfield 16, 3) := by decide +kernel
theorem dX12_isOn_4 : decode cX12_isOn 4 = .ok (.iload_n 1, 1) := by decide +kernel
theorem dX12_isOn_5 : decode cX12_isOn 5 = .ok (.invokestatic 87, 3) := by decide +kernel
theorem dX12_isOn_8 : decode cX12_isOn 8 = .ok (.iconst 2, 1) := by decide +kernel
theorem dX12_isOn_9 : decode cX12_isOn 9 = .ok (.iadd, 1) := by decide +kernel
theorem dX12_isOn_10 : decode cX12_isOn 10 = .ok (.laload, 1) := by decide +kernel
theorem dX12_isOn_11 : decode cX12_isOn 11 = .ok (.lconst 1, 1) := by decide +kernel
theorem dX12_isOn_12 : decode cX12_isOn 12 = .ok (.lcmp, 1) := by decide +kernel
theorem dX12_isOn_13 : decode cX12_isOn 13 = .ok (.ifCond .ne 7, 3) := by decide +kernel
theorem dX12_isOn_16 : decode cX12_isOn 16 = .ok (.iconst 1, 1) := by decide +kernel
theorem dX12_isOn_17 : decode cX12_isOn 17 = .ok (.goto 4, 3) := by decide +kernel
theorem dX12_isOn_20 : decode cX12_isOn 20 = .ok (.iconst 0, 1) := by decide +kernel
theorem dX12_isOn_21 : decode cX12_isOn 21 = .ok (.ireturn, 1) := by decide +kernel
theorem dX12_isSpent_0 : decode cX12_isSpent 0 = .ok (.aload_n 0, 1) := by decide +kernel
theorem dX12_isSpent_1 : decode cX12_isSpent 1 = .ok (.getfield 16, 3) := by decide +kernel
theorem dX12_isSpent_4 : decode cX12_isSpent 4 = .ok (.iload_n 1, 1) := by decide +kernel
theorem dX12_isSpent_5 : decode cX12_isSpent 5 = .ok (.invokestatic 87, 3) := by decide +kernel
theorem dX12_isSpent_8 : decode cX12_isSpent 8 = .ok (.bipush 41, 2) := by decide +kernel
theorem dX12_isSpent_10 : decode cX12_isSpent 10 = .ok (.iadd, 1) := by decide +kernel
theorem dX12_isSpent_11 : decode cX12_isSpent 11 = .ok (.laload, 1) := by decide +kernel
theorem dX12_isSpent_12 : decode cX12_isSpent 12 = .ok (.lconst 0, 1) := by decide +kernel
theorem dX12_isSpent_13 : decode cX12_isSpent 13 = .ok (.lcmp, 1) := by decide +kernel
theorem dX12_isSpent_14 : decode cX12_isSpent 14 = .ok (.ifCond .le 24, 3) := by decide +kernel
theorem dX12_isSpent_17 : decode cX12_isSpent 17 = .ok (.aload_n 0, 1) := by decide +kernel
theorem dX12_isSpent_18 : decode cX12_isSpent 18 = .ok (.getfield 16, 3) := by decide +kernel
theorem dX12_isSpent_21 : decode cX12_isSpent 21 = .ok (.iload_n 1, 1) := by decide +kernel
theorem dX12_isSpent_22 : decode cX12_isSpent 22 = .ok (.invokestatic 87, 3) := by decide +kernel
theorem dX12_isSpent_25 : decode cX12_isSpent 25 = .ok (.bipush 40, 2) := by decide +kernel
theorem dX12_isSpent_27 : decode cX12_isSpent 27 = .ok (.iadd, 1) := by decide +kernel
theorem dX12_isSpent_28 : decode cX12_isSpent 28 = .ok (.laload, 1) := by decide +kernel
theorem dX12_isSpent_29 : decode cX12_isSpent 29 = .ok (.lconst 0, 1) := by decide +kernel
theorem dX12_isSpent_30 : decode cX12_isSpent 30 = .ok (.lcmp, 1) := by decide +kernel
theorem dX12_isSpent_31 : decode cX12_isSpent 31 = .ok (.ifCond .ne 7, 3) := by decide +kernel
theorem dX12_isSpent_34 : decode cX12_isSpent 34 = .ok (.iconst 1, 1) := by decide +kernel
theorem dX12_isSpent_35 : decode cX12_isSpent 35 = .ok (.goto 4, 3) := by decide +kernel
theorem dX12_isSpent_38 : decode cX12_isSpent 38 = .ok (.iconst 0, 1) := by decide +kernel
theorem dX12_isSpent_39 : decode cX12_isSpent 39 = .ok (.ireturn, 1) := by decide +kernel
theorem dX12_weight_0 : decode cX12_weight 0 = .ok (.aload_n 0, 1) := by decide +kernel
theorem dX12_weight_1 : decode cX12_weight 1 = .ok (.getfield 16, 3) := by decide +kernel
theorem dX12_weight_4 : decode cX12_weight 4 = .ok (.iload_n 1, 1) := by decide +kernel
theorem dX12_weight_5 : decode cX12_weight 5 = .ok (.invokestatic 87, 3) := by decide +kernel
theorem dX12_weight_8 : decode cX12_weight 8 = .ok (.iconst 0, 1) := by decide +kernel
theorem dX12_weight_9 : decode cX12_weight 9 = .ok (.iadd, 1) := by decide +kernel
theorem dX12_weight_10 : decode cX12_weight 10 = .ok (.laload, 1) := by decide +kernel
theorem dX12_weight_11 : decode cX12_weight 11 = .ok (.lreturn, 1) := by decide +kernel
theorem dX12_virtual_0 : decode cX12_virtual 0 = .ok (.aload_n 0, 1) := by decide +kernel
theorem dX12_virtual_1 : decode cX12_virtual 1 = .ok (.getfield 16, 3) := by decide +kernel
theorem dX12_virtual_4 : decode cX12_virtual 4 = .ok (.iload_n 1, 1) := by decide +kernel
theorem dX12_virtual_5 : decode cX12_virtual 5 = .ok (.invokestatic 87, 3) := by decide +kernel
theorem dX12_virtual_8 : decode cX12_virtual 8 = .ok (.bipush 10, 2) := by decide +kernel
theorem dX12_virtual_10 : decode cX12_virtual 10 = .ok (.iadd, 1) := by decide +kernel
theorem dX12_virtual_11 : decode cX12_virtual 11 = .ok (.laload, 1) := by decide +kernel
theorem dX12_virtual_12 : decode cX12_virtual 12 = .ok (.lreturn, 1) := by decide +kernel
theorem dX12_heavy_0 : decode cX12_heavy 0 = .ok (.lconst 0, 1) := by decide +kernel
theorem dX12_heavy_1 : decode cX12_heavy 1 = .ok (.lstore_n 1, 1) := by decide +kernel
theorem dX12_heavy_2 : decode cX12_heavy 2 = .ok (.iconst 0, 1) := by decide +kernel
theorem dX12_heavy_3 : decode cX12_heavy 3 = .ok (.istore_n 3, 1) := by decide +kernel
theorem dX12_heavy_4 : decode cX12_heavy 4 = .ok (.iload_n 3, 1) := by decide +kernel
theorem dX12_heavy_5 : decode cX12_heavy 5 = .ok (.i2l, 1) := by decide +kernel
theorem dX12_heavy_6 : decode cX12_heavy 6 = .ok (.aload_n 0, 1) := by decide +kernel
theorem dX12_heavy_7 : decode cX12_heavy 7 = .ok (.getfield 16, 3) := by decide +kernel
theorem dX12_heavy_10 : decode cX12_heavy 10 = .ok (.iconst 0, 1) := by decide +kernel
theorem dX12_heavy_11 : decode cX12_heavy 11 = .ok (.laload, 1) := by decide +kernel
theorem dX12_heavy_12 : decode cX12_heavy 12 = .ok (.lcmp, 1) := by decide +kernel
theorem dX12_heavy_13 : decode cX12_heavy 13 = .ok (.ifCond .ge 29, 3) := by decide +kernel
theorem dX12_heavy_16 : decode cX12_heavy 16 = .ok (.lload_n 1, 1) := by decide +kernel
theorem dX12_heavy_17 : decode cX12_heavy 17 = .ok (.aload_n 0, 1) := by decide +kernel
theorem dX12_heavy_18 : decode cX12_heavy 18 = .ok (.iload_n 3, 1) := by decide +kernel
theorem dX12_heavy_19 : decode cX12_heavy 19 = .ok (.invokevirtual 90, 3) := by decide +kernel
theorem dX12_heavy_22 : decode cX12_heavy 22 = .ok (.ifCond .eq 11, 3) := by decide +kernel
theorem dX12_heavy_25 : decode cX12_heavy 25 = .ok (.aload_n 0, 1) := by decide +kernel
theorem dX12_heavy_26 : decode cX12_heavy 26 = .ok (.iload_n 3, 1) := by decide +kernel
theorem dX12_heavy_27 : decode cX12_heavy 27 = .ok (.invokevirtual 94, 3) := by decide +kernel
theorem dX12_heavy_30 : decode cX12_heavy 30 = .ok (.goto 4, 3) := by decide +kernel
theorem dX12_heavy_33 : decode cX12_heavy 33 = .ok (.lconst 0, 1) := by decide +kernel
theorem dX12_heavy_34 : decode cX12_heavy 34 = .ok (.ladd, 1) := by decide +kernel
theorem dX12_heavy_35 : decode cX12_heavy 35 = .ok (.lstore_n 1, 1) := by decide +kernel
theorem dX12_heavy_36 : decode cX12_heavy 36 = .ok (.iinc 3 1, 3) := by decide +kernel
theorem dX12_heavy_39 : decode cX12_heavy 39 = .ok (.goto (-35), 3) := by decide +kernel
theorem dX12_heavy_42 : decode cX12_heavy 42 = .ok (.lload_n 1, 1) := by decide +kernel
theorem dX12_heavy_43 : decode cX12_heavy 43 = .ok (.lreturn, 1) := by decide +kernel
theorem dX12_sum_0 : decode cX12_sum 0 = .ok (.lconst 0, 1) := by decide +kernel
theorem dX12_sum_1 : decode cX12_sum 1 = .ok (.lstore_n 1, 1) := by decide +kernel
theorem dX12_sum_2 : decode cX12_sum 2 = .ok (.iconst 0, 1) := by decide +kernel
theorem dX12_sum_3 : decode cX12_sum 3 = .ok (.istore_n 3, 1) := by decide +kernel
theorem dX12_sum_4 : decode cX12_sum 4 = .ok (.iload_n 3, 1) := by decide +kernel
theorem dX12_sum_5 : decode cX12_sum 5 = .ok (.i2l, 1) := by decide +kernel
theorem dX12_sum_6 : decode cX12_sum 6 = .ok (.aload_n 0, 1) := by decide +kernel
theorem dX12_sum_7 : decode cX12_sum 7 = .ok (.getfield 16, 3) := by decide +kernel
theorem dX12_sum_10 : decode cX12_sum 10 = .ok (.iconst 0, 1) := by decide +kernel
theorem dX12_sum_11 : decode cX12_sum 11 = .ok (.laload, 1) := by decide +kernel
theorem dX12_sum_12 : decode cX12_sum 12 = .ok (.lcmp, 1) := by decide +kernel
theorem dX12_sum_13 : decode cX12_sum 13 = .ok (.ifCond .ge 35, 3) := by decide +kernel
theorem dX12_sum_16 : decode cX12_sum 16 = .ok (.lload_n 1, 1) := by decide +kernel
theorem dX12_sum_17 : decode cX12_sum 17 = .ok (.aload_n 0, 1) := by decide +kernel
theorem dX12_sum_18 : decode cX12_sum 18 = .ok (.iload_n 3, 1) := by decide +kernel
theorem dX12_sum_19 : decode cX12_sum 19 = .ok (.invokevirtual 90, 3) := by decide +kernel
theorem dX12_sum_22 : decode cX12_sum 22 = .ok (.ifCond .eq 17, 3) := by decide +kernel
theorem dX12_sum_25 : decode cX12_sum 25 = .ok (.aload_n 0, 1) := by decide +kernel
theorem dX12_sum_26 : decode cX12_sum 26 = .ok (.iload_n 3, 1) := by decide +kernel
theorem dX12_sum_27 : decode cX12_sum 27 = .ok (.invokevirtual 94, 3) := by decide +kernel
theorem dX12_sum_30 : decode cX12_sum 30 = .ok (.aload_n 0, 1) := by decide +kernel
theorem dX12_sum_31 : decode cX12_sum 31 = .ok (.iload_n 3, 1) := by decide +kernel
theorem dX12_sum_32 : decode cX12_sum 32 = .ok (.invokevirtual 98, 3) := by decide +kernel
theorem dX12_sum_35 : decode cX12_sum 35 = .ok (.lmul, 1) := by decide +kernel
theorem dX12_sum_36 : decode cX12_sum 36 = .ok (.goto 4, 3) := by decide +kernel
theorem dX12_sum_39 : decode cX12_sum 39 = .ok (.lconst 0, 1) := by decide +kernel
theorem dX12_sum_40 : decode cX12_sum 40 = .ok (.ladd, 1) := by decide +kernel
theorem dX12_sum_41 : decode cX12_sum 41 = .ok (.lstore_n 1, 1) := by decide +kernel
theorem dX12_sum_42 : decode cX12_sum 42 = .ok (.iinc 3 1, 3) := by decide +kernel
theorem dX12_sum_45 : decode cX12_sum 45 = .ok (.goto (-41), 3) := by decide +kernel
theorem dX12_sum_48 : decode cX12_sum 48 = .ok (.lload_n 1, 1) := by decide +kernel
theorem dX12_sum_49 : decode cX12_sum 49 = .ok (.lreturn, 1) := by decide +kernel
theorem dX12_lag_0 : decode cX12_lag 0 = .ok (.aload_n 0, 1) := by decide +kernel
theorem dX12_lag_1 : decode cX12_lag 1 = .ok (.iload_n 1, 1) := by decide +kernel
theorem dX12_lag_2 : decode cX12_lag 2 = .ok (.invokevirtual 94, 3) := by decide +kernel
theorem dX12_lag_5 : decode cX12_lag 5 = .ok (.aload_n 0, 1) := by decide +kernel
theorem dX12_lag_6 : decode cX12_lag 6 = .ok (.invokevirtual 101, 3) := by decide +kernel
theorem dX12_lag_9 : decode cX12_lag 9 = .ok (.aload_n 0, 1) := by decide +kernel
theorem dX12_lag_10 : decode cX12_lag 10 = .ok (.invokevirtual 105, 3) := by decide +kernel
theorem dX12_lag_13 : decode cX12_lag 13 = .ok (.aload_n 0, 1) := by decide +kernel
theorem dX12_lag_14 : decode cX12_lag 14 = .ok (.iload_n 1, 1) := by decide +kernel
theorem dX12_lag_15 : decode cX12_lag 15 = .ok (.invokevirtual 98, 3) := by decide +kernel
theorem dX12_lag_18 : decode cX12_lag 18 = .ok (.lmul, 1) := by decide +kernel
theorem dX12_lag_19 : decode cX12_lag 19 = .ok (.lsub, 1) := by decide +kernel
theorem dX12_lag_20 : decode cX12_lag 20 = .ok (.lmul, 1) := by decide +kernel
theorem dX12_lag_21 : decode cX12_lag 21 = .ok (.lreturn, 1) := by decide +kernel
theorem dX12_deadline_0 : decode cX12_deadline 0 = .ok (.aload_n 0, 1) := by decide +kernel
theorem dX12_deadline_1 : decode cX12_deadline 1 = .ok (.iload_n 1, 1) := by decide +kernel
theorem dX12_deadline_2 : decode cX12_deadline 2 = .ok (.invokevirtual 98, 3) := by decide +kernel
theorem dX12_deadline_5 : decode cX12_deadline 5 = .ok (.aload_n 0, 1) := by decide +kernel
theorem dX12_deadline_6 : decode cX12_deadline 6 = .ok (.getfield 16, 3) := by decide +kernel
theorem dX12_deadline_9 : decode cX12_deadline 9 = .ok (.iload_n 1, 1) := by decide +kernel
theorem dX12_deadline_10 : decode cX12_deadline 10 = .ok (.invokestatic 87, 3) := by decide +kernel
theorem dX12_deadline_13 : decode cX12_deadline 13 = .ok (.iconst 3, 1) := by decide +kernel
theorem dX12_deadline_14 : decode cX12_deadline 14 = .ok (.iadd, 1) := by decide +kernel
theorem dX12_deadline_15 : decode cX12_deadline 15 = .ok (.laload, 1) := by decide +kernel
theorem dX12_deadline_16 : decode cX12_deadline 16 = .ok (.ldc2_w 108, 3) := by decide +kernel
theorem dX12_deadline_19 : decode cX12_deadline 19 = .ok (.aload_n 0, 1) := by decide +kernel
theorem dX12_deadline_20 : decode cX12_deadline 20 = .ok (.iload_n 1, 1) := by decide +kernel
theorem dX12_deadline_21 : decode cX12_deadline 21 = .ok (.invokevirtual 94, 3) := by decide +kernel
theorem dX12_deadline_24 : decode cX12_deadline 24 = .ok (.ldiv, 1) := by decide +kernel
theorem dX12_deadline_25 : decode cX12_deadline 25 = .ok (.lmul, 1) := by decide +kernel
theorem dX12_deadline_26 : decode cX12_deadline 26 = .ok (.ladd, 1) := by decide +kernel
theorem dX12_deadline_27 : decode cX12_deadline 27 = .ok (.lreturn, 1) := by decide +kernel
theorem dX12_isEligible_0 : decode cX12_isEligible 0 = .ok (.aload_n 0, 1) := by decide +kernel
theorem dX12_isEligible_1 : decode cX12_isEligible 1 = .ok (.iload_n 1, 1) := by decide +kernel
theorem dX12_isEligible_2 : decode cX12_isEligible 2 = .ok (.invokevirtual 90, 3) := by decide +kernel
theorem dX12_isEligible_5 : decode cX12_isEligible 5 = .ok (.ifCond .eq 25, 3) := by decide +kernel
theorem dX12_isEligible_8 : decode cX12_isEligible 8 = .ok (.aload_n 0, 1) := by decide +kernel
theorem dX12_isEligible_9 : decode cX12_isEligible 9 = .ok (.invokevirtual 105, 3) := by decide +kernel
theorem dX12_isEligible_12 : decode cX12_isEligible 12 = .ok (.aload_n 0, 1) := by decide +kernel
theorem dX12_isEligible_13 : decode cX12_isEligible 13 = .ok (.iload_n 1, 1) := by decide +kernel
theorem dX12_isEligible_14 : decode cX12_isEligible 14 = .ok (.invokevirtual 98, 3) := by decide +kernel
theorem dX12_isEligible_17 : decode cX12_isEligible 17 = .ok (.lmul, 1) := by decide +kernel
theorem dX12_isEligible_18 : decode cX12_isEligible 18 = .ok (.aload_n 0, 1) := by decide +kernel
theorem dX12_isEligible_19 : decode cX12_isEligible 19 = .ok (.invokevirtual 101, 3) := by decide +kernel
theorem dX12_isEligible_22 : decode cX12_isEligible 22 = .ok (.lcmp, 1) := by decide +kernel
theorem dX12_isEligible_23 : decode cX12_isEligible 23 = .ok (.ifCond .gt 7, 3) := by decide +kernel
theorem dX12_isEligible_26 : decode cX12_isEligible 26 = .ok (.iconst 1, 1) := by decide +kernel
theorem dX12_isEligible_27 : decode cX12_isEligible 27 = .ok (.goto 4, 3) := by decide +kernel
theorem dX12_isEligible_30 : decode cX12_isEligible 30 = .ok (.iconst 0, 1) := by decide +kernel
theorem dX12_isEligible_31 : decode cX12_isEligible 31 = .ok (.ireturn, 1) := by decide +kernel
theorem dX12_hasRoom_0 : decode cX12_hasRoom 0 = .ok (.aload_n 0, 1) := by decide +kernel
theorem dX12_hasRoom_1 : decode cX12_hasRoom 1 = .ok (.invokevirtual 105, 3) := by decide +kernel
theorem dX12_hasRoom_4 : decode cX12_hasRoom 4 = .ok (.aload_n 0, 1) := by decide +kernel
theorem dX12_hasRoom_5 : decode cX12_hasRoom 5 = .ok (.iload_n 1, 1) := by decide +kernel
theorem dX12_hasRoom_6 : decode cX12_hasRoom 6 = .ok (.invokevirtual 94, 3) := by decide +kernel
theorem dX12_hasRoom_9 : decode cX12_hasRoom 9 = .ok (.ladd, 1) := by decide +kernel
theorem dX12_hasRoom_10 : decode cX12_hasRoom 10 = .ok (.ldc2_w 110, 3) := by decide +kernel
theorem dX12_hasRoom_13 : decode cX12_hasRoom 13 = .ok (.lcmp, 1) := by decide +kernel
theorem dX12_hasRoom_14 : decode cX12_hasRoom 14 = .ok (.ifCond .gt 7, 3) := by decide +kernel
theorem dX12_hasRoom_17 : decode cX12_hasRoom 17 = .ok (.iconst 1, 1) := by decide +kernel
theorem dX12_hasRoom_18 : decode cX12_hasRoom 18 = .ok (.goto 4, 3) := by decide +kernel
theorem dX12_hasRoom_21 : decode cX12_hasRoom 21 = .ok (.iconst 0, 1) := by decide +kernel
theorem dX12_hasRoom_22 : decode cX12_hasRoom 22 = .ok (.ireturn, 1) := by decide +kernel
theorem dX12_carried_0 : decode cX12_carried 0 = .ok (.aload_n 0, 1) := by decide +kernel
theorem dX12_carried_1 : decode cX12_carried 1 = .ok (.getfield 16, 3) := by decide +kernel
theorem dX12_carried_4 : decode cX12_carried 4 = .ok (.iload_n 1, 1) := by decide +kernel
theorem dX12_carried_5 : decode cX12_carried 5 = .ok (.invokestatic 87, 3) := by decide +kernel
theorem dX12_carried_8 : decode cX12_carried 8 = .ok (.bipush 11, 2) := by decide +kernel
theorem dX12_carried_10 : decode cX12_carried 10 = .ok (.iadd, 1) := by decide +kernel
theorem dX12_carried_11 : decode cX12_carried 11 = .ok (.laload, 1) := by decide +kernel
theorem dX12_carried_12 : decode cX12_carried 12 = .ok (.lstore_n 2, 1) := by decide +kernel
theorem dX12_carried_13 : decode cX12_carried 13 = .ok (.aload_n 0, 1) := by decide +kernel
theorem dX12_carried_14 : decode cX12_carried 14 = .ok (.getfield 16, 3) := by decide +kernel
theorem dX12_carried_17 : decode cX12_carried 17 = .ok (.iload_n 1, 1) := by decide +kernel
theorem dX12_carried_18 : decode cX12_carried 18 = .ok (.invokestatic 87, 3) := by decide +kernel
theorem dX12_carried_21 : decode cX12_carried 21 = .ok (.bipush 12, 2) := by decide +kernel
theorem dX12_carried_23 : decode cX12_carried 23 = .ok (.iadd, 1) := by decide +kernel
theorem dX12_carried_24 : decode cX12_carried 24 = .ok (.laload, 1) := by decide +kernel
theorem dX12_carried_25 : decode cX12_carried 25 = .ok (.lstore 4, 2) := by decide +kernel
theorem dX12_carried_27 : decode cX12_carried 27 = .ok (.aload_n 0, 1) := by decide +kernel
theorem dX12_carried_28 : decode cX12_carried 28 = .ok (.getfield 16, 3) := by decide +kernel
theorem dX12_carried_31 : decode cX12_carried 31 = .ok (.iload_n 1, 1) := by decide +kernel
theorem dX12_carried_32 : decode cX12_carried 32 = .ok (.invokestatic 87, 3) := by decide +kernel
theorem dX12_carried_35 : decode cX12_carried 35 = .ok (.iconst 1, 1) := by decide +kernel
theorem dX12_carried_36 : decode cX12_carried 36 = .ok (.iadd, 1) := by decide +kernel
theorem dX12_carried_37 : decode cX12_carried 37 = .ok (.laload, 1) := by decide +kernel
theorem dX12_carried_38 : decode cX12_carried 38 = .ok (.ldc2_w 108, 3) := by decide +kernel
theorem dX12_carried_41 : decode cX12_carried 41 = .ok (.lmul, 1) := by decide +kernel
theorem dX12_carried_42 : decode cX12_carried 42 = .ok (.lload 4, 2) := by decide +kernel
theorem dX12_carried_44 : decode cX12_carried 44 = .ok (.lmul, 1) := by decide +kernel
theorem dX12_carried_45 : decode cX12_carried 45 = .ok (.lstore 6, 2) := by decide +kernel
theorem dX12_carried_47 : decode cX12_carried 47 = .ok (.lload 4, 2) := by decide +kernel
theorem dX12_carried_49 : decode cX12_carried 49 = .ok (.lconst 0, 1) := by decide +kernel
theorem dX12_carried_50 : decode cX12_carried 50 = .ok (.lcmp, 1) := by decide +kernel
theorem dX12_carried_51 : decode cX12_carried 51 = .ok (.ifCond .eq 12, 3) := by decide +kernel
theorem dX12_carried_54 : decode cX12_carried 54 = .ok (.aload_n 0, 1) := by decide +kernel
theorem dX12_carried_55 : decode cX12_carried 55 = .ok (.getfield 13, 3) := by decide +kernel
theorem dX12_carried_58 : decode cX12_carried 58 = .ok (.iconst 1, 1) := by decide +kernel
theorem dX12_carried_59 : decode cX12_carried 59 = .ok (.iaload, 1) := by decide +kernel
theorem dX12_carried_60 : decode cX12_carried 60 = .ok (.ifCond .ne 5, 3) := by decide +kernel
theorem dX12_carried_63 : decode cX12_carried 63 = .ok (.lconst 0, 1) := by decide +kernel
theorem dX12_carried_64 : decode cX12_carried 64 = .ok (.lreturn, 1) := by decide +kernel
theorem dX12_carried_65 : decode cX12_carried 65 = .ok (.aload_n 0, 1) := by decide +kernel
theorem dX12_carried_66 : decode cX12_carried 66 = .ok (.getfield 13, 3) := by decide +kernel
theorem dX12_carried_69 : decode cX12_carried 69 = .ok (.iconst 1, 1) := by decide +kernel
theorem dX12_carried_70 : decode cX12_carried 70 = .ok (.iaload, 1) := by decide +kernel
theorem dX12_carried_71 : decode cX12_carried 71 = .ok (.iconst 1, 1) := by decide +kernel
theorem dX12_carried_72 : decode cX12_carried 72 = .ok (.if_icmp .ne 5, 3) := by decide +kernel
theorem dX12_carried_75 : decode cX12_carried 75 = .ok (.lload_n 2, 1) := by decide +kernel
theorem dX12_carried_76 : decode cX12_carried 76 = .ok (.lreturn, 1) := by decide +kernel
theorem dX12_carried_77 : decode cX12_carried 77 = .ok (.aload_n 0, 1) := by decide +kernel
theorem dX12_carried_78 : decode cX12_carried 78 = .ok (.getfield 13, 3) := by decide +kernel
theorem dX12_carried_81 : decode cX12_carried 81 = .ok (.iconst 1, 1) := by decide +kernel
theorem dX12_carried_82 : decode cX12_carried 82 = .ok (.iaload, 1) := by decide +kernel
theorem dX12_carried_83 : decode cX12_carried 83 = .ok (.iconst 2, 1) := by decide +kernel
theorem dX12_carried_84 : decode cX12_carried 84 = .ok (.if_icmp .ne 31, 3) := by decide +kernel
theorem dX12_carried_87 : decode cX12_carried 87 = .ok (.lload_n 2, 1) := by decide +kernel
theorem dX12_carried_88 : decode cX12_carried 88 = .ok (.lload 6, 2) := by decide +kernel
theorem dX12_carried_90 : decode cX12_carried 90 = .ok (.lcmp, 1) := by decide +kernel
theorem dX12_carried_91 : decode cX12_carried 91 = .ok (.ifCond .le 8, 3) := by decide +kernel
theorem dX12_carried_94 : decode cX12_carried 94 = .ok (.lload 6, 2) := by decide +kernel
theorem dX12_carried_96 : decode cX12_carried 96 = .ok (.goto 18, 3) := by decide +kernel
theorem dX12_carried_99 : decode cX12_carried 99 = .ok (.lload_n 2, 1) := by decide +kernel
theorem dX12_carried_100 : decode cX12_carried 100 = .ok (.lload 6, 2) := by decide +kernel
theorem dX12_carried_102 : decode cX12_carried 102 = .ok (.lneg, 1) := by decide +kernel
theorem dX12_carried_103 : decode cX12_carried 103 = .ok (.lcmp, 1) := by decide +kernel
theorem dX12_carried_104 : decode cX12_carried 104 = .ok (.ifCond .ge 9, 3) := by decide +kernel
theorem dX12_carried_107 : decode cX12_carried 107 = .ok (.lload 6, 2) := by decide +kernel
theorem dX12_carried_109 : decode cX12_carried 109 = .ok (.lneg, 1) := by decide +kernel
theorem dX12_carried_110 : decode cX12_carried 110 = .ok (.goto 4, 3) := by decide +kernel
theorem dX12_carried_113 : decode cX12_carried 113 = .ok (.lload_n 2, 1) := by decide +kernel
theorem dX12_carried_114 : decode cX12_carried 114 = .ok (.lreturn, 1) := by decide +kernel
theorem dX12_carried_115 : decode cX12_carried 115 = .ok (.lload_n 2, 1) := by decide +kernel
theorem dX12_carried_116 : decode cX12_carried 116 = .ok (.lconst 0, 1) := by decide +kernel
theorem dX12_carried_117 : decode cX12_carried 117 = .ok (.lcmp, 1) := by decide +kernel
theorem dX12_carried_118 : decode cX12_carried 118 = .ok (.ifCond .ge 7, 3) := by decide +kernel
theorem dX12_carried_121 : decode cX12_carried 121 = .ok (.lload_n 2, 1) := by decide +kernel
theorem dX12_carried_122 : decode cX12_carried 122 = .ok (.goto 4, 3) := by decide +kernel
theorem dX12_carried_125 : decode cX12_carried 125 = .ok (.lconst 0, 1) := by decide +kernel
theorem dX12_carried_126 : decode cX12_carried 126 = .ok (.lreturn, 1) := by decide +kernel
theorem dX12_joins_0 : decode cX12_joins 0 = .ok (.iload_n 1, 1) := by decide +kernel
theorem dX12_joins_1 : decode cX12_joins 1 = .ok (.invokestatic 87, 3) := by decide +kernel
theorem dX12_joins_4 : decode cX12_joins 4 = .ok (.istore_n 2, 1) := by decide +kernel
theorem dX12_joins_5 : decode cX12_joins 5 = .ok (.aload_n 0, 1) := by decide +kernel
theorem dX12_joins_6 : decode cX12_joins 6 = .ok (.invokevirtual 105, 3) := by decide +kernel
theorem dX12_joins_9 : decode cX12_joins 9 = .ok (.lstore_n 3, 1) := by decide +kernel
theorem dX12_joins_10 : decode cX12_joins 10 = .ok (.lload_n 3, 1) := by decide +kernel
theorem dX12_joins_11 : decode cX12_joins 11 = .ok (.lconst 0, 1) := by decide +kernel
theorem dX12_joins_12 : decode cX12_joins 12 = .ok (.lcmp, 1) := by decide +kernel
theorem dX12_joins_13 : decode cX12_joins 13 = .ok (.ifCond .ne 12, 3) := by decide +kernel
theorem dX12_joins_16 : decode cX12_joins 16 = .ok (.aload_n 0, 1) := by decide +kernel
theorem dX12_joins_17 : decode cX12_joins 17 = .ok (.getfield 16, 3) := by decide +kernel
theorem dX12_joins_20 : decode cX12_joins 20 = .ok (.iconst 2, 1) := by decide +kernel
theorem dX12_joins_21 : decode cX12_joins 21 = .ok (.laload, 1) := by decide +kernel
theorem dX12_joins_22 : decode cX12_joins 22 = .ok (.goto 7, 3) := by decide +kernel
theorem dX12_joins_25 : decode cX12_joins 25 = .ok (.aload_n 0, 1) := by decide +kernel
theorem dX12_joins_26 : decode cX12_joins 26 = .ok (.invokevirtual 101, 3) := by decide +kernel
theorem dX12_joins_29 : decode cX12_joins 29 = .ok (.lstore 5, 2) := by decide +kernel
theorem dX12_joins_31 : decode cX12_joins 31 = .ok (.lload_n 3, 1) := by decide +kernel
theorem dX12_joins_32 : decode cX12_joins 32 = .ok (.lconst 0, 1) := by decide +kernel
theorem dX12_joins_33 : decode cX12_joins 33 = .ok (.lcmp, 1) := by decide +kernel
theorem dX12_joins_34 : decode cX12_joins 34 = .ok (.ifCond .ne 7, 3) := by decide +kernel
theorem dX12_joins_37 : decode cX12_joins 37 = .ok (.lconst 1, 1) := by decide +kernel
theorem dX12_joins_38 : decode cX12_joins 38 = .ok (.goto 4, 3) := by decide +kernel
theorem dX12_joins_41 : decode cX12_joins 41 = .ok (.lload_n 3, 1) := by decide +kernel
theorem dX12_joins_42 : decode cX12_joins 42 = .ok (.lstore_n 3, 1) := by decide +kernel
theorem dX12_joins_43 : decode cX12_joins 43 = .ok (.aload_n 0, 1) := by decide +kernel
theorem dX12_joins_44 : decode cX12_joins 44 = .ok (.getfield 16, 3) := by decide +kernel
theorem dX12_joins_47 : decode cX12_joins 47 = .ok (.iload_n 2, 1) := by decide +kernel
theorem dX12_joins_48 : decode cX12_joins 48 = .ok (.bipush 12, 2) := by decide +kernel
theorem dX12_joins_50 : decode cX12_joins 50 = .ok (.iadd, 1) := by decide +kernel
theorem dX12_joins_51 : decode cX12_joins 51 = .ok (.laload, 1) := by decide +kernel
theorem dX12_joins_52 : decode cX12_joins 52 = .ok (.lconst 0, 1) := by decide +kernel
theorem dX12_joins_53 : decode cX12_joins 53 = .ok (.lcmp, 1) := by decide +kernel
theorem dX12_joins_54 : decode cX12_joins 54 = .ok (.ifCond .ne 7, 3) := by decide +kernel
theorem dX12_joins_57 : decode cX12_joins 57 = .ok (.lconst 1, 1) := by decide +kernel
theorem dX12_joins_58 : decode cX12_joins 58 = .ok (.goto 12, 3) := by decide +kernel
theorem dX12_joins_61 : decode cX12_joins 61 = .ok (.aload_n 0, 1) := by decide +kernel
theorem dX12_joins_62 : decode cX12_joins 62 = .ok (.getfield 16, 3) := by decide +kernel
theorem dX12_joins_65 : decode cX12_joins 65 = .ok (.iload_n 2, 1) := by decide +kernel
theorem dX12_joins_66 : decode cX12_joins 66 = .ok (.bipush 12, 2) := by decide +kernel
theorem dX12_joins_68 : decode cX12_joins 68 = .ok (.iadd, 1) := by decide +kernel
theorem dX12_joins_69 : decode cX12_joins 69 = .ok (.laload, 1) := by decide +kernel
theorem dX12_joins_70 : decode cX12_joins 70 = .ok (.lstore 7, 2) := by decide +kernel
theorem dX12_joins_72 : decode cX12_joins 72 = .ok (.lload 7, 2) := by decide +kernel
theorem dX12_joins_74 : decode cX12_joins 74 = .ok (.aload_n 0, 1) := by decide +kernel
theorem dX12_joins_75 : decode cX12_joins 75 = .ok (.getfield 16, 3) := by decide +kernel
theorem dX12_joins_78 : decode cX12_joins 78 = .ok (.iload_n 2, 1) := by decide +kernel
theorem dX12_joins_79 : decode cX12_joins 79 = .ok (.iconst 0, 1) := by decide +kernel
theorem dX12_joins_80 : decode cX12_joins 80 = .ok (.iadd, 1) := by decide +kernel
theorem dX12_joins_81 : decode cX12_joins 81 = .ok (.laload, 1) := by decide +kernel
theorem dX12_joins_82 : decode cX12_joins 82 = .ok (.lmul, 1) := by decide +kernel
theorem dX12_joins_83 : decode cX12_joins 83 = .ok (.lstore 9, 2) := by decide +kernel
theorem dX12_joins_85 : decode cX12_joins 85 = .ok (.aload_n 0, 1) := by decide +kernel
theorem dX12_joins_86 : decode cX12_joins 86 = .ok (.getfield 16, 3) := by decide +kernel
theorem dX12_joins_89 : decode cX12_joins 89 = .ok (.iload_n 2, 1) := by decide +kernel
theorem dX12_joins_90 : decode cX12_joins 90 = .ok (.bipush 10, 2) := by decide +kernel
theorem dX12_joins_92 : decode cX12_joins 92 = .ok (.iadd, 1) := by decide +kernel
theorem dX12_joins_93 : decode cX12_joins 93 = .ok (.lload 5, 2) := by decide +kernel
theorem dX12_joins_95 : decode cX12_joins 95 = .ok (.lload 9, 2) := by decide +kernel
theorem dX12_joins_97 : decode cX12_joins 97 = .ok (.lmul, 1) := by decide +kernel
theorem dX12_joins_98 : decode cX12_joins 98 = .ok (.aload_n 0, 1) := by decide +kernel
theorem dX12_joins_99 : decode cX12_joins 99 = .ok (.iload_n 1, 1) := by decide +kernel
theorem dX12_joins_100 : decode cX12_joins 100 = .ok (.invokevirtual 112, 3) := by decide +kernel
theorem dX12_joins_103 : decode cX12_joins 103 = .ok (.lload_n 3, 1) := by decide +kernel
theorem dX12_joins_104 : decode cX12_joins 104 = .ok (.lmul, 1) := by decide +kernel
theorem dX12_joins_105 : decode cX12_joins 105 = .ok (.lsub, 1) := by decide +kernel
theorem dX12_joins_106 : decode cX12_joins 106 = .ok (.lload_n 3, 1) := by decide +kernel
theorem dX12_joins_107 : decode cX12_joins 107 = .ok (.lload 9, 2) := by decide +kernel
theorem dX12_joins_109 : decode cX12_joins 109 = .ok (.lmul, 1) := by decide +kernel
theorem dX12_joins_110 : decode cX12_joins 110 = .ok (.invokestatic 115, 3) := by decide +kernel
theorem dX12_joins_113 : decode cX12_joins 113 = .ok (.lastore, 1) := by decide +kernel
theorem dX12_joins_114 : decode cX12_joins 114 = .ok (.aload_n 0, 1) := by decide +kernel
theorem dX12_joins_115 : decode cX12_joins 115 = .ok (.getfield 16, 3) := by decide +kernel
theorem dX12_joins_118 : decode cX12_joins 118 = .ok (.iload_n 2, 1) := by decide +kernel
theorem dX12_joins_119 : decode cX12_joins 119 = .ok (.iconst 2, 1) := by decide +kernel
theorem dX12_joins_120 : decode cX12_joins 120 = .ok (.iadd, 1) := by decide +kernel
theorem dX12_joins_121 : decode cX12_joins 121 = .ok (.lconst 1, 1) := by decide +kernel
theorem dX12_joins_122 : decode cX12_joins 122 = .ok (.lastore, 1) := by decide +kernel
theorem dX12_joins_123 : decode cX12_joins 123 = .ok (.aload_n 0, 1) := by decide +kernel
theorem dX12_joins_124 : decode cX12_joins 124 = .ok (.getfield 16, 3) := by decide +kernel
theorem dX12_joins_127 : decode cX12_joins 127 = .ok (.iload_n 2, 1) := by decide +kernel
theorem dX12_joins_128 : decode cX12_joins 128 = .ok (.iconst 3, 1) := by decide +kernel
theorem dX12_joins_129 : decode cX12_joins 129 = .ok (.iadd, 1) := by decide +kernel
theorem dX12_joins_130 : decode cX12_joins 130 = .ok (.aload_n 0, 1) := by decide +kernel
theorem dX12_joins_131 : decode cX12_joins 131 = .ok (.getfield 16, 3) := by decide +kernel
theorem dX12_joins_134 : decode cX12_joins 134 = .ok (.iload_n 2, 1) := by decide +kernel
theorem dX12_joins_135 : decode cX12_joins 135 = .ok (.iconst 1, 1) := by decide +kernel
theorem dX12_joins_136 : decode cX12_joins 136 = .ok (.iadd, 1) := by decide +kernel
theorem dX12_joins_137 : decode cX12_joins 137 = .ok (.laload, 1) := by decide +kernel
theorem dX12_joins_138 : decode cX12_joins 138 = .ok (.lastore, 1) := by decide +kernel
theorem dX12_joins_139 : decode cX12_joins 139 = .ok (.aload_n 0, 1) := by decide +kernel
theorem dX12_joins_140 : decode cX12_joins 140 = .ok (.getfield 16, 3) := by decide +kernel
theorem dX12_joins_143 : decode cX12_joins 143 = .ok (.iload_n 2, 1) := by decide +kernel
theorem dX12_joins_144 : decode cX12_joins 144 = .ok (.bipush 7, 2) := by decide +kernel
theorem dX12_joins_146 : decode cX12_joins 146 = .ok (.iadd, 1) := by decide +kernel
theorem dX12_joins_147 : decode cX12_joins 147 = .ok (.lconst 0, 1) := by decide +kernel
theorem dX12_joins_148 : decode cX12_joins 148 = .ok (.lastore, 1) := by decide +kernel
theorem dX12_joins_149 : decode cX12_joins 149 = .ok (.return_, 1) := by decide +kernel
theorem dX12_leaves_0 : decode cX12_leaves 0 = .ok (.iload_n 1, 1) := by decide +kernel
theorem dX12_leaves_1 : decode cX12_leaves 1 = .ok (.invokestatic 87, 3) := by decide +kernel
theorem dX12_leaves_4 : decode cX12_leaves 4 = .ok (.istore_n 2, 1) := by decide +kernel
theorem dX12_leaves_5 : decode cX12_leaves 5 = .ok (.aload_n 0, 1) := by decide +kernel
theorem dX12_leaves_6 : decode cX12_leaves 6 = .ok (.iload_n 1, 1) := by decide +kernel
theorem dX12_leaves_7 : decode cX12_leaves 7 = .ok (.invokevirtual 90, 3) := by decide +kernel
theorem dX12_leaves_10 : decode cX12_leaves 10 = .ok (.ifCond .eq 66, 3) := by decide +kernel
theorem dX12_leaves_13 : decode cX12_leaves 13 = .ok (.aload_n 0, 1) := by decide +kernel
theorem dX12_leaves_14 : decode cX12_leaves 14 = .ok (.getfield 16, 3) := by decide +kernel
theorem dX12_leaves_17 : decode cX12_leaves 17 = .ok (.iload_n 2, 1) := by decide +kernel
theorem dX12_leaves_18 : decode cX12_leaves 18 = .ok (.bipush 11, 2) := by decide +kernel
theorem dX12_leaves_20 : decode cX12_leaves 20 = .ok (.iadd, 1) := by decide +kernel
theorem dX12_leaves_21 : decode cX12_leaves 21 = .ok (.aload_n 0, 1) := by decide +kernel
theorem dX12_leaves_22 : decode cX12_leaves 22 = .ok (.iload_n 1, 1) := by decide +kernel
theorem dX12_leaves_23 : decode cX12_leaves 23 = .ok (.invokevirtual 119, 3) := by decide +kernel
theorem dX12_leaves_26 : decode cX12_leaves 26 = .ok (.lastore, 1) := by decide +kernel
theorem dX12_leaves_27 : decode cX12_leaves 27 = .ok (.aload_n 0, 1) := by decide +kernel
theorem dX12_leaves_28 : decode cX12_leaves 28 = .ok (.getfield 16, 3) := by decide +kernel
theorem dX12_leaves_31 : decode cX12_leaves 31 = .ok (.iload_n 2, 1) := by decide +kernel
theorem dX12_leaves_32 : decode cX12_leaves 32 = .ok (.bipush 12, 2) := by decide +kernel
theorem dX12_leaves_34 : decode cX12_leaves 34 = .ok (.iadd, 1) := by decide +kernel
theorem dX12_leaves_35 : decode cX12_leaves 35 = .ok (.aload_n 0, 1) := by decide +kernel
theorem dX12_leaves_36 : decode cX12_leaves 36 = .ok (.invokevirtual 105, 3) := by decide +kernel
theorem dX12_leaves_39 : decode cX12_leaves 39 = .ok (.lastore, 1) := by decide +kernel
theorem dX12_leaves_40 : decode cX12_leaves 40 = .ok (.aload_n 0, 1) := by decide +kernel
theorem dX12_leaves_41 : decode cX12_leaves 41 = .ok (.getfield 16, 3) := by decide +kernel
theorem dX12_leaves_44 : decode cX12_leaves 44 = .ok (.iconst 2, 1) := by decide +kernel
theorem dX12_leaves_45 : decode cX12_leaves 45 = .ok (.aload_n 0, 1) := by decide +kernel
theorem dX12_leaves_46 : decode cX12_leaves 46 = .ok (.invokevirtual 105, 3) := by decide +kernel
theorem dX12_leaves_49 : decode cX12_leaves 49 = .ok (.aload_n 0, 1) := by decide +kernel
theorem dX12_leaves_50 : decode cX12_leaves 50 = .ok (.getfield 16, 3) := by decide +kernel
theorem dX12_leaves_53 : decode cX12_leaves 53 = .ok (.iload_n 2, 1) := by decide +kernel
theorem dX12_leaves_54 : decode cX12_leaves 54 = .ok (.iconst 0, 1) := by decide +kernel
theorem dX12_leaves_55 : decode cX12_leaves 55 = .ok (.iadd, 1) := by decide +kernel
theorem dX12_leaves_56 : decode cX12_leaves 56 = .ok (.laload, 1) := by decide +kernel
theorem dX12_leaves_57 : decode cX12_leaves 57 = .ok (.lcmp, 1) := by decide +kernel
theorem dX12_leaves_58 : decode cX12_leaves 58 = .ok (.ifCond .ne 11, 3) := by decide +kernel
theorem dX12_leaves_61 : decode cX12_leaves 61 = .ok (.aload_n 0, 1) := by decide +kernel
theorem dX12_leaves_62 : decode cX12_leaves 62 = .ok (.iload_n 1, 1) := by decide +kernel
theorem dX12_leaves_63 : decode cX12_leaves 63 = .ok (.invokevirtual 98, 3) := by decide +kernel
theorem dX12_leaves_66 : decode cX12_leaves 66 = .ok (.goto 9, 3) := by decide +kernel
theorem dX12_leaves_69 : decode cX12_leaves 69 = .ok (.aload_n 0, 1) := by decide +kernel
theorem dX12_leaves_70 : decode cX12_leaves 70 = .ok (.getfield 16, 3) := by decide +kernel
theorem dX12_leaves_73 : decode cX12_leaves 73 = .ok (.iconst 2, 1) := by decide +kernel
theorem dX12_leaves_74 : decode cX12_leaves 74 = .ok (.laload, 1) := by decide +kernel
theorem dX12_leaves_75 : decode cX12_leaves 75 = .ok (.lastore, 1) := by decide +kernel
theorem dX12_leaves_76 : decode cX12_leaves 76 = .ok (.aload_n 0, 1) := by decide +kernel
theorem dX12_leaves_77 : decode cX12_leaves 77 = .ok (.getfield 16, 3) := by decide +kernel
theorem dX12_leaves_80 : decode cX12_leaves 80 = .ok (.iload_n 2, 1) := by decide +kernel
theorem dX12_leaves_81 : decode cX12_leaves 81 = .ok (.iconst 2, 1) := by decide +kernel
theorem dX12_leaves_82 : decode cX12_leaves 82 = .ok (.iadd, 1) := by decide +kernel
theorem dX12_leaves_83 : decode cX12_leaves 83 = .ok (.lconst 0, 1) := by decide +kernel
theorem dX12_leaves_84 : decode cX12_leaves 84 = .ok (.lastore, 1) := by decide +kernel
theorem dX12_leaves_85 : decode cX12_leaves 85 = .ok (.aload_n 0, 1) := by decide +kernel
theorem dX12_leaves_86 : decode cX12_leaves 86 = .ok (.getfield 16, 3) := by decide +kernel
theorem dX12_leaves_89 : decode cX12_leaves 89 = .ok (.iconst 4, 1) := by decide +kernel
theorem dX12_leaves_90 : decode cX12_leaves 90 = .ok (.aload_n 0, 1) := by decide +kernel
theorem dX12_leaves_91 : decode cX12_leaves 91 = .ok (.getfield 16, 3) := by decide +kernel
theorem dX12_leaves_94 : decode cX12_leaves 94 = .ok (.iconst 4, 1) := by decide +kernel
theorem dX12_leaves_95 : decode cX12_leaves 95 = .ok (.laload, 1) := by decide +kernel
theorem dX12_leaves_96 : decode cX12_leaves 96 = .ok (.iload_n 1, 1) := by decide +kernel
theorem dX12_leaves_97 : decode cX12_leaves 97 = .ok (.i2l, 1) := by decide +kernel
theorem dX12_leaves_98 : decode cX12_leaves 98 = .ok (.lcmp, 1) := by decide +kernel
theorem dX12_leaves_99 : decode cX12_leaves 99 = .ok (.ifCond .ne 9, 3) := by decide +kernel
theorem dX12_leaves_102 : decode cX12_leaves 102 = .ok (.ldc2_w 65, 3) := by decide +kernel
theorem dX12_leaves_105 : decode cX12_leaves 105 = .ok (.goto 9, 3) := by decide +kernel
theorem dX12_leaves_108 : decode cX12_leaves 108 = .ok (.aload_n 0, 1) := by decide +kernel
theorem dX12_leaves_109 : decode cX12_leaves 109 = .ok (.getfield 16, 3) := by decide +kernel
theorem dX12_leaves_112 : decode cX12_leaves 112 = .ok (.iconst 4, 1) := by decide +kernel
theorem dX12_leaves_113 : decode cX12_leaves 113 = .ok (.laload, 1) := by decide +kernel
theorem dX12_leaves_114 : decode cX12_leaves 114 = .ok (.lastore, 1) := by decide +kernel
theorem dX12_leaves_115 : decode cX12_leaves 115 = .ok (.return_, 1) := by decide +kernel
theorem dX12_weighs_0 : decode cX12_weighs 0 = .ok (.iload_n 1, 1) := by decide +kernel
theorem dX12_weighs_1 : decode cX12_weighs 1 = .ok (.invokestatic 87, 3) := by decide +kernel
theorem dX12_weighs_4 : decode cX12_weighs 4 = .ok (.istore 4, 2) := by decide +kernel
theorem dX12_weighs_6 : decode cX12_weighs 6 = .ok (.aload_n 0, 1) := by decide +kernel
theorem dX12_weighs_7 : decode cX12_weighs 7 = .ok (.iload_n 1, 1) := by decide +kernel
theorem dX12_weighs_8 : decode cX12_weighs 8 = .ok (.invokevirtual 90, 3) := by decide +kernel
theorem dX12_weighs_11 : decode cX12_weighs 11 = .ok (.ifCond .eq 61, 3) := by decide +kernel
theorem dX12_weighs_14 : decode cX12_weighs 14 = .ok (.aload_n 0, 1) := by decide +kernel
theorem dX12_weighs_15 : decode cX12_weighs 15 = .ok (.invokevirtual 105, 3) := by decide +kernel
theorem dX12_weighs_18 : decode cX12_weighs 18 = .ok (.lstore 5, 2) := by decide +kernel
theorem dX12_weighs_20 : decode cX12_weighs 20 = .ok (.lload 5, 2) := by decide +kernel
theorem dX12_weighs_22 : decode cX12_weighs 22 = .ok (.aload_n 0, 1) := by decide +kernel
theorem dX12_weighs_23 : decode cX12_weighs 23 = .ok (.getfield 16, 3) := by decide +kernel
theorem dX12_weighs_26 : decode cX12_weighs 26 = .ok (.iload 4, 2) := by decide +kernel
theorem dX12_weighs_28 : decode cX12_weighs 28 = .ok (.iconst 0, 1) := by decide +kernel
theorem dX12_weighs_29 : decode cX12_weighs 29 = .ok (.iadd, 1) := by decide +kernel
theorem dX12_weighs_30 : decode cX12_weighs 30 = .ok (.laload, 1) := by decide +kernel
theorem dX12_weighs_31 : decode cX12_weighs 31 = .ok (.lsub, 1) := by decide +kernel
theorem dX12_weighs_32 : decode cX12_weighs 32 = .ok (.lload_n 2, 1) := by decide +kernel
theorem dX12_weighs_33 : decode cX12_weighs 33 = .ok (.ladd, 1) := by decide +kernel
theorem dX12_weighs_34 : decode cX12_weighs 34 = .ok (.ldc2_w 110, 3) := by decide +kernel
theorem dX12_weighs_37 : decode cX12_weighs 37 = .ok (.lcmp, 1) := by decide +kernel
theorem dX12_weighs_38 : decode cX12_weighs 38 = .ok (.ifCond .le 5, 3) := by decide +kernel
theorem dX12_weighs_41 : decode cX12_weighs 41 = .ok (.iconst 0, 1) := by decide +kernel
theorem dX12_weighs_42 : decode cX12_weighs 42 = .ok (.ireturn, 1) := by decide +kernel
theorem dX12_weighs_43 : decode cX12_weighs 43 = .ok (.aload_n 0, 1) := by decide +kernel
theorem dX12_weighs_44 : decode cX12_weighs 44 = .ok (.getfield 16, 3) := by decide +kernel
theorem dX12_weighs_47 : decode cX12_weighs 47 = .ok (.iload 4, 2) := by decide +kernel
theorem dX12_weighs_49 : decode cX12_weighs 49 = .ok (.bipush 10, 2) := by decide +kernel
theorem dX12_weighs_51 : decode cX12_weighs 51 = .ok (.iadd, 1) := by decide +kernel
theorem dX12_weighs_52 : decode cX12_weighs 52 = .ok (.aload_n 0, 1) := by decide +kernel
theorem dX12_weighs_53 : decode cX12_weighs 53 = .ok (.invokevirtual 101, 3) := by decide +kernel
theorem dX12_weighs_56 : decode cX12_weighs 56 = .ok (.lload_n 2, 1) := by decide +kernel
theorem dX12_weighs_57 : decode cX12_weighs 57 = .ok (.lmul, 1) := by decide +kernel
theorem dX12_weighs_58 : decode cX12_weighs 58 = .ok (.aload_n 0, 1) := by decide +kernel
theorem dX12_weighs_59 : decode cX12_weighs 59 = .ok (.iload_n 1, 1) := by decide +kernel
theorem dX12_weighs_60 : decode cX12_weighs 60 = .ok (.invokevirtual 119, 3) := by decide +kernel
theorem dX12_weighs_63 : decode cX12_weighs 63 = .ok (.lsub, 1) := by decide +kernel
theorem dX12_weighs_64 : decode cX12_weighs 64 = .ok (.lload 5, 2) := by decide +kernel
theorem dX12_weighs_66 : decode cX12_weighs 66 = .ok (.lload_n 2, 1) := by decide +kernel
theorem dX12_weighs_67 : decode cX12_weighs 67 = .ok (.lmul, 1) := by decide +kernel
theorem dX12_weighs_68 : decode cX12_weighs 68 = .ok (.invokestatic 115, 3) := by decide +kernel
theorem dX12_weighs_71 : decode cX12_weighs 71 = .ok (.lastore, 1) := by decide +kernel
theorem dX12_weighs_72 : decode cX12_weighs 72 = .ok (.aload_n 0, 1) := by decide +kernel
theorem dX12_weighs_73 : decode cX12_weighs 73 = .ok (.getfield 16, 3) := by decide +kernel
theorem dX12_weighs_76 : decode cX12_weighs 76 = .ok (.iload 4, 2) := by decide +kernel
theorem dX12_weighs_78 : decode cX12_weighs 78 = .ok (.iconst 0, 1) := by decide +kernel
theorem dX12_weighs_79 : decode cX12_weighs 79 = .ok (.iadd, 1) := by decide +kernel
theorem dX12_weighs_80 : decode cX12_weighs 80 = .ok (.lload_n 2, 1) := by decide +kernel
theorem dX12_weighs_81 : decode cX12_weighs 81 = .ok (.lastore, 1) := by decide +kernel
theorem dX12_weighs_82 : decode cX12_weighs 82 = .ok (.iconst 1, 1) := by decide +kernel
theorem dX12_weighs_83 : decode cX12_weighs 83 = .ok (.ireturn, 1) := by decide +kernel
theorem dX12_slices_0 : decode cX12_slices 0 = .ok (.iload_n 1, 1) := by decide +kernel
theorem dX12_slices_1 : decode cX12_slices 1 = .ok (.invokestatic 87, 3) := by decide +kernel
theorem dX12_slices_4 : decode cX12_slices 4 = .ok (.istore 4, 2) := by decide +kernel
theorem dX12_slices_6 : decode cX12_slices 6 = .ok (.aload_n 0, 1) := by decide +kernel
theorem dX12_slices_7 : decode cX12_slices 7 = .ok (.getfield 16, 3) := by decide +kernel
theorem dX12_slices_10 : decode cX12_slices 10 = .ok (.iload 4, 2) := by decide +kernel
theorem dX12_slices_12 : decode cX12_slices 12 = .ok (.iconst 1, 1) := by decide +kernel
theorem dX12_slices_13 : decode cX12_slices 13 = .ok (.iadd, 1) := by decide +kernel
theorem dX12_slices_14 : decode cX12_slices 14 = .ok (.lload_n 2, 1) := by decide +kernel
theorem dX12_slices_15 : decode cX12_slices 15 = .ok (.lastore, 1) := by decide +kernel
theorem dX12_slices_16 : decode cX12_slices 16 = .ok (.aload_n 0, 1) := by decide +kernel
theorem dX12_slices_17 : decode cX12_slices 17 = .ok (.getfield 16, 3) := by decide +kernel
theorem dX12_slices_20 : decode cX12_slices 20 = .ok (.iload 4, 2) := by decide +kernel
theorem dX12_slices_22 : decode cX12_slices 22 = .ok (.iconst 3, 1) := by decide +kernel
theorem dX12_slices_23 : decode cX12_slices 23 = .ok (.iadd, 1) := by decide +kernel
theorem dX12_slices_24 : decode cX12_slices 24 = .ok (.aload_n 0, 1) := by decide +kernel
theorem dX12_slices_25 : decode cX12_slices 25 = .ok (.getfield 16, 3) := by decide +kernel
theorem dX12_slices_28 : decode cX12_slices 28 = .ok (.iload 4, 2) := by decide +kernel
theorem dX12_slices_30 : decode cX12_slices 30 = .ok (.iconst 3, 1) := by decide +kernel
theorem dX12_slices_31 : decode cX12_slices 31 = .ok (.iadd, 1) := by decide +kernel
theorem dX12_slices_32 : decode cX12_slices 32 = .ok (.laload, 1) := by decide +kernel
theorem dX12_slices_33 : decode cX12_slices 33 = .ok (.lload_n 2, 1) := by decide +kernel
theorem dX12_slices_34 : decode cX12_slices 34 = .ok (.lcmp, 1) := by decide +kernel
theorem dX12_slices_35 : decode cX12_slices 35 = .ok (.ifCond .le 7, 3) := by decide +kernel
theorem dX12_slices_38 : decode cX12_slices 38 = .ok (.lload_n 2, 1) := by decide +kernel
theorem dX12_slices_39 : decode cX12_slices 39 = .ok (.goto 12, 3) := by decide +kernel
theorem dX12_slices_42 : decode cX12_slices 42 = .ok (.aload_n 0, 1) := by decide +kernel
theorem dX12_slices_43 : decode cX12_slices 43 = .ok (.getfield 16, 3) := by decide +kernel
theorem dX12_slices_46 : decode cX12_slices 46 = .ok (.iload 4, 2) := by decide +kernel
theorem dX12_slices_48 : decode cX12_slices 48 = .ok (.iconst 3, 1) := by decide +kernel
theorem dX12_slices_49 : decode cX12_slices 49 = .ok (.iadd, 1) := by decide +kernel
theorem dX12_slices_50 : decode cX12_slices 50 = .ok (.laload, 1) := by decide +kernel
theorem dX12_slices_51 : decode cX12_slices 51 = .ok (.lastore, 1) := by decide +kernel
theorem dX12_slices_52 : decode cX12_slices 52 = .ok (.return_, 1) := by decide +kernel
theorem dX12_terms_0 : decode cX12_terms 0 = .ok (.aload_n 0, 1) := by decide +kernel
theorem dX12_terms_1 : decode cX12_terms 1 = .ok (.iconst 0, 1) := by decide +kernel
theorem dX12_terms_2 : decode cX12_terms 2 = .ok (.putfield 67, 3) := by decide +kernel
theorem dX12_terms_5 : decode cX12_terms 5 = .ok (.iload_n 1, 1) := by decide +kernel
theorem dX12_terms_6 : decode cX12_terms 6 = .ok (.i2l, 1) := by decide +kernel
theorem dX12_terms_7 : decode cX12_terms 7 = .ok (.lconst 0, 1) := by decide +kernel
theorem dX12_terms_8 : decode cX12_terms 8 = .ok (.ldc2_w 122, 3) := by decide +kernel
theorem dX12_terms_11 : decode cX12_terms 11 = .ok (.invokestatic 83, 3) := by decide +kernel
theorem dX12_terms_14 : decode cX12_terms 14 = .ok (.ifCond .eq 34, 3) := by decide +kernel
theorem dX12_terms_17 : decode cX12_terms 17 = .ok (.iload_n 2, 1) := by decide +kernel
theorem dX12_terms_18 : decode cX12_terms 18 = .ok (.i2l, 1) := by decide +kernel
theorem dX12_terms_19 : decode cX12_terms 19 = .ok (.lconst 0, 1) := by decide +kernel
theorem dX12_terms_20 : decode cX12_terms 20 = .ok (.iload_n 1, 1) := by decide +kernel
theorem dX12_terms_21 : decode cX12_terms 21 = .ok (.ifCond .ne 7, 3) := by decide +kernel
theorem dX12_terms_24 : decode cX12_terms 24 = .ok (.lconst 1, 1) := by decide +kernel
theorem dX12_terms_25 : decode cX12_terms 25 = .ok (.goto 17, 3) := by decide +kernel
theorem dX12_terms_28 : decode cX12_terms 28 = .ok (.iload_n 1, 1) := by decide +kernel
theorem dX12_terms_29 : decode cX12_terms 29 = .ok (.iconst 1, 1) := by decide +kernel
theorem dX12_terms_30 : decode cX12_terms 30 = .ok (.if_icmp .ne 9, 3) := by decide +kernel
theorem dX12_terms_33 : decode cX12_terms 33 = .ok (.ldc2_w 124, 3) := by decide +kernel
theorem dX12_terms_36 : decode cX12_terms 36 = .ok (.goto 6, 3) := by decide +kernel
theorem dX12_terms_39 : decode cX12_terms 39 = .ok (.ldc2_w 126, 3) := by decide +kernel
theorem dX12_terms_42 : decode cX12_terms 42 = .ok (.invokestatic 83, 3) := by decide +kernel
theorem dX12_terms_45 : decode cX12_terms 45 = .ok (.ifCond .ne 9, 3) := by decide +kernel
theorem dX12_terms_48 : decode cX12_terms 48 = .ok (.aload_n 0, 1) := by decide +kernel
theorem dX12_terms_49 : decode cX12_terms 49 = .ok (.iconst (-1), 1) := by decide +kernel
theorem dX12_terms_50 : decode cX12_terms 50 = .ok (.invokevirtual 76, 3) := by decide +kernel
theorem dX12_terms_53 : decode cX12_terms 53 = .ok (.ireturn, 1) := by decide +kernel
theorem dX12_terms_54 : decode cX12_terms 54 = .ok (.aload_n 0, 1) := by decide +kernel
theorem dX12_terms_55 : decode cX12_terms 55 = .ok (.getfield 13, 3) := by decide +kernel
theorem dX12_terms_58 : decode cX12_terms 58 = .ok (.iload_n 1, 1) := by decide +kernel
theorem dX12_terms_59 : decode cX12_terms 59 = .ok (.iaload, 1) := by decide +kernel
theorem dX12_terms_60 : decode cX12_terms 60 = .ok (.istore_n 3, 1) := by decide +kernel
theorem dX12_terms_61 : decode cX12_terms 61 = .ok (.aload_n 0, 1) := by decide +kernel
theorem dX12_terms_62 : decode cX12_terms 62 = .ok (.getfield 13, 3) := by decide +kernel
theorem dX12_terms_65 : decode cX12_terms 65 = .ok (.iload_n 1, 1) := by decide +kernel
theorem dX12_terms_66 : decode cX12_terms 66 = .ok (.iload_n 2, 1) := by decide +kernel
theorem dX12_terms_67 : decode cX12_terms 67 = .ok (.iastore, 1) := by decide +kernel
theorem dX12_terms_68 : decode cX12_terms 68 = .ok (.aload_n 0, 1) := by decide +kernel
theorem dX12_terms_69 : decode cX12_terms 69 = .ok (.iload_n 3, 1) := by decide +kernel
theorem dX12_terms_70 : decode cX12_terms 70 = .ok (.invokevirtual 80, 3) := by decide +kernel
theorem dX12_terms_73 : decode cX12_terms 73 = .ok (.ireturn, 1) := by decide +kernel
theorem dX12_four_0 : decode cX12_four 0 = .ok (.bipush 24, 2) := by decide +kernel
theorem dX12_four_2 : decode cX12_four 2 = .ok (.istore_n 2, 1) := by decide +kernel
theorem dX12_four_3 : decode cX12_four 3 = .ok (.iload_n 2, 1) := by decide +kernel
theorem dX12_four_4 : decode cX12_four 4 = .ok (.ifCond .lt 35, 3) := by decide +kernel
theorem dX12_four_7 : decode cX12_four 7 = .ok (.aload_n 0, 1) := by decide +kernel
theorem dX12_four_8 : decode cX12_four 8 = .ok (.getfield 36, 3) := by decide +kernel
theorem dX12_four_11 : decode cX12_four 11 = .ok (.aload_n 0, 1) := by decide +kernel
theorem dX12_four_12 : decode cX12_four 12 = .ok (.getfield 128, 3) := by decide +kernel
theorem dX12_four_15 : decode cX12_four 15 = .ok (.iload_n 1, 1) := by decide +kernel
theorem dX12_four_16 : decode cX12_four 16 = .ok (.iload_n 2, 1) := by decide +kernel
theorem dX12_four_17 : decode cX12_four 17 = .ok (.ishr, 1) := by decide +kernel
theorem dX12_four_18 : decode cX12_four 18 = .ok (.sipush 255, 3) := by decide +kernel
theorem dX12_four_21 : decode cX12_four 21 = .ok (.iand, 1) := by decide +kernel
theorem dX12_four_22 : decode cX12_four 22 = .ok (.iastore, 1) := by decide +kernel
theorem dX12_four_23 : decode cX12_four 23 = .ok (.aload_n 0, 1) := by decide +kernel
theorem dX12_four_24 : decode cX12_four 24 = .ok (.dup, 1) := by decide +kernel
theorem dX12_four_25 : decode cX12_four 25 = .ok (.getfield 128, 3) := by decide +kernel
theorem dX12_four_28 : decode cX12_four 28 = .ok (.iconst 1, 1) := by decide +kernel
theorem dX12_four_29 : decode cX12_four 29 = .ok (.iadd, 1) := by decide +kernel
theorem dX12_four_30 : decode cX12_four 30 = .ok (.putfield 128, 3) := by decide +kernel
theorem dX12_four_33 : decode cX12_four 33 = .ok (.iinc 2 (-8), 3) := by decide +kernel
theorem dX12_four_36 : decode cX12_four 36 = .ok (.goto (-33), 3) := by decide +kernel
theorem dX12_four_39 : decode cX12_four 39 = .ok (.return_, 1) := by decide +kernel
theorem dX12_feed_0 : decode cX12_feed 0 = .ok (.aload_n 0, 1) := by decide +kernel
theorem dX12_feed_1 : decode cX12_feed 1 = .ok (.iconst 0, 1) := by decide +kernel
theorem dX12_feed_2 : decode cX12_feed 2 = .ok (.putfield 67, 3) := by decide +kernel
theorem dX12_feed_5 : decode cX12_feed 5 = .ok (.aload_n 0, 1) := by decide +kernel
theorem dX12_feed_6 : decode cX12_feed 6 = .ok (.getfield 128, 3) := by decide +kernel
theorem dX12_feed_9 : decode cX12_feed 9 = .ok (.bipush 20, 2) := by decide +kernel
theorem dX12_feed_11 : decode cX12_feed 11 = .ok (.iadd, 1) := by decide +kernel
theorem dX12_feed_12 : decode cX12_feed 12 = .ok (.sipush 200, 3) := by decide +kernel
theorem dX12_feed_15 : decode cX12_feed 15 = .ok (.if_icmp .le 5, 3) := by decide +kernel
theorem dX12_feed_18 : decode cX12_feed 18 = .ok (.iconst (-1), 1) := by decide +kernel
theorem dX12_feed_19 : decode cX12_feed 19 = .ok (.ireturn, 1) := by decide +kernel
theorem dX12_feed_20 : decode cX12_feed 20 = .ok (.aload_n 0, 1) := by decide +kernel
theorem dX12_feed_21 : decode cX12_feed 21 = .ok (.iload_n 1, 1) := by decide +kernel
theorem dX12_feed_22 : decode cX12_feed 22 = .ok (.invokevirtual 131, 3) := by decide +kernel
theorem dX12_feed_25 : decode cX12_feed 25 = .ok (.aload_n 0, 1) := by decide +kernel
theorem dX12_feed_26 : decode cX12_feed 26 = .ok (.iload_n 2, 1) := by decide +kernel
theorem dX12_feed_27 : decode cX12_feed 27 = .ok (.invokevirtual 131, 3) := by decide +kernel
theorem dX12_feed_30 : decode cX12_feed 30 = .ok (.aload_n 0, 1) := by decide +kernel
theorem dX12_feed_31 : decode cX12_feed 31 = .ok (.iload_n 3, 1) := by decide +kernel
theorem dX12_feed_32 : decode cX12_feed 32 = .ok (.invokevirtual 131, 3) := by decide +kernel
theorem dX12_feed_35 : decode cX12_feed 35 = .ok (.aload_n 0, 1) := by decide +kernel
theorem dX12_feed_36 : decode cX12_feed 36 = .ok (.iload 4, 2) := by decide +kernel
theorem dX12_feed_38 : decode cX12_feed 38 = .ok (.invokevirtual 131, 3) := by decide +kernel
theorem dX12_feed_41 : decode cX12_feed 41 = .ok (.aload_n 0, 1) := by decide +kernel
theorem dX12_feed_42 : decode cX12_feed 42 = .ok (.iload 5, 2) := by decide +kernel
theorem dX12_feed_44 : decode cX12_feed 44 = .ok (.invokevirtual 131, 3) := by decide +kernel
theorem dX12_feed_47 : decode cX12_feed 47 = .ok (.aload_n 0, 1) := by decide +kernel
theorem dX12_feed_48 : decode cX12_feed 48 = .ok (.getfield 128, 3) := by decide +kernel
theorem dX12_feed_51 : decode cX12_feed 51 = .ok (.ireturn, 1) := by decide +kernel
theorem dX12_end_0 : decode cX12_end 0 = .ok (.aload_n 0, 1) := by decide +kernel
theorem dX12_end_1 : decode cX12_end 1 = .ok (.iconst 0, 1) := by decide +kernel
theorem dX12_end_2 : decode cX12_end 2 = .ok (.putfield 67, 3) := by decide +kernel
theorem dX12_end_5 : decode cX12_end 5 = .ok (.iload_n 1, 1) := by decide +kernel
theorem dX12_end_6 : decode cX12_end 6 = .ok (.ifCond .lt 11, 3) := by decide +kernel
theorem dX12_end_9 : decode cX12_end 9 = .ok (.iload_n 1, 1) := by decide +kernel
theorem dX12_end_10 : decode cX12_end 10 = .ok (.aload_n 0, 1) := by decide +kernel
theorem dX12_end_11 : decode cX12_end 11 = .ok (.getfield 128, 3) := by decide +kernel
theorem dX12_end_14 : decode cX12_end 14 = .ok (.if_icmp .le 5, 3) := by decide +kernel
theorem dX12_end_17 : decode cX12_end 17 = .ok (.iconst (-1), 1) := by decide +kernel
theorem dX12_end_18 : decode cX12_end 18 = .ok (.ireturn, 1) := by decide +kernel
theorem dX12_end_19 : decode cX12_end 19 = .ok (.aload_n 0, 1) := by decide +kernel
theorem dX12_end_20 : decode cX12_end 20 = .ok (.iload_n 1, 1) := by decide +kernel
theorem dX12_end_21 : decode cX12_end 21 = .ok (.putfield 128, 3) := by decide +kernel
theorem dX12_end_24 : decode cX12_end 24 = .ok (.iload_n 1, 1) := by decide +kernel
theorem dX12_end_25 : decode cX12_end 25 = .ok (.ireturn, 1) := by decide +kernel
theorem dX12_tape_0 : decode cX12_tape 0 = .ok (.aload_n 0, 1) := by decide +kernel
theorem dX12_tape_1 : decode cX12_tape 1 = .ok (.iconst 0, 1) := by decide +kernel
theorem dX12_tape_2 : decode cX12_tape 2 = .ok (.putfield 67, 3) := by decide +kernel
theorem dX12_tape_5 : decode cX12_tape 5 = .ok (.iload_n 1, 1) := by decide +kernel
theorem dX12_tape_6 : decode cX12_tape 6 = .ok (.i2l, 1) := by decide +kernel
theorem dX12_tape_7 : decode cX12_tape 7 = .ok (.lconst 0, 1) := by decide +kernel
theorem dX12_tape_8 : decode cX12_tape 8 = .ok (.aload_n 0, 1) := by decide +kernel
theorem dX12_tape_9 : decode cX12_tape 9 = .ok (.getfield 128, 3) := by decide +kernel
theorem dX12_tape_12 : decode cX12_tape 12 = .ok (.i2l, 1) := by decide +kernel
theorem dX12_tape_13 : decode cX12_tape 13 = .ok (.lconst 1, 1) := by decide +kernel
theorem dX12_tape_14 : decode cX12_tape 14 = .ok (.lsub, 1) := by decide +kernel
theorem dX12_tape_15 : decode cX12_tape 15 = .ok (.invokestatic 83, 3) := by decide +kernel
theorem dX12_tape_18 : decode cX12_tape 18 = .ok (.ifCond .eq 12, 3) := by decide +kernel
theorem dX12_tape_21 : decode cX12_tape 21 = .ok (.aload_n 0, 1) := by decide +kernel
theorem dX12_tape_22 : decode cX12_tape 22 = .ok (.getfield 36, 3) := by decide +kernel
theorem dX12_tape_25 : decode cX12_tape 25 = .ok (.iload_n 1, 1) := by decide +kernel
theorem dX12_tape_26 : decode cX12_tape 26 = .ok (.iaload, 1) := by decide +kernel
theorem dX12_tape_27 : decode cX12_tape 27 = .ok (.goto 4, 3) := by decide +kernel
theorem dX12_tape_30 : decode cX12_tape 30 = .ok (.iconst (-1), 1) := by decide +kernel
theorem dX12_tape_31 : decode cX12_tape 31 = .ok (.ireturn, 1) := by decide +kernel
theorem dX12_task_0 : decode cX12_task 0 = .ok (.aload_n 0, 1) := by decide +kernel
theorem dX12_task_1 : decode cX12_task 1 = .ok (.iconst 0, 1) := by decide +kernel
theorem dX12_task_2 : decode cX12_task 2 = .ok (.putfield 67, 3) := by decide +kernel
theorem dX12_task_5 : decode cX12_task 5 = .ok (.iload_n 1, 1) := by decide +kernel
theorem dX12_task_6 : decode cX12_task 6 = .ok (.i2l, 1) := by decide +kernel
theorem dX12_task_7 : decode cX12_task 7 = .ok (.lconst 1, 1) := by decide +kernel
theorem dX12_task_8 : decode cX12_task 8 = .ok (.ldc2_w 135, 3) := by decide +kernel
theorem dX12_task_11 : decode cX12_task 11 = .ok (.invokestatic 83, 3) := by decide +kernel
theorem dX12_task_14 : decode cX12_task 14 = .ok (.ifCond .eq 15, 3) := by decide +kernel
theorem dX12_task_17 : decode cX12_task 17 = .ok (.iload_n 2, 1) := by decide +kernel
theorem dX12_task_18 : decode cX12_task 18 = .ok (.i2l, 1) := by decide +kernel
theorem dX12_task_19 : decode cX12_task 19 = .ok (.lconst 1, 1) := by decide +kernel
theorem dX12_task_20 : decode cX12_task 20 = .ok (.ldc2_w 137, 3) := by decide +kernel
theorem dX12_task_23 : decode cX12_task 23 = .ok (.invokestatic 83, 3) := by decide +kernel
theorem dX12_task_26 : decode cX12_task 26 = .ok (.ifCond .ne 9, 3) := by decide +kernel
theorem dX12_task_29 : decode cX12_task 29 = .ok (.aload_n 0, 1) := by decide +kernel
theorem dX12_task_30 : decode cX12_task 30 = .ok (.iconst (-1), 1) := by decide +kernel
theorem dX12_task_31 : decode cX12_task 31 = .ok (.invokevirtual 76, 3) := by decide +kernel
theorem dX12_task_34 : decode cX12_task 34 = .ok (.ireturn, 1) := by decide +kernel
theorem dX12_task_35 : decode cX12_task 35 = .ok (.aload_n 0, 1) := by decide +kernel
theorem dX12_task_36 : decode cX12_task 36 = .ok (.getfield 16, 3) := by decide +kernel
theorem dX12_task_39 : decode cX12_task 39 = .ok (.iconst 0, 1) := by decide +kernel
theorem dX12_task_40 : decode cX12_task 40 = .ok (.laload, 1) := by decide +kernel
theorem dX12_task_41 : decode cX12_task 41 = .ok (.l2i, 1) := by decide +kernel
theorem dX12_task_42 : decode cX12_task 42 = .ok (.istore_n 3, 1) := by decide +kernel
theorem dX12_task_43 : decode cX12_task 43 = .ok (.iload_n 3, 1) := by decide +kernel
theorem dX12_task_44 : decode cX12_task 44 = .ok (.bipush 12, 2) := by decide +kernel
theorem dX12_task_46 : decode cX12_task 46 = .ok (.if_icmp .ne 10, 3) := by decide +kernel
theorem dX12_task_49 : decode cX12_task 49 = .ok (.aload_n 0, 1) := by decide +kernel
theorem dX12_task_50 : decode cX12_task 50 = .ok (.bipush (-5), 2) := by decide +kernel
theorem dX12_task_52 : decode cX12_task 52 = .ok (.invokevirtual 76, 3) := by decide +kernel
theorem dX12_task_55 : decode cX12_task 55 = .ok (.ireturn, 1) := by decide +kernel
theorem dX12_task_56 : decode cX12_task 56 = .ok (.aload_n 0, 1) := by decide +kernel
theorem dX12_task_57 : decode cX12_task 57 = .ok (.iconst 0, 1) := by decide +kernel
theorem dX12_task_58 : decode cX12_task 58 = .ok (.invokevirtual 139, 3) := by decide +kernel
theorem dX12_task_61 : decode cX12_task 61 = .ok (.iconst 0, 1) := by decide +kernel
theorem dX12_task_62 : decode cX12_task 62 = .ok (.istore 4, 2) := by decide +kernel
theorem dX12_task_64 : decode cX12_task 64 = .ok (.iload 4, 2) := by decide +kernel
theorem dX12_task_66 : decode cX12_task 66 = .ok (.bipush 43, 2) := by decide +kernel
theorem dX12_task_68 : decode cX12_task 68 = .ok (.if_icmp .ge 22, 3) := by decide +kernel
theorem dX12_task_71 : decode cX12_task 71 = .ok (.aload_n 0, 1) := by decide +kernel
theorem dX12_task_72 : decode cX12_task 72 = .ok (.getfield 16, 3) := by decide +kernel
theorem dX12_task_75 : decode cX12_task 75 = .ok (.iload_n 3, 1) := by decide +kernel
theorem dX12_task_76 : decode cX12_task 76 = .ok (.invokestatic 87, 3) := by decide +kernel
theorem dX12_task_79 : decode cX12_task 79 = .ok (.iload 4, 2) := by decide +kernel
theorem dX12_task_81 : decode cX12_task 81 = .ok (.iadd, 1) := by decide +kernel
theorem dX12_task_82 : decode cX12_task 82 = .ok (.lconst 0, 1) := by decide +kernel
theorem dX12_task_83 : decode cX12_task 83 = .ok (.lastore, 1) := by decide +kernel
theorem dX12_task_84 : decode cX12_task 84 = .ok (.iinc 4 1, 3) := by decide +kernel
theorem dX12_task_87 : decode cX12_task 87 = .ok (.goto (-23), 3) := by decide +kernel
theorem dX12_task_90 : decode cX12_task 90 = .ok (.aload_n 0, 1) := by decide +kernel
theorem dX12_task_91 : decode cX12_task 91 = .ok (.getfield 16, 3) := by decide +kernel
theorem dX12_task_94 : decode cX12_task 94 = .ok (.iload_n 3, 1) := by decide +kernel
theorem dX12_task_95 : decode cX12_task 95 = .ok (.invokestatic 87, 3) := by decide +kernel
theorem dX12_task_98 : decode cX12_task 98 = .ok (.iconst 0, 1) := by decide +kernel
theorem dX12_task_99 : decode cX12_task 99 = .ok (.iadd, 1) := by decide +kernel
theorem dX12_task_100 : decode cX12_task 100 = .ok (.iload_n 1, 1) := by decide +kernel
theorem dX12_task_101 : decode cX12_task 101 = .ok (.i2l, 1) := by decide +kernel
theorem dX12_task_102 : decode cX12_task 102 = .ok (.lastore, 1) := by decide +kernel
theorem dX12_task_103 : decode cX12_task 103 = .ok (.aload_n 0, 1) := by decide +kernel
theorem dX12_task_104 : decode cX12_task 104 = .ok (.getfield 16, 3) := by decide +kernel
theorem dX12_task_107 : decode cX12_task 107 = .ok (.iload_n 3, 1) := by decide +kernel
theorem dX12_task_108 : decode cX12_task 108 = .ok (.invokestatic 87, 3) := by decide +kernel
theorem dX12_task_111 : decode cX12_task 111 = .ok (.iconst 1, 1) := by decide +kernel
theorem dX12_task_112 : decode cX12_task 112 = .ok (.iadd, 1) := by decide +kernel
theorem dX12_task_113 : decode cX12_task 113 = .ok (.iload_n 2, 1) := by decide +kernel
theorem dX12_task_114 : decode cX12_task 114 = .ok (.i2l, 1) := by decide +kernel
theorem dX12_task_115 : decode cX12_task 115 = .ok (.lastore, 1) := by decide +kernel
theorem dX12_task_116 : decode cX12_task 116 = .ok (.aload_n 0, 1) := by decide +kernel
theorem dX12_task_117 : decode cX12_task 117 = .ok (.getfield 16, 3) := by decide +kernel
theorem dX12_task_120 : decode cX12_task 120 = .ok (.iconst 0, 1) := by decide +kernel
theorem dX12_task_121 : decode cX12_task 121 = .ok (.dup2, 1) := by decide +kernel

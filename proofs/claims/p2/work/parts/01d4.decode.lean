theorem dX11_ticks_29 : decode cX11_ticks 29 = .ok (.sipush 9999, 3) := by decide +kernel
theorem dX11_ticks_32 : decode cX11_ticks 32 = .ok (.if_icmp .le 13, 3) := by decide +kernel
theorem dX11_ticks_35 : decode cX11_ticks 35 = .ok (.aload_n 0, 1) := by decide +kernel
theorem dX11_ticks_36 : decode cX11_ticks 36 = .ok (.getfield 72, 3) := by decide +kernel
theorem dX11_ticks_39 : decode cX11_ticks 39 = .ok (.bipush (-4), 2) := by decide +kernel
theorem dX11_ticks_41 : decode cX11_ticks 41 = .ok (.invokevirtual 84, 3) := by decide +kernel
theorem dX11_ticks_44 : decode cX11_ticks 44 = .ok (.ireturn, 1) := by decide +kernel
theorem dX11_ticks_45 : decode cX11_ticks 45 = .ok (.aload_n 0, 1) := by decide +kernel
theorem dX11_ticks_46 : decode cX11_ticks 46 = .ok (.getfield 65, 3) := by decide +kernel
theorem dX11_ticks_49 : decode cX11_ticks 49 = .ok (.aload_n 0, 1) := by decide +kernel
theorem dX11_ticks_50 : decode cX11_ticks 50 = .ok (.getfield 37, 3) := by decide +kernel
theorem dX11_ticks_53 : decode cX11_ticks 53 = .ok (.bipush 6, 2) := by decide +kernel
theorem dX11_ticks_55 : decode cX11_ticks 55 = .ok (.invokevirtual 122, 3) := by decide +kernel
theorem dX11_ticks_58 : decode cX11_ticks 58 = .ok (.iconst 0, 1) := by decide +kernel
theorem dX11_ticks_59 : decode cX11_ticks 59 = .ok (.istore_n 2, 1) := by decide +kernel
theorem dX11_ticks_60 : decode cX11_ticks 60 = .ok (.iconst 0, 1) := by decide +kernel
theorem dX11_ticks_61 : decode cX11_ticks 61 = .ok (.istore_n 3, 1) := by decide +kernel
theorem dX11_ticks_62 : decode cX11_ticks 62 = .ok (.iload_n 3, 1) := by decide +kernel
theorem dX11_ticks_63 : decode cX11_ticks 63 = .ok (.iload_n 1, 1) := by decide +kernel
theorem dX11_ticks_64 : decode cX11_ticks 64 = .ok (.if_icmp .ge 27, 3) := by decide +kernel
theorem dX11_ticks_67 : decode cX11_ticks 67 = .ok (.aload_n 0, 1) := by decide +kernel
theorem dX11_ticks_68 : decode cX11_ticks 68 = .ok (.getfield 37, 3) := by decide +kernel
theorem dX11_ticks_71 : decode cX11_ticks 71 = .ok (.aload_n 0, 1) := by decide +kernel
theorem dX11_ticks_72 : decode cX11_ticks 72 = .ok (.getfield 47, 3) := by decide +kernel
theorem dX11_ticks_75 : decode cX11_ticks 75 = .ok (.invokevirtual 226, 3) := by decide +kernel
theorem dX11_ticks_78 : decode cX11_ticks 78 = .ok (.iconst (-1), 1) := by decide +kernel
theorem dX11_ticks_79 : decode cX11_ticks 79 = .ok (.if_icmp .eq 6, 3) := by decide +kernel
theorem dX11_ticks_82 : decode cX11_ticks 82 = .ok (.iinc 2 1, 3) := by decide +kernel
theorem dX11_ticks_85 : decode cX11_ticks 85 = .ok (.iinc 3 1, 3) := by decide +kernel
theorem dX11_ticks_88 : decode cX11_ticks 88 = .ok (.goto (-26), 3) := by decide +kernel
theorem dX11_ticks_91 : decode cX11_ticks 91 = .ok (.aload_n 0, 1) := by decide +kernel
theorem dX11_ticks_92 : decode cX11_ticks 92 = .ok (.getfield 72, 3) := by decide +kernel
theorem dX11_ticks_95 : decode cX11_ticks 95 = .ok (.iload_n 2, 1) := by decide +kernel
theorem dX11_ticks_96 : decode cX11_ticks 96 = .ok (.invokevirtual 95, 3) := by decide +kernel
theorem dX11_ticks_99 : decode cX11_ticks 99 = .ok (.ireturn, 1) := by decide +kernel
theorem dX11_undo_0 : decode cX11_undo 0 = .ok (.aload_n 0, 1) := by decide +kernel
theorem dX11_undo_1 : decode cX11_undo 1 = .ok (.getfield 65, 3) := by decide +kernel
theorem dX11_undo_4 : decode cX11_undo 4 = .ok (.getfield 230, 3) := by decide +kernel
theorem dX11_undo_7 : decode cX11_undo 7 = .ok (.ifCond .ne 13, 3) := by decide +kernel
theorem dX11_undo_10 : decode cX11_undo 10 = .ok (.aload_n 0, 1) := by decide +kernel
theorem dX11_undo_11 : decode cX11_undo 11 = .ok (.getfield 72, 3) := by decide +kernel
theorem dX11_undo_14 : decode cX11_undo 14 = .ok (.bipush (-4), 2) := by decide +kernel
theorem dX11_undo_16 : decode cX11_undo 16 = .ok (.invokevirtual 84, 3) := by decide +kernel
theorem dX11_undo_19 : decode cX11_undo 19 = .ok (.ireturn, 1) := by decide +kernel
theorem dX11_undo_20 : decode cX11_undo 20 = .ok (.aload_n 0, 1) := by decide +kernel
theorem dX11_undo_21 : decode cX11_undo 21 = .ok (.getfield 72, 3) := by decide +kernel
theorem dX11_undo_24 : decode cX11_undo 24 = .ok (.aload_n 0, 1) := by decide +kernel
theorem dX11_undo_25 : decode cX11_undo 25 = .ok (.getfield 65, 3) := by decide +kernel
theorem dX11_undo_28 : decode cX11_undo 28 = .ok (.aload_n 0, 1) := by decide +kernel
theorem dX11_undo_29 : decode cX11_undo 29 = .ok (.getfield 37, 3) := by decide +kernel
theorem dX11_undo_32 : decode cX11_undo 32 = .ok (.invokevirtual 231, 3) := by decide +kernel
theorem dX11_undo_35 : decode cX11_undo 35 = .ok (.invokevirtual 95, 3) := by decide +kernel
theorem dX11_undo_38 : decode cX11_undo 38 = .ok (.ireturn, 1) := by decide +kernel
theorem dX11_image_0 : decode cX11_image 0 = .ok (.iload_n 1, 1) := by decide +kernel
theorem dX11_image_1 : decode cX11_image 1 = .ok (.invokestatic 235, 3) := by decide +kernel
theorem dX11_image_4 : decode cX11_image 4 = .ok (.ifCond .ne 12, 3) := by decide +kernel
theorem dX11_image_7 : decode cX11_image 7 = .ok (.aload_n 0, 1) := by decide +kernel
theorem dX11_image_8 : decode cX11_image 8 = .ok (.getfield 72, 3) := by decide +kernel
theorem dX11_image_11 : decode cX11_image 11 = .ok (.iconst (-1), 1) := by decide +kernel
theorem dX11_image_12 : decode cX11_image 12 = .ok (.invokevirtual 84, 3) := by decide +kernel
theorem dX11_image_15 : decode cX11_image 15 = .ok (.ireturn, 1) := by decide +kernel
theorem dX11_image_16 : decode cX11_image 16 = .ok (.aload_n 0, 1) := by decide +kernel
theorem dX11_image_17 : decode cX11_image 17 = .ok (.getfield 54, 3) := by decide +kernel
theorem dX11_image_20 : decode cX11_image 20 = .ok (.iload_n 1, 1) := by decide +kernel
theorem dX11_image_21 : decode cX11_image 21 = .ok (.aaload, 1) := by decide +kernel
theorem dX11_image_22 : decode cX11_image 22 = .ok (.aload_n 0, 1) := by decide +kernel
theorem dX11_image_23 : decode cX11_image 23 = .ok (.getfield 37, 3) := by decide +kernel
theorem dX11_image_26 : decode cX11_image 26 = .ok (.invokevirtual 238, 3) := by decide +kernel
theorem dX11_image_29 : decode cX11_image 29 = .ok (.aload_n 0, 1) := by decide +kernel
theorem dX11_image_30 : decode cX11_image 30 = .ok (.getfield 58, 3) := by decide +kernel
theorem dX11_image_33 : decode cX11_image 33 = .ok (.iload_n 1, 1) := by decide +kernel
theorem dX11_image_34 : decode cX11_image 34 = .ok (.iconst 1, 1) := by decide +kernel
theorem dX11_image_35 : decode cX11_image 35 = .ok (.bastore, 1) := by decide +kernel
theorem dX11_image_36 : decode cX11_image 36 = .ok (.aload_n 0, 1) := by decide +kernel
theorem dX11_image_37 : decode cX11_image 37 = .ok (.getfield 72, 3) := by decide +kernel
theorem dX11_image_40 : decode cX11_image 40 = .ok (.aload_n 0, 1) := by decide +kernel
theorem dX11_image_41 : decode cX11_image 41 = .ok (.getfield 37, 3) := by decide +kernel
theorem dX11_image_44 : decode cX11_image 44 = .ok (.getfield 223, 3) := by decide +kernel
theorem dX11_image_47 : decode cX11_image 47 = .ok (.invokevirtual 95, 3) := by decide +kernel
theorem dX11_image_50 : decode cX11_image 50 = .ok (.ireturn, 1) := by decide +kernel
theorem dX11_back_0 : decode cX11_back 0 = .ok (.iload_n 1, 1) := by decide +kernel
theorem dX11_back_1 : decode cX11_back 1 = .ok (.invokestatic 235, 3) := by decide +kernel
theorem dX11_back_4 : decode cX11_back 4 = .ok (.ifCond .ne 12, 3) := by decide +kernel
theorem dX11_back_7 : decode cX11_back 7 = .ok (.aload_n 0, 1) := by decide +kernel
theorem dX11_back_8 : decode cX11_back 8 = .ok (.getfield 72, 3) := by decide +kernel
theorem dX11_back_11 : decode cX11_back 11 = .ok (.iconst (-1), 1) := by decide +kernel
theorem dX11_back_12 : decode cX11_back 12 = .ok (.invokevirtual 84, 3) := by decide +kernel
theorem dX11_back_15 : decode cX11_back 15 = .ok (.ireturn, 1) := by decide +kernel
theorem dX11_back_16 : decode cX11_back 16 = .ok (.aload_n 0, 1) := by decide +kernel
theorem dX11_back_17 : decode cX11_back 17 = .ok (.getfield 58, 3) := by decide +kernel
theorem dX11_back_20 : decode cX11_back 20 = .ok (.iload_n 1, 1) := by decide +kernel
theorem dX11_back_21 : decode cX11_back 21 = .ok (.baload, 1) := by decide +kernel
theorem dX11_back_22 : decode cX11_back 22 = .ok (.ifCond .ne 13, 3) := by decide +kernel
theorem dX11_back_25 : decode cX11_back 25 = .ok (.aload_n 0, 1) := by decide +kernel
theorem dX11_back_26 : decode cX11_back 26 = .ok (.getfield 72, 3) := by decide +kernel
theorem dX11_back_29 : decode cX11_back 29 = .ok (.bipush (-4), 2) := by decide +kernel
theorem dX11_back_31 : decode cX11_back 31 = .ok (.invokevirtual 84, 3) := by decide +kernel
theorem dX11_back_34 : decode cX11_back 34 = .ok (.ireturn, 1) := by decide +kernel
theorem dX11_back_35 : decode cX11_back 35 = .ok (.aload_n 0, 1) := by decide +kernel
theorem dX11_back_36 : decode cX11_back 36 = .ok (.getfield 37, 3) := by decide +kernel
theorem dX11_back_39 : decode cX11_back 39 = .ok (.aload_n 0, 1) := by decide +kernel
theorem dX11_back_40 : decode cX11_back 40 = .ok (.getfield 54, 3) := by decide +kernel
theorem dX11_back_43 : decode cX11_back 43 = .ok (.iload_n 1, 1) := by decide +kernel
theorem dX11_back_44 : decode cX11_back 44 = .ok (.aaload, 1) := by decide +kernel
theorem dX11_back_45 : decode cX11_back 45 = .ok (.invokevirtual 238, 3) := by decide +kernel
theorem dX11_back_48 : decode cX11_back 48 = .ok (.aload_n 0, 1) := by decide +kernel
theorem dX11_back_49 : decode cX11_back 49 = .ok (.getfield 65, 3) := by decide +kernel
theorem dX11_back_52 : decode cX11_back 52 = .ok (.iconst 0, 1) := by decide +kernel
theorem dX11_back_53 : decode cX11_back 53 = .ok (.putfield 230, 3) := by decide +kernel
theorem dX11_back_56 : decode cX11_back 56 = .ok (.aload_n 0, 1) := by decide +kernel
theorem dX11_back_57 : decode cX11_back 57 = .ok (.getfield 72, 3) := by decide +kernel
theorem dX11_back_60 : decode cX11_back 60 = .ok (.aload_n 0, 1) := by decide +kernel
theorem dX11_back_61 : decode cX11_back 61 = .ok (.getfield 37, 3) := by decide +kernel
theorem dX11_back_64 : decode cX11_back 64 = .ok (.getfield 223, 3) := by decide +kernel
theorem dX11_back_67 : decode cX11_back 67 = .ok (.invokevirtual 95, 3) := by decide +kernel
theorem dX11_back_70 : decode cX11_back 70 = .ok (.ireturn, 1) := by decide +kernel
theorem dX11_of_0 : decode cX11_of 0 = .ok (.aload_n 0, 1) := by decide +kernel
theorem dX11_of_1 : decode cX11_of 1 = .ok (.getfield 37, 3) := by decide +kernel
theorem dX11_of_4 : decode cX11_of 4 = .ok (.iload_n 1, 1) := by decide +kernel
theorem dX11_of_5 : decode cX11_of 5 = .ok (.invokevirtual 130, 3) := by decide +kernel
theorem dX11_of_8 : decode cX11_of 8 = .ok (.ifCond .eq 19, 3) := by decide +kernel
theorem dX11_of_11 : decode cX11_of 11 = .ok (.aload_n 0, 1) := by decide +kernel
theorem dX11_of_12 : decode cX11_of 12 = .ok (.getfield 37, 3) := by decide +kernel
theorem dX11_of_15 : decode cX11_of 15 = .ok (.getfield 133, 3) := by decide +kernel
theorem dX11_of_18 : decode cX11_of 18 = .ok (.iload_n 1, 1) := by decide +kernel
theorem dX11_of_19 : decode cX11_of 19 = .ok (.aaload, 1) := by decide +kernel
theorem dX11_of_20 : decode cX11_of 20 = .ok (.iload_n 2, 1) := by decide +kernel
theorem dX11_of_21 : decode cX11_of 21 = .ok (.invokevirtual 242, 3) := by decide +kernel
theorem dX11_of_24 : decode cX11_of 24 = .ok (.goto 4, 3) := by decide +kernel
theorem dX11_of_27 : decode cX11_of 27 = .ok (.iconst (-1), 1) := by decide +kernel
theorem dX11_of_28 : decode cX11_of 28 = .ok (.ireturn, 1) := by decide +kernel
theorem dX11_exact_0 : decode cX11_exact 0 = .ok (.aload_n 0, 1) := by decide +kernel
theorem dX11_exact_1 : decode cX11_exact 1 = .ok (.getfield 37, 3) := by decide +kernel
theorem dX11_exact_4 : decode cX11_exact 4 = .ok (.iload_n 1, 1) := by decide +kernel
theorem dX11_exact_5 : decode cX11_exact 5 = .ok (.invokevirtual 130, 3) := by decide +kernel
theorem dX11_exact_8 : decode cX11_exact 8 = .ok (.ifCond .ne 7, 3) := by decide +kernel
theorem dX11_exact_11 : decode cX11_exact 11 = .ok (.ldc2_w 245, 3) := by decide +kernel
theorem dX11_exact_14 : decode cX11_exact 14 = .ok (.lreturn, 1) := by decide +kernel
theorem dX11_exact_15 : decode cX11_exact 15 = .ok (.aload_n 0, 1) := by decide +kernel
theorem dX11_exact_16 : decode cX11_exact 16 = .ok (.getfield 37, 3) := by decide +kernel
theorem dX11_exact_19 : decode cX11_exact 19 = .ok (.getfield 133, 3) := by decide +kernel
theorem dX11_exact_22 : decode cX11_exact 22 = .ok (.iload_n 1, 1) := by decide +kernel
theorem dX11_exact_23 : decode cX11_exact 23 = .ok (.aaload, 1) := by decide +kernel
theorem dX11_exact_24 : decode cX11_exact 24 = .ok (.astore_n 3, 1) := by decide +kernel
theorem dX11_exact_25 : decode cX11_exact 25 = .ok (.aload_n 3, 1) := by decide +kernel
theorem dX11_exact_26 : decode cX11_exact 26 = .ok (.invokevirtual 159, 3) := by decide +kernel
theorem dX11_exact_29 : decode cX11_exact 29 = .ok (.ifCond .ne 22, 3) := by decide +kernel
theorem dX11_exact_32 : decode cX11_exact 32 = .ok (.iload_n 2, 1) := by decide +kernel
theorem dX11_exact_33 : decode cX11_exact 33 = .ok (.iconst 3, 1) := by decide +kernel
theorem dX11_exact_34 : decode cX11_exact 34 = .ok (.if_icmp .ne 13, 3) := by decide +kernel
theorem dX11_exact_37 : decode cX11_exact 37 = .ok (.aload_n 3, 1) := by decide +kernel
theorem dX11_exact_38 : decode cX11_exact 38 = .ok (.getfield 247, 3) := by decide +kernel
theorem dX11_exact_41 : decode cX11_exact 41 = .ok (.invokevirtual 251, 3) := by decide +kernel
theorem dX11_exact_44 : decode cX11_exact 44 = .ok (.goto 6, 3) := by decide +kernel
theorem dX11_exact_47 : decode cX11_exact 47 = .ok (.ldc2_w 245, 3) := by decide +kernel
theorem dX11_exact_50 : decode cX11_exact 50 = .ok (.lreturn, 1) := by decide +kernel
theorem dX11_exact_51 : decode cX11_exact 51 = .ok (.iload_n 2, 1) := by decide +kernel
theorem dX11_exact_52 : decode cX11_exact 52 = .ok (.tableswitch 47 0 2 #[28, 33, 38], 28) := by decide +kernel
theorem dX11_exact_80 : decode cX11_exact 80 = .ok (.aload_n 3, 1) := by decide +kernel
theorem dX11_exact_81 : decode cX11_exact 81 = .ok (.getfield 257, 3) := by decide +kernel
theorem dX11_exact_84 : decode cX11_exact 84 = .ok (.lreturn, 1) := by decide +kernel
theorem dX11_exact_85 : decode cX11_exact 85 = .ok (.aload_n 3, 1) := by decide +kernel
theorem dX11_exact_86 : decode cX11_exact 86 = .ok (.invokevirtual 261, 3) := by decide +kernel
theorem dX11_exact_89 : decode cX11_exact 89 = .ok (.lreturn, 1) := by decide +kernel
theorem dX11_exact_90 : decode cX11_exact 90 = .ok (.aload_n 0, 1) := by decide +kernel
theorem dX11_exact_91 : decode cX11_exact 91 = .ok (.getfield 37, 3) := by decide +kernel
theorem dX11_exact_94 : decode cX11_exact 94 = .ok (.aload_n 3, 1) := by decide +kernel
theorem dX11_exact_95 : decode cX11_exact 95 = .ok (.invokevirtual 264, 3) := by decide +kernel
theorem dX11_exact_98 : decode cX11_exact 98 = .ok (.lreturn, 1) := by decide +kernel
theorem dX11_exact_99 : decode cX11_exact 99 = .ok (.ldc2_w 245, 3) := by decide +kernel
theorem dX11_exact_102 : decode cX11_exact 102 = .ok (.lreturn, 1) := by decide +kernel
theorem dX11_time_0 : decode cX11_time 0 = .ok (.iload_n 1, 1) := by decide +kernel
theorem dX11_time_1 : decode cX11_time 1 = .ok (.tableswitch 65 0 3 #[31, 39, 47, 56], 31) := by decide +kernel
theorem dX11_time_32 : decode cX11_time 32 = .ok (.aload_n 0, 1) := by decide +kernel
theorem dX11_time_33 : decode cX11_time 33 = .ok (.getfield 37, 3) := by decide +kernel
theorem dX11_time_36 : decode cX11_time 36 = .ok (.invokevirtual 268, 3) := by decide +kernel
theorem dX11_time_39 : decode cX11_time 39 = .ok (.lreturn, 1) := by decide +kernel
theorem dX11_time_40 : decode cX11_time 40 = .ok (.aload_n 0, 1) := by decide +kernel
theorem dX11_time_41 : decode cX11_time 41 = .ok (.getfield 37, 3) := by decide +kernel
theorem dX11_time_44 : decode cX11_time 44 = .ok (.invokevirtual 271, 3) := by decide +kernel
theorem dX11_time_47 : decode cX11_time 47 = .ok (.lreturn, 1) := by decide +kernel
theorem dX11_time_48 : decode cX11_time 48 = .ok (.aload_n 0, 1) := by decide +kernel
theorem dX11_time_49 : decode cX11_time 49 = .ok (.getfield 37, 3) := by decide +kernel
theorem dX11_time_52 : decode cX11_time 52 = .ok (.invokevirtual 155, 3) := by decide +kernel
theorem dX11_time_55 : decode cX11_time 55 = .ok (.i2l, 1) := by decide +kernel
theorem dX11_time_56 : decode cX11_time 56 = .ok (.lreturn, 1) := by decide +kernel
theorem dX11_time_57 : decode cX11_time 57 = .ok (.aload_n 0, 1) := by decide +kernel
theorem dX11_time_58 : decode cX11_time 58 = .ok (.getfield 37, 3) := by decide +kernel
theorem dX11_time_61 : decode cX11_time 61 = .ok (.getfield 223, 3) := by decide +kernel
theorem dX11_time_64 : decode cX11_time 64 = .ok (.i2l, 1) := by decide +kernel
theorem dX11_time_65 : decode cX11_time 65 = .ok (.lreturn, 1) := by decide +kernel
theorem dX11_time_66 : decode cX11_time 66 = .ok (.ldc2_w 245, 3) := by decide +kernel
theorem dX11_time_69 : decode cX11_time 69 = .ok (.lreturn, 1) := by decide +kernel
theorem dX11_eligible_0 : decode cX11_eligible 0 = .ok (.aload_n 0, 1) := by decide +kernel
theorem dX11_eligible_1 : decode cX11_eligible 1 = .ok (.getfield 37, 3) := by decide +kernel
theorem dX11_eligible_4 : decode cX11_eligible 4 = .ok (.invokevirtual 274, 3) := by decide +kernel
theorem dX11_eligible_7 : decode cX11_eligible 7 = .ok (.ireturn, 1) := by decide +kernel
theorem dX11_earliest_0 : decode cX11_earliest 0 = .ok (.aload_n 0, 1) := by decide +kernel
theorem dX11_earliest_1 : decode cX11_earliest 1 = .ok (.getfield 37, 3) := by decide +kernel
theorem dX11_earliest_4 : decode cX11_earliest 4 = .ok (.iload_n 1, 1) := by decide +kernel
theorem dX11_earliest_5 : decode cX11_earliest 5 = .ok (.invokevirtual 277, 3) := by decide +kernel
theorem dX11_earliest_8 : decode cX11_earliest 8 = .ok (.ireturn, 1) := by decide +kernel
theorem dX11_rank_0 : decode cX11_rank 0 = .ok (.aload_n 0, 1) := by decide +kernel
theorem dX11_rank_1 : decode cX11_rank 1 = .ok (.getfield 37, 3) := by decide +kernel
theorem dX11_rank_4 : decode cX11_rank 4 = .ok (.iload_n 1, 1) := by decide +kernel
theorem dX11_rank_5 : decode cX11_rank 5 = .ok (.invokevirtual 130, 3) := by decide +kernel
theorem dX11_rank_8 : decode cX11_rank 8 = .ok (.ifCond .eq 37, 3) := by decide +kernel
theorem dX11_rank_11 : decode cX11_rank 11 = .ok (.aload_n 0, 1) := by decide +kernel
theorem dX11_rank_12 : decode cX11_rank 12 = .ok (.getfield 37, 3) := by decide +kernel
theorem dX11_rank_15 : decode cX11_rank 15 = .ok (.getfield 133, 3) := by decide +kernel
theorem dX11_rank_18 : decode cX11_rank 18 = .ok (.iload_n 1, 1) := by decide +kernel
theorem dX11_rank_19 : decode cX11_rank 19 = .ok (.aaload, 1) := by decide +kernel
theorem dX11_rank_20 : decode cX11_rank 20 = .ok (.invokevirtual 159, 3) := by decide +kernel
theorem dX11_rank_23 : decode cX11_rank 23 = .ok (.ifCond .eq 22, 3) := by decide +kernel
theorem dX11_rank_26 : decode cX11_rank 26 = .ok (.aload_n 0, 1) := by decide +kernel
theorem dX11_rank_27 : decode cX11_rank 27 = .ok (.getfield 37, 3) := by decide +kernel
theorem dX11_rank_30 : decode cX11_rank 30 = .ok (.aload_n 0, 1) := by decide +kernel
theorem dX11_rank_31 : decode cX11_rank 31 = .ok (.getfield 37, 3) := by decide +kernel
theorem dX11_rank_34 : decode cX11_rank 34 = .ok (.getfield 133, 3) := by decide +kernel
theorem dX11_rank_37 : decode cX11_rank 37 = .ok (.iload_n 1, 1) := by decide +kernel
theorem dX11_rank_38 : decode cX11_rank 38 = .ok (.aaload, 1) := by decide +kernel
theorem dX11_rank_39 : decode cX11_rank 39 = .ok (.invokevirtual 280, 3) := by decide +kernel
theorem dX11_rank_42 : decode cX11_rank 42 = .ok (.goto 4, 3) := by decide +kernel
theorem dX11_rank_45 : decode cX11_rank 45 = .ok (.iconst (-1), 1) := by decide +kernel
theorem dX11_rank_46 : decode cX11_rank 46 = .ok (.ireturn, 1) := by decide +kernel
theorem dX11_ran_0 : decode cX11_ran 0 = .ok (.aload_n 0, 1) := by decide +kernel
theorem dX11_ran_1 : decode cX11_ran 1 = .ok (.getfield 37, 3) := by decide +kernel
theorem dX11_ran_4 : decode cX11_ran 4 = .ok (.iload_n 1, 1) := by decide +kernel
theorem dX11_ran_5 : decode cX11_ran 5 = .ok (.invokevirtual 284, 3) := by decide +kernel
theorem dX11_ran_8 : decode cX11_ran 8 = .ok (.ifCond .eq 17, 3) := by decide +kernel
theorem dX11_ran_11 : decode cX11_ran 11 = .ok (.aload_n 0, 1) := by decide +kernel
theorem dX11_ran_12 : decode cX11_ran 12 = .ok (.getfield 37, 3) := by decide +kernel
theorem dX11_ran_15 : decode cX11_ran 15 = .ok (.getfield 287, 3) := by decide +kernel
theorem dX11_ran_18 : decode cX11_ran 18 = .ok (.iload_n 1, 1) := by decide +kernel
theorem dX11_ran_19 : decode cX11_ran 19 = .ok (.invokevirtual 291, 3) := by decide +kernel
theorem dX11_ran_22 : decode cX11_ran 22 = .ok (.goto 4, 3) := by decide +kernel
theorem dX11_ran_25 : decode cX11_ran 25 = .ok (.iconst (-1), 1) := by decide +kernel
theorem dX11_ran_26 : decode cX11_ran 26 = .ok (.ireturn, 1) := by decide +kernel
theorem dX11_service_0 : decode cX11_service 0 = .ok (.aload_n 0, 1) := by decide +kernel
theorem dX11_service_1 : decode cX11_service 1 = .ok (.getfield 37, 3) := by decide +kernel
theorem dX11_service_4 : decode cX11_service 4 = .ok (.iload_n 1, 1) := by decide +kernel
theorem dX11_service_5 : decode cX11_service 5 = .ok (.invokevirtual 130, 3) := by decide +kernel
theorem dX11_service_8 : decode cX11_service 8 = .ok (.ifCond .eq 15, 3) := by decide +kernel
theorem dX11_service_11 : decode cX11_service 11 = .ok (.aload_n 0, 1) := by decide +kernel
theorem dX11_service_12 : decode cX11_service 12 = .ok (.getfield 37, 3) := by decide +kernel
theorem dX11_service_15 : decode cX11_service 15 = .ok (.iload_n 2, 1) := by decide +kernel
theorem dX11_service_16 : decode cX11_service 16 = .ok (.iload_n 3, 1) := by decide +kernel
theorem dX11_service_17 : decode cX11_service 17 = .ok (.invokevirtual 296, 3) := by decide +kernel
theorem dX11_service_20 : decode cX11_service 20 = .ok (.ifCond .ne 5, 3) := by decide +kernel
theorem dX11_service_23 : decode cX11_service 23 = .ok (.iconst (-1), 1) := by decide +kernel
theorem dX11_service_24 : decode cX11_service 24 = .ok (.ireturn, 1) := by decide +kernel
theorem dX11_service_25 : decode cX11_service 25 = .ok (.iload_n 2, 1) := by decide +kernel
theorem dX11_service_26 : decode cX11_service 26 = .ok (.iload_n 3, 1) := by decide +kernel
theorem dX11_service_27 : decode cX11_service 27 = .ok (.if_icmp .ne 7, 3) := by decide +kernel
theorem dX11_service_30 : decode cX11_service 30 = .ok (.iconst 0, 1) := by decide +kernel
theorem dX11_service_31 : decode cX11_service 31 = .ok (.goto 16, 3) := by decide +kernel
theorem dX11_service_34 : decode cX11_service 34 = .ok (.aload_n 0, 1) := by decide +kernel
theorem dX11_service_35 : decode cX11_service 35 = .ok (.getfield 37, 3) := by decide +kernel
theorem dX11_service_38 : decode cX11_service 38 = .ok (.getfield 287, 3) := by decide +kernel
theorem dX11_service_41 : decode cX11_service 41 = .ok (.iload_n 1, 1) := by decide +kernel
theorem dX11_service_42 : decode cX11_service 42 = .ok (.iload_n 2, 1) := by decide +kernel
theorem dX11_service_43 : decode cX11_service 43 = .ok (.iload_n 3, 1) := by decide +kernel
theorem dX11_service_44 : decode cX11_service 44 = .ok (.invokevirtual 299, 3) := by decide +kernel
theorem dX11_service_47 : decode cX11_service 47 = .ok (.ireturn, 1) := by decide +kernel
theorem dX11_share_0 : decode cX11_share 0 = .ok (.aload_n 0, 1) := by decide +kernel
theorem dX11_share_1 : decode cX11_share 1 = .ok (.getfield 37, 3) := by decide +kernel
theorem dX11_share_4 : decode cX11_share 4 = .ok (.iload_n 1, 1) := by decide +kernel
theorem dX11_share_5 : decode cX11_share 5 = .ok (.invokevirtual 130, 3) := by decide +kernel
theorem dX11_share_8 : decode cX11_share 8 = .ok (.ifCond .eq 15, 3) := by decide +kernel
theorem dX11_share_11 : decode cX11_share 11 = .ok (.aload_n 0, 1) := by decide +kernel
theorem dX11_share_12 : decode cX11_share 12 = .ok (.getfield 37, 3) := by decide +kernel
theorem dX11_share_15 : decode cX11_share 15 = .ok (.iload_n 2, 1) := by decide +kernel
theorem dX11_share_16 : decode cX11_share 16 = .ok (.iload_n 3, 1) := by decide +kernel
theorem dX11_share_17 : decode cX11_share 17 = .ok (.invokevirtual 296, 3) := by decide +kernel
theorem dX11_share_20 : decode cX11_share 20 = .ok (.ifCond .ne 7, 3) := by decide +kernel
theorem dX11_share_23 : decode cX11_share 23 = .ok (.ldc2_w 245, 3) := by decide +kernel
theorem dX11_share_26 : decode cX11_share 26 = .ok (.lreturn, 1) := by decide +kernel
theorem dX11_share_27 : decode cX11_share 27 = .ok (.iload_n 2, 1) := by decide +kernel
theorem dX11_share_28 : decode cX11_share 28 = .ok (.iload_n 3, 1) := by decide +kernel
theorem dX11_share_29 : decode cX11_share 29 = .ok (.if_icmp .ne 7, 3) := by decide +kernel
theorem dX11_share_32 : decode cX11_share 32 = .ok (.lconst 0, 1) := by decide +kernel
theorem dX11_share_33 : decode cX11_share 33 = .ok (.goto 16, 3) := by decide +kernel
theorem dX11_share_36 : decode cX11_share 36 = .ok (.aload_n 0, 1) := by decide +kernel
theorem dX11_share_37 : decode cX11_share 37 = .ok (.getfield 37, 3) := by decide +kernel
theorem dX11_share_40 : decode cX11_share 40 = .ok (.getfield 287, 3) := by decide +kernel
theorem dX11_share_43 : decode cX11_share 43 = .ok (.iload_n 1, 1) := by decide +kernel
theorem dX11_share_44 : decode cX11_share 44 = .ok (.iload_n 2, 1) := by decide +kernel
theorem dX11_share_45 : decode cX11_share 45 = .ok (.iload_n 3, 1) := by decide +kernel
theorem dX11_share_46 : decode cX11_share 46 = .ok (.invokevirtual 303, 3) := by decide +kernel
theorem dX11_share_49 : decode cX11_share 49 = .ok (.lreturn, 1) := by decide +kernel
theorem dX11_worst_0 : decode cX11_worst 0 = .ok (.aload_n 0, 1) := by decide +kernel
theorem dX11_worst_1 : decode cX11_worst 1 = .ok (.getfield 37, 3) := by decide +kernel
theorem dX11_worst_4 : decode cX11_worst 4 = .ok (.iload_n 1, 1) := by decide +kernel
theorem dX11_worst_5 : decode cX11_worst 5 = .ok (.invokevirtual 130, 3) := by decide +kernel
theorem dX11_worst_8 : decode cX11_worst 8 = .ok (.ifCond .eq 12, 3) := by decide +kernel
theorem dX11_worst_11 : decode cX11_worst 11 = .ok (.iload_n 2, 1) := by decide +kernel
theorem dX11_worst_12 : decode cX11_worst 12 = .ok (.ifCond .lt 8, 3) := by decide +kernel
theorem dX11_worst_15 : decode cX11_worst 15 = .ok (.iload_n 2, 1) := by decide +kernel
theorem dX11_worst_16 : decode cX11_worst 16 = .ok (.iconst 1, 1) := by decide +kernel
theorem dX11_worst_17 : decode cX11_worst 17 = .ok (.if_icmp .le 7, 3) := by decide +kernel
theorem dX11_worst_20 : decode cX11_worst 20 = .ok (.ldc2_w 245, 3) := by decide +kernel
theorem dX11_worst_23 : decode cX11_worst 23 = .ok (.lreturn, 1) := by decide +kernel
theorem dX11_worst_24 : decode cX11_worst 24 = .ok (.aload_n 0, 1) := by decide +kernel
theorem dX11_worst_25 : decode cX11_worst 25 = .ok (.getfield 37, 3) := by decide +kernel
theorem dX11_worst_28 : decode cX11_worst 28 = .ok (.getfield 287, 3) := by decide +kernel
theorem dX11_worst_31 : decode cX11_worst 31 = .ok (.iload_n 1, 1) := by decide +kernel
theorem dX11_worst_32 : decode cX11_worst 32 = .ok (.aload_n 0, 1) := by decide +kernel
theorem dX11_worst_33 : decode cX11_worst 33 = .ok (.getfield 37, 3) := by decide +kernel
theorem dX11_worst_36 : decode cX11_worst 36 = .ok (.invokevirtual 307, 3) := by decide +kernel
theorem dX11_worst_39 : decode cX11_worst 39 = .ok (.aload_n 0, 1) := by decide +kernel
theorem dX11_worst_40 : decode cX11_worst 40 = .ok (.getfield 37, 3) := by decide +kernel
theorem dX11_worst_43 : decode cX11_worst 43 = .ok (.getfield 223, 3) := by decide +kernel
theorem dX11_worst_46 : decode cX11_worst 46 = .ok (.iload_n 2, 1) := by decide +kernel
theorem dX11_worst_47 : decode cX11_worst 47 = .ok (.ifCond .ne 7, 3) := by decide +kernel
theorem dX11_worst_50 : decode cX11_worst 50 = .ok (.iconst 1, 1) := by decide +kernel
theorem dX11_worst_51 : decode cX11_worst 51 = .ok (.goto 4, 3) := by decide +kernel
theorem dX11_worst_54 : decode cX11_worst 54 = .ok (.iconst 0, 1) := by decide +kernel
theorem dX11_worst_55 : decode cX11_worst 55 = .ok (.invokevirtual 310, 3) := by decide +kernel
theorem dX11_worst_58 : decode cX11_worst 58 = .ok (.lreturn, 1) := by decide +kernel
theorem dX11_ahead_0 : decode cX11_ahead 0 = .ok (.aload_n 0, 1) := by decide +kernel
theorem dX11_ahead_1 : decode cX11_ahead 1 = .ok (.iload_n 1, 1) := by decide +kernel
theorem dX11_ahead_2 : decode cX11_ahead 2 = .ok (.invokevirtual 314, 3) := by decide +kernel
theorem dX11_ahead_5 : decode cX11_ahead 5 = .ok (.ifCond .ne 5, 3) := by decide +kernel
theorem dX11_ahead_8 : decode cX11_ahead 8 = .ok (.iconst (-1), 1) := by decide +kernel
theorem dX11_ahead_9 : decode cX11_ahead 9 = .ok (.ireturn, 1) := by decide +kernel
theorem dX11_ahead_10 : decode cX11_ahead 10 = .ok (.aload_n 0, 1) := by decide +kernel
theorem dX11_ahead_11 : decode cX11_ahead 11 = .ok (.getfield 41, 3) := by decide +kernel
theorem dX11_ahead_14 : decode cX11_ahead 14 = .ok (.aload_n 0, 1) := by decide +kernel
theorem dX11_ahead_15 : decode cX11_ahead 15 = .ok (.getfield 37, 3) := by decide +kernel
theorem dX11_ahead_18 : decode cX11_ahead 18 = .ok (.invokevirtual 238, 3) := by decide +kernel
theorem dX11_ahead_21 : decode cX11_ahead 21 = .ok (.iconst (-1), 1) := by decide +kernel
theorem dX11_ahead_22 : decode cX11_ahead 22 = .ok (.istore_n 2, 1) := by decide +kernel
theorem dX11_ahead_23 : decode cX11_ahead 23 = .ok (.iconst 0, 1) := by decide +kernel
theorem dX11_ahead_24 : decode cX11_ahead 24 = .ok (.istore_n 3, 1) := by decide +kernel
theorem dX11_ahead_25 : decode cX11_ahead 25 = .ok (.iload_n 3, 1) := by decide +kernel
theorem dX11_ahead_26 : decode cX11_ahead 26 = .ok (.iload_n 1, 1) := by decide +kernel
theorem dX11_ahead_27 : decode cX11_ahead 27 = .ok (.if_icmp .ge 21, 3) := by decide +kernel
theorem dX11_ahead_30 : decode cX11_ahead 30 = .ok (.aload_n 0, 1) := by decide +kernel
theorem dX11_ahead_31 : decode cX11_ahead 31 = .ok (.getfield 41, 3) := by decide +kernel
theorem dX11_ahead_34 : decode cX11_ahead 34 = .ok (.aload_n 0, 1) := by decide +kernel
theorem dX11_ahead_35 : decode cX11_ahead 35 = .ok (.getfield 47, 3) := by decide +kernel
theorem dX11_ahead_38 : decode cX11_ahead 38 = .ok (.invokevirtual 226, 3) := by decide +kernel
theorem dX11_ahead_41 : decode cX11_ahead 41 = .ok (.istore_n 2, 1) := by decide +kernel
theorem dX11_ahead_42 : decode cX11_ahead 42 = .ok (.iinc 3 1, 3) := by decide +kernel
theorem dX11_ahead_45 : decode cX11_ahead 45 = .ok (.goto (-20), 3) := by decide +kernel
theorem dX11_ahead_48 : decode cX11_ahead 48 = .ok (.iload_n 2, 1) := by decide +kernel
theorem dX11_ahead_49 : decode cX11_ahead 49 = .ok (.ireturn, 1) := by decide +kernel
theorem dX11_finish_0 : decode cX11_finish 0 = .ok (.aload_n 0, 1) := by decide +kernel
theorem dX11_finish_1 : decode cX11_finish 1 = .ok (.getfield 37, 3) := by decide +kernel
theorem dX11_finish_4 : decode cX11_finish 4 = .ok (.iload_n 1, 1) := by decide +kernel
theorem dX11_finish_5 : decode cX11_finish 5 = .ok (.invokevirtual 130, 3) := by decide +kernel
theorem dX11_finish_8 : decode cX11_finish 8 = .ok (.ifCond .eq 21, 3) := by decide +kernel
theorem dX11_finish_11 : decode cX11_finish 11 = .ok (.aload_n 0, 1) := by decide +kernel
theorem dX11_finish_12 : decode cX11_finish 12 = .ok (.getfield 37, 3) := by decide +kernel
theorem dX11_finish_15 : decode cX11_finish 15 = .ok (.getfield 133, 3) := by decide +kernel
theorem dX11_finish_18 : decode cX11_finish 18 = .ok (.iload_n 1, 1) := by decide +kernel
theorem dX11_finish_19 : decode cX11_finish 19 = .ok (.aaload, 1) := by decide +kernel
theorem dX11_finish_20 : decode cX11_finish 20 = .ok (.getfield 166, 3) := by decide +kernel
theorem dX11_finish_23 : decode cX11_finish 23 = .ok (.invokevirtual 216, 3) := by decide +kernel
theorem dX11_finish_26 : decode cX11_finish 26 = .ok (.ifCond .ne 5, 3) := by decide +kernel
theorem dX11_finish_29 : decode cX11_finish 29 = .ok (.iconst (-1), 1) := by decide +kernel
theorem dX11_finish_30 : decode cX11_finish 30 = .ok (.ireturn, 1) := by decide +kernel
theorem dX11_finish_31 : decode cX11_finish 31 = .ok (.aload_n 0, 1) := by decide +kernel
theorem dX11_finish_32 : decode cX11_finish 32 = .ok (.getfield 41, 3) := by decide +kernel
theorem dX11_finish_35 : decode cX11_finish 35 = .ok (.aload_n 0, 1) := by decide +kernel
theorem dX11_finish_36 : decode cX11_finish 36 = .ok (.getfield 37, 3) := by decide +kernel
theorem dX11_finish_39 : decode cX11_finish 39 = .ok (.invokevirtual 238, 3) := by decide +kernel
theorem dX11_finish_42 : decode cX11_finish 42 = .ok (.aload_n 0, 1) := by decide +kernel
theorem dX11_finish_43 : decode cX11_finish 43 = .ok (.getfield 41, 3) := by decide +kernel
theorem dX11_finish_46 : decode cX11_finish 46 = .ok (.getfield 133, 3) := by decide +kernel
theorem dX11_finish_49 : decode cX11_finish 49 = .ok (.iload_n 1, 1) := by decide +kernel
theorem dX11_finish_50 : decode cX11_finish 50 = .ok (.aaload, 1) := by decide +kernel
theorem dX11_finish_51 : decode cX11_finish 51 = .ok (.getfield 166, 3) := by decide +kernel
theorem dX11_finish_54 : decode cX11_finish 54 = .ok (.astore_n 2, 1) := by decide +kernel
theorem dX11_finish_55 : decode cX11_finish 55 = .ok (.iconst 1, 1) := by decide +kernel
theorem dX11_finish_56 : decode cX11_finish 56 = .ok (.istore_n 3, 1) := by decide +kernel
theorem dX11_finish_57 : decode cX11_finish 57 = .ok (.iload_n 3, 1) := by decide +kernel
theorem dX11_finish_58 : decode cX11_finish 58 = .ok (.sipush 500, 3) := by decide +kernel
theorem dX11_finish_61 : decode cX11_finish 61 = .ok (.if_icmp .gt 43, 3) := by decide +kernel
theorem dX11_finish_64 : decode cX11_finish 64 = .ok (.aload_n 0, 1) := by decide +kernel
theorem dX11_finish_65 : decode cX11_finish 65 = .ok (.getfield 41, 3) := by decide +kernel
theorem dX11_finish_68 : decode cX11_finish 68 = .ok (.getfield 223, 3) := by decide +kernel
theorem dX11_finish_71 : decode cX11_finish 71 = .ok (.sipush 9999, 3) := by decide +kernel
theorem dX11_finish_74 : decode cX11_finish 74 = .ok (.if_icmp .ge 30, 3) := by decide +kernel
theorem dX11_finish_77 : decode cX11_finish 77 = .ok (.aload_n 0, 1) := by decide +kernel
theorem dX11_finish_78 : decode cX11_finish 78 = .ok (.getfield 41, 3) := by decide +kernel
theorem dX11_finish_81 : decode cX11_finish 81 = .ok (.aload_n 0, 1) := by decide +kernel
theorem dX11_finish_82 : decode cX11_finish 82 = .ok (.getfield 47, 3) := by decide +kernel
theorem dX11_finish_85 : decode cX11_finish 85 = .ok (.invokevirtual 226, 3) := by decide +kernel
theorem dX11_finish_88 : decode cX11_finish 88 = .ok (.pop, 1) := by decide +kernel
theorem dX11_finish_89 : decode cX11_finish 89 = .ok (.aload_n 2, 1) := by decide +kernel
theorem dX11_finish_90 : decode cX11_finish 90 = .ok (.invokevirtual 216, 3) := by decide +kernel
theorem dX11_finish_93 : decode cX11_finish 93 = .ok (.ifCond .ne 5, 3) := by decide +kernel
theorem dX11_finish_96 : decode cX11_finish 96 = .ok (.iload_n 3, 1) := by decide +kernel
theorem dX11_finish_97 : decode cX11_finish 97 = .ok (.ireturn, 1) := by decide +kernel
theorem dX11_finish_98 : decode cX11_finish 98 = .ok (.iinc 3 1, 3) := by decide +kernel
theorem dX11_finish_101 : decode cX11_finish 101 = .ok (.goto (-44), 3) := by decide +kernel
theorem dX11_finish_104 : decode cX11_finish 104 = .ok (.iconst (-1), 1) := by decide +kernel
theorem dX11_finish_105 : decode cX11_finish 105 = .ok (.ireturn, 1) := by decide +kernel
theorem dX11_due_0 : decode cX11_due 0 = .ok (.aload_n 0, 1) := by decide +kernel
theorem dX11_due_1 : decode cX11_due 1 = .ok (.getfield 37, 3) := by decide +kernel
theorem dX11_due_4 : decode cX11_due 4 = .ok (.iload_n 1, 1) := by decide +kernel
theorem dX11_due_5 : decode cX11_due 5 = .ok (.invokevirtual 130, 3) := by decide +kernel
theorem dX11_due_8 : decode cX11_due 8 = .ok (.ifCond .ne 5, 3) := by decide +kernel
theorem dX11_due_11 : decode cX11_due 11 = .ok (.iconst (-1), 1) := by decide +kernel
theorem dX11_due_12 : decode cX11_due 12 = .ok (.ireturn, 1) := by decide +kernel
theorem dX11_due_13 : decode cX11_due 13 = .ok (.aload_n 0, 1) := by decide +kernel
theorem dX11_due_14 : decode cX11_due 14 = .ok (.getfield 41, 3) := by decide +kernel
theorem dX11_due_17 : decode cX11_due 17 = .ok (.aload_n 0, 1) := by decide +kernel
theorem dX11_due_18 : decode cX11_due 18 = .ok (.getfield 37, 3) := by decide +kernel
theorem dX11_due_21 : decode cX11_due 21 = .ok (.invokevirtual 238, 3) := by decide +kernel
theorem dX11_due_24 : decode cX11_due 24 = .ok (.aload_n 0, 1) := by decide +kernel
theorem dX11_due_25 : decode cX11_due 25 = .ok (.getfield 41, 3) := by decide +kernel
theorem dX11_due_28 : decode cX11_due 28 = .ok (.getfield 133, 3) := by decide +kernel
theorem dX11_due_31 : decode cX11_due 31 = .ok (.iload_n 1, 1) := by decide +kernel
theorem dX11_due_32 : decode cX11_due 32 = .ok (.aaload, 1) := by decide +kernel
theorem dX11_due_33 : decode cX11_due 33 = .ok (.astore_n 2, 1) := by decide +kernel
theorem dX11_due_34 : decode cX11_due 34 = .ok (.aload_n 2, 1) := by decide +kernel
theorem dX11_due_35 : decode cX11_due 35 = .ok (.getfield 317, 3) := by decide +kernel
theorem dX11_due_38 : decode cX11_due 38 = .ok (.istore_n 3, 1) := by decide +kernel
theorem dX11_due_39 : decode cX11_due 39 = .ok (.iconst 1, 1) := by decide +kernel
theorem dX11_due_40 : decode cX11_due 40 = .ok (.istore 4, 2) := by decide +kernel
theorem dX11_due_42 : decode cX11_due 42 = .ok (.iload 4, 2) := by decide +kernel
theorem dX11_due_44 : decode cX11_due 44 = .ok (.sipush 500, 3) := by decide +kernel
theorem dX11_due_47 : decode cX11_due 47 = .ok (.if_icmp .gt 45, 3) := by decide +kernel
theorem dX11_due_50 : decode cX11_due 50 = .ok (.aload_n 0, 1) := by decide +kernel
theorem dX11_due_51 : decode cX11_due 51 = .ok (.getfield 41, 3) := by decide +kernel
theorem dX11_due_54 : decode cX11_due 54 = .ok (.getfield 223, 3) := by decide +kernel
theorem dX11_due_57 : decode cX11_due 57 = .ok (.sipush 9999, 3) := by decide +kernel
theorem dX11_due_60 : decode cX11_due 60 = .ok (.if_icmp .ge 32, 3) := by decide +kernel
theorem dX11_due_63 : decode cX11_due 63 = .ok (.aload_n 0, 1) := by decide +kernel
theorem dX11_due_64 : decode cX11_due 64 = .ok (.getfield 41, 3) := by decide +kernel
theorem dX11_due_67 : decode cX11_due 67 = .ok (.aload_n 0, 1) := by decide +kernel
theorem dX11_due_68 : decode cX11_due 68 = .ok (.getfield 47, 3) := by decide +kernel
theorem dX11_due_71 : decode cX11_due 71 = .ok (.invokevirtual 226, 3) := by decide +kernel
theorem dX11_due_74 : decode cX11_due 74 = .ok (.pop, 1) := by decide +kernel
theorem dX11_due_75 : decode cX11_due 75 = .ok (.aload_n 2, 1) := by decide +kernel
theorem dX11_due_76 : decode cX11_due 76 = .ok (.getfield 317, 3) := by decide +kernel
theorem dX11_due_79 : decode cX11_due 79 = .ok (.iload_n 3, 1) := by decide +kernel
theorem dX11_due_80 : decode cX11_due 80 = .ok (.if_icmp .le 6, 3) := by decide +kernel
theorem dX11_due_83 : decode cX11_due 83 = .ok (.iload 4, 2) := by decide +kernel
theorem dX11_due_85 : decode cX11_due 85 = .ok (.ireturn, 1) := by decide +kernel
theorem dX11_due_86 : decode cX11_due 86 = .ok (.iinc 4 1, 3) := by decide +kernel
theorem dX11_due_89 : decode cX11_due 89 = .ok (.goto (-47), 3) := by decide +kernel
theorem dX11_due_92 : decode cX11_due 92 = .ok (.iconst (-1), 1) := by decide +kernel
theorem dX11_due_93 : decode cX11_due 93 = .ok (.ireturn, 1) := by decide +kernel
theorem dX11_least_0 : decode cX11_least 0 = .ok (.aload_n 0, 1) := by decide +kernel
theorem dX11_least_1 : decode cX11_least 1 = .ok (.getfield 37, 3) := by decide +kernel
theorem dX11_least_4 : decode cX11_least 4 = .ok (.iload_n 1, 1) := by decide +kernel
theorem dX11_least_5 : decode cX11_least 5 = .ok (.invokevirtual 130, 3) := by decide +kernel
theorem dX11_least_8 : decode cX11_least 8 = .ok (.ifCond .eq 20, 3) := by decide +kernel
theorem dX11_least_11 : decode cX11_least 11 = .ok (.aload_n 0, 1) := by decide +kernel
theorem dX11_least_12 : decode cX11_least 12 = .ok (.iload_n 3, 1) := by decide +kernel
theorem dX11_least_13 : decode cX11_least 13 = .ok (.invokevirtual 314, 3) := by decide +kernel
theorem dX11_least_16 : decode cX11_least 16 = .ok (.ifCond .eq 12, 3) := by decide +kernel
theorem dX11_least_19 : decode cX11_least 19 = .ok (.iload_n 2, 1) := by decide +kernel
theorem dX11_least_20 : decode cX11_least 20 = .ok (.ifCond .lt 8, 3) := by decide +kernel
theorem dX11_least_23 : decode cX11_least 23 = .ok (.iload_n 2, 1) := by decide +kernel
theorem dX11_least_24 : decode cX11_least 24 = .ok (.iload_n 3, 1) := by decide +kernel
theorem dX11_least_25 : decode cX11_least 25 = .ok (.if_icmp .le 5, 3) := by decide +kernel
theorem dX11_least_28 : decode cX11_least 28 = .ok (.iconst (-1), 1) := by decide +kernel
theorem dX11_least_29 : decode cX11_least 29 = .ok (.ireturn, 1) := by decide +kernel
theorem dX11_least_30 : decode cX11_least 30 = .ok (.iconst 1, 1) := by decide +kernel
theorem dX11_least_31 : decode cX11_least 31 = .ok (.istore 4, 2) := by decide +kernel
theorem dX11_least_33 : decode cX11_least 33 = .ok (.iload 4, 2) := by decide +kernel
theorem dX11_least_35 : decode cX11_least 35 = .ok (.bipush 8, 2) := by decide +kernel
theorem dX11_least_37 : decode cX11_least 37 = .ok (.if_icmp .gt 45, 3) := by decide +kernel
theorem dX11_least_40 : decode cX11_least 40 = .ok (.aload_n 0, 1) := by decide +kernel
theorem dX11_least_41 : decode cX11_least 41 = .ok (.getfield 37, 3) := by decide +kernel
theorem dX11_least_44 : decode cX11_least 44 = .ok (.aload_n 0, 1) := by decide +kernel
theorem dX11_least_45 : decode cX11_least 45 = .ok (.getfield 37, 3) := by decide +kernel
theorem dX11_least_48 : decode cX11_least 48 = .ok (.getfield 133, 3) := by decide +kernel
theorem dX11_least_51 : decode cX11_least 51 = .ok (.iload_n 1, 1) := by decide +kernel
theorem dX11_least_52 : decode cX11_least 52 = .ok (.aaload, 1) := by decide +kernel
theorem dX11_least_53 : decode cX11_least 53 = .ok (.iload 4, 2) := by decide +kernel
theorem dX11_least_55 : decode cX11_least 55 = .ok (.invokevirtual 175, 3) := by decide +kernel
theorem dX11_least_58 : decode cX11_least 58 = .ok (.ifCond .eq 18, 3) := by decide +kernel
theorem dX11_least_61 : decode cX11_least 61 = .ok (.aload_n 0, 1) := by decide +kernel
theorem dX11_least_62 : decode cX11_least 62 = .ok (.iload_n 1, 1) := by decide +kernel
theorem dX11_least_63 : decode cX11_least 63 = .ok (.iload 4, 2) := by decide +kernel
theorem dX11_least_65 : decode cX11_least 65 = .ok (.iload_n 3, 1) := by decide +kernel
theorem dX11_least_66 : decode cX11_least 66 = .ok (.invokevirtual 320, 3) := by decide +kernel
theorem dX11_least_69 : decode cX11_least 69 = .ok (.iload_n 2, 1) := by decide +kernel
theorem dX11_least_70 : decode cX11_least 70 = .ok (.if_icmp .lt 6, 3) := by decide +kernel
theorem dX11_least_73 : decode cX11_least 73 = .ok (.iload 4, 2) := by decide +kernel
theorem dX11_least_75 : decode cX11_least 75 = .ok (.ireturn, 1) := by decide +kernel
theorem dX11_least_76 : decode cX11_least 76 = .ok (.iinc 4 1, 3) := by decide +kernel
theorem dX11_least_79 : decode cX11_least 79 = .ok (.goto (-46), 3) := by decide +kernel
theorem dX11_least_82 : decode cX11_least 82 = .ok (.iconst (-1), 1) := by decide +kernel
theorem dX11_least_83 : decode cX11_least 83 = .ok (.ireturn, 1) := by decide +kernel
theorem dX11_would_0 : decode cX11_would 0 = .ok (.iload_n 1, 1) := by decide +kernel
theorem dX11_would_1 : decode cX11_would 1 = .ok (.ifCond .lt 25, 3) := by decide +kernel
theorem dX11_would_4 : decode cX11_would 4 = .ok (.iload_n 1, 1) := by decide +kernel
theorem dX11_would_5 : decode cX11_would 5 = .ok (.iconst 4, 1) := by decide +kernel
theorem dX11_would_6 : decode cX11_would 6 = .ok (.if_icmp .gt 20, 3) := by decide +kernel
theorem dX11_would_9 : decode cX11_would 9 = .ok (.aload_n 0, 1) := by decide +kernel
theorem dX11_would_10 : decode cX11_would 10 = .ok (.iload_n 2, 1) := by decide +kernel
theorem dX11_would_11 : decode cX11_would 11 = .ok (.invokevirtual 314, 3) := by decide +kernel
theorem dX11_would_14 : decode cX11_would 14 = .ok (.ifCond .eq 12, 3) := by decide +kernel
theorem dX11_would_17 : decode cX11_would 17 = .ok (.iload_n 3, 1) := by decide +kernel
theorem dX11_would_18 : decode cX11_would 18 = .ok (.ifCond .lt 8, 3) := by decide +kernel
theorem dX11_would_21 : decode cX11_would 21 = .ok (.iload_n 3, 1) := by decide +kernel
theorem dX11_would_22 : decode cX11_would 22 = .ok (.iconst 3, 1) := by decide +kernel
theorem dX11_would_23 : decode cX11_would 23 = .ok (.if_icmp .le 7, 3) := by decide +kernel
theorem dX11_would_26 : decode cX11_would 26 = .ok (.ldc_w 325, 3) := by decide +kernel
theorem dX11_would_29 : decode cX11_would 29 = .ok (.ireturn, 1) := by decide +kernel
theorem dX11_would_30 : decode cX11_would 30 = .ok (.aload_n 0, 1) := by decide +kernel
theorem dX11_would_31 : decode cX11_would 31 = .ok (.getfield 41, 3) := by decide +kernel
theorem dX11_would_34 : decode cX11_would 34 = .ok (.aload_n 0, 1) := by decide +kernel
theorem dX11_would_35 : decode cX11_would 35 = .ok (.getfield 37, 3) := by decide +kernel
theorem dX11_would_38 : decode cX11_would 38 = .ok (.invokevirtual 238, 3) := by decide +kernel
theorem dX11_would_41 : decode cX11_would 41 = .ok (.aload_n 0, 1) := by decide +kernel
theorem dX11_would_42 : decode cX11_would 42 = .ok (.getfield 51, 3) := by decide +kernel
theorem dX11_would_45 : decode cX11_would 45 = .ok (.iload_n 1, 1) := by decide +kernel
theorem dX11_would_46 : decode cX11_would 46 = .ok (.invokevirtual 326, 3) := by decide +kernel
theorem dX11_would_49 : decode cX11_would 49 = .ok (.lconst 0, 1) := by decide +kernel
theorem dX11_would_50 : decode cX11_would 50 = .ok (.lstore 4, 2) := by decide +kernel
theorem dX11_would_52 : decode cX11_would 52 = .ok (.iconst 0, 1) := by decide +kernel
theorem dX11_would_53 : decode cX11_would 53 = .ok (.istore 6, 2) := by decide +kernel
theorem dX11_would_55 : decode cX11_would 55 = .ok (.iconst 0, 1) := by decide +kernel
theorem dX11_would_56 : decode cX11_would 56 = .ok (.istore 7, 2) := by decide +kernel
theorem dX11_would_58 : decode cX11_would 58 = .ok (.iconst 0, 1) := by decide +kernel
theorem dX11_would_59 : decode cX11_would 59 = .ok (.istore 8, 2) := by decide +kernel
theorem dX11_would_61 : decode cX11_would 61 = .ok (.iload 8, 2) := by decide +kernel
theorem dX11_would_63 : decode cX11_would 63 = .ok (.iload_n 2, 1) := by decide +kernel
theorem dX11_would_64 : decode cX11_would 64 = .ok (.if_icmp .ge 73, 3) := by decide +kernel
theorem dX11_would_67 : decode cX11_would 67 = .ok (.aload_n 0, 1) := by decide +kernel
theorem dX11_would_68 : decode cX11_would 68 = .ok (.getfield 41, 3) := by decide +kernel
theorem dX11_would_71 : decode cX11_would 71 = .ok (.getfield 329, 3) := by decide +kernel
theorem dX11_would_74 : decode cX11_would 74 = .ok (.istore 9, 2) := by decide +kernel
theorem dX11_would_76 : decode cX11_would 76 = .ok (.aload_n 0, 1) := by decide +kernel
theorem dX11_would_77 : decode cX11_would 77 = .ok (.getfield 41, 3) := by decide +kernel
theorem dX11_would_80 : decode cX11_would 80 = .ok (.aload_n 0, 1) := by decide +kernel
theorem dX11_would_81 : decode cX11_would 81 = .ok (.getfield 51, 3) := by decide +kernel
theorem dX11_would_84 : decode cX11_would 84 = .ok (.invokevirtual 226, 3) := by decide +kernel
theorem dX11_would_87 : decode cX11_would 87 = .ok (.istore 10, 2) := by decide +kernel
theorem dX11_would_89 : decode cX11_would 89 = .ok (.iload 10, 2) := by decide +kernel
theorem dX11_would_91 : decode cX11_would 91 = .ok (.iconst (-1), 1) := by decide +kernel
theorem dX11_would_92 : decode cX11_would 92 = .ok (.if_icmp .ne 9, 3) := by decide +kernel
theorem dX11_would_95 : decode cX11_would 95 = .ok (.iinc 7 1, 3) := by decide +kernel
theorem dX11_would_98 : decode cX11_would 98 = .ok (.goto 13, 3) := by decide +kernel
theorem dX11_would_101 : decode cX11_would 101 = .ok (.iload 10, 2) := by decide +kernel
theorem dX11_would_103 : decode cX11_would 103 = .ok (.iload 9, 2) := by decide +kernel
theorem dX11_would_105 : decode cX11_would 105 = .ok (.if_icmp .eq 6, 3) := by decide +kernel
theorem dX11_would_108 : decode cX11_would 108 = .ok (.iinc 6 1, 3) := by decide +kernel
theorem dX11_would_111 : decode cX11_would 111 = .ok (.aload_n 0, 1) := by decide +kernel
theorem dX11_would_112 : decode cX11_would 112 = .ok (.getfield 41, 3) := by decide +kernel
theorem dX11_would_115 : decode cX11_would 115 = .ok (.lload 4, 2) := by decide +kernel
theorem dX11_would_117 : decode cX11_would 117 = .ok (.iload_n 3, 1) := by decide +kernel
theorem dX11_would_118 : decode cX11_would 118 = .ok (.ifCond .ne 7, 3) := by decide +kernel
theorem dX11_would_121 : decode cX11_would 121 = .ok (.iconst 1, 1) := by decide +kernel
theorem dX11_would_122 : decode cX11_would 122 = .ok (.goto 4, 3) := by decide +kernel
theorem dX11_would_125 : decode cX11_would 125 = .ok (.iconst 0, 1) := by decide +kernel
theorem dX11_would_126 : decode cX11_would 126 = .ok (.invokevirtual 332, 3) := by decide +kernel
theorem dX11_would_129 : decode cX11_would 129 = .ok (.lstore 4, 2) := by decide +kernel
theorem dX11_would_131 : decode cX11_would 131 = .ok (.iinc 8 1, 3) := by decide +kernel
theorem dX11_would_134 : decode cX11_would 134 = .ok (.goto (-73), 3) := by decide +kernel
theorem dX11_would_137 : decode cX11_would 137 = .ok (.iload_n 3, 1) := by decide +kernel
theorem dX11_would_138 : decode cX11_would 138 = .ok (.iconst 2, 1) := by decide +kernel
theorem dX11_would_139 : decode cX11_would 139 = .ok (.if_icmp .ne 6, 3) := by decide +kernel
theorem dX11_would_142 : decode cX11_would 142 = .ok (.iload 6, 2) := by decide +kernel
theorem dX11_would_144 : decode cX11_would 144 = .ok (.ireturn, 1) := by decide +kernel
theorem dX11_would_145 : decode cX11_would 145 = .ok (.iload_n 3, 1) := by decide +kernel
theorem dX11_would_146 : decode cX11_would 146 = .ok (.iconst 3, 1) := by decide +kernel
theorem dX11_would_147 : decode cX11_would 147 = .ok (.if_icmp .ne 8, 3) := by decide +kernel
theorem dX11_would_150 : decode cX11_would 150 = .ok (.iload 7, 2) := by decide +kernel
theorem dX11_would_152 : decode cX11_would 152 = .ok (.goto 6, 3) := by decide +kernel
theorem dX11_would_155 : decode cX11_would 155 = .ok (.lload 4, 2) := by decide +kernel
theorem dX11_would_157 : decode cX11_would 157 = .ok (.l2i, 1) := by decide +kernel
theorem dX11_would_158 : decode cX11_would 158 = .ok (.ireturn, 1) := by decide +kernel
theorem dX11_count_0 : decode cX11_count 0 = .ok (.iload_n 1, 1) := by decide +kernel
theorem dX11_count_1 : decode cX11_count 1 = .ok (.tableswitch 239 0 16 #[83, 91, 100, 109, 117, 125, 141, 149, 157, 166, 176, 186, 196, 206, 214, 222, 230], 83) := by decide +kernel
theorem dX11_count_84 : decode cX11_count 84 = .ok (.aload_n 0, 1) := by decide +kernel
theorem dX11_count_85 : decode cX11_count 85 = .ok (.getfield 37, 3) := by decide +kernel
theorem dX11_count_88 : decode cX11_count 88 = .ok (.getfield 119, 3) := by decide +kernel
theorem dX11_count_91 : decode cX11_count 91 = .ok (.ireturn, 1) := by decide +kernel
theorem dX11_count_92 : decode cX11_count 92 = .ok (.aload_n 0, 1) := by decide +kernel
theorem dX11_count_93 : decode cX11_count 93 = .ok (.getfield 37, 3) := by decide +kernel
theorem dX11_count_96 : decode cX11_count 96 = .ok (.iconst 1, 1) := by decide +kernel
theorem dX11_count_97 : decode cX11_count 97 = .ok (.invokevirtual 336, 3) := by decide +kernel
theorem dX11_count_100 : decode cX11_count 100 = .ok (.ireturn, 1) := by decide +kernel
theorem dX11_count_101 : decode cX11_count 101 = .ok (.aload_n 0, 1) := by decide +kernel
theorem dX11_count_102 : decode cX11_count 102 = .ok (.getfield 37, 3) := by decide +kernel
theorem dX11_count_105 : decode cX11_count 105 = .ok (.iconst 2, 1) := by decide +kernel
theorem dX11_count_106 : decode cX11_count 106 = .ok (.invokevirtual 336, 3) := by decide +kernel
theorem dX11_count_109 : decode cX11_count 109 = .ok (.ireturn, 1) := by decide +kernel
theorem dX11_count_110 : decode cX11_count 110 = .ok (.aload_n 0, 1) := by decide +kernel
theorem dX11_count_111 : decode cX11_count 111 = .ok (.getfield 37, 3) := by decide +kernel
theorem dX11_count_114 : decode cX11_count 114 = .ok (.invokevirtual 339, 3) := by decide +kernel
theorem dX11_count_117 : decode cX11_count 117 = .ok (.ireturn, 1) := by decide +kernel
theorem dX11_count_118 : decode cX11_count 118 = .ok (.aload_n 0, 1) := by decide +kernel
theorem dX11_count_119 : decode cX11_count 119 = .ok (.getfield 37, 3) := by decide +kernel
theorem dX11_count_122 : decode cX11_count 122 = .ok (.getfield 329, 3) := by decide +kernel
theorem dX11_count_125 : decode cX11_count 125 = .ok (.ireturn, 1) := by decide +kernel
theorem dX11_count_126 : decode cX11_count 126 = .ok (.aload_n 0, 1) := by decide +kernel
theorem dX11_count_127 : decode cX11_count 127 = .ok (.getfield 37, 3) := by decide +kernel
theorem dX11_count_130 : decode cX11_count 130 = .ok (.getfield 223, 3) := by decide +kernel
theorem dX11_count_133 : decode cX11_count 133 = .ok (.aload_n 0, 1) := by decide +kernel
theorem dX11_count_134 : decode cX11_count 134 = .ok (.getfield 37, 3) := by decide +kernel
theorem dX11_count_137 : decode cX11_count 137 = .ok (.invokevirtual 307, 3) := by decide +kernel
theorem dX11_count_140 : decode cX11_count 140 = .ok (.isub, 1) := by decide +kernel
theorem dX11_count_141 : decode cX11_count 141 = .ok (.ireturn, 1) := by decide +kernel
theorem dX11_count_142 : decode cX11_count 142 = .ok (.aload_n 0, 1) := by decide +kernel
theorem dX11_count_143 : decode cX11_count 143 = .ok (.getfield 65, 3) := by decide +kernel
theorem dX11_count_146 : decode cX11_count 146 = .ok (.getfield 230, 3) := by decide +kernel
theorem dX11_count_149 : decode cX11_count 149 = .ok (.ireturn, 1) := by decide +kernel
theorem dX11_count_150 : decode cX11_count 150 = .ok (.aload_n 0, 1) := by decide +kernel
theorem dX11_count_151 : decode cX11_count 151 = .ok (.getfield 21, 3) := by decide +kernel
theorem dX11_count_154 : decode cX11_count 154 = .ok (.getfield 106, 3) := by decide +kernel
theorem dX11_count_157 : decode cX11_count 157 = .ok (.ireturn, 1) := by decide +kernel
theorem dX11_count_158 : decode cX11_count 158 = .ok (.aload_n 0, 1) := by decide +kernel
theorem dX11_count_159 : decode cX11_count 159 = .ok (.getfield 72, 3) := by decide +kernel
theorem dX11_count_162 : decode cX11_count 162 = .ok (.iconst (-1), 1) := by decide +kernel
theorem dX11_count_163 : decode cX11_count 163 = .ok (.invokevirtual 342, 3) := by decide +kernel
theorem dX11_count_166 : decode cX11_count 166 = .ok (.ireturn, 1) := by decide +kernel
theorem dX11_count_167 : decode cX11_count 167 = .ok (.aload_n 0, 1) := by decide +kernel
theorem dX11_count_168 : decode cX11_count 168 = .ok (.getfield 72, 3) := by decide +kernel
theorem dX11_count_171 : decode cX11_count 171 = .ok (.bipush (-2), 2) := by decide +kernel
theorem dX11_count_173 : decode cX11_count 173 = .ok (.invokevirtual 342, 3) := by decide +kernel
theorem dX11_count_176 : decode cX11_count 176 = .ok (.ireturn, 1) := by decide +kernel
theorem dX11_count_177 : decode cX11_count 177 = .ok (.aload_n 0, 1) := by decide +kernel
theorem dX11_count_178 : decode cX11_count 178 = .ok (.getfield 72, 3) := by decide +kernel
theorem dX11_count_181 : decode cX11_count 181 = .ok (.bipush (-4), 2) := by decide +kernel
theorem dX11_count_183 : decode cX11_count 183 = .ok (.invokevirtual 342, 3) := by decide +kernel
theorem dX11_count_186 : decode cX11_count 186 = .ok (.ireturn, 1) := by decide +kernel
theorem dX11_count_187 : decode cX11_count 187 = .ok (.aload_n 0, 1) := by decide +kernel
theorem dX11_count_188 : decode cX11_count 188 = .ok (.getfield 72, 3) := by decide +kernel
theorem dX11_count_191 : decode cX11_count 191 = .ok (.bipush (-5), 2) := by decide +kernel
theorem dX11_count_193 : decode cX11_count 193 = .ok (.invokevirtual 342, 3) := by decide +kernel
theorem dX11_count_196 : decode cX11_count 196 = .ok (.ireturn, 1) := by decide +kernel
theorem dX11_count_197 : decode cX11_count 197 = .ok (.aload_n 0, 1) := by decide +kernel
theorem dX11_count_198 : decode cX11_count 198 = .ok (.getfield 72, 3) := by decide +kernel
theorem dX11_count_201 : decode cX11_count 201 = .ok (.bipush (-6), 2) := by decide +kernel
theorem dX11_count_203 : decode cX11_count 203 = .ok (.invokevirtual 342, 3) := by decide +kernel
theorem dX11_count_206 : decode cX11_count 206 = .ok (.ireturn, 1) := by decide +kernel
theorem dX11_count_207 : decode cX11_count 207 = .ok (.aload_n 0, 1) := by decide +kernel
theorem dX11_count_208 : decode cX11_count 208 = .ok (.getfield 12, 3) := by decide +kernel
theorem dX11_count_211 : decode cX11_count 211 = .ok (.getfield 345, 3) := by decide +kernel
theorem dX11_count_214 : decode cX11_count 214 = .ok (.ireturn, 1) := by decide +kernel
theorem dX11_count_215 : decode cX11_count 215 = .ok (.aload_n 0, 1) := by decide +kernel
theorem dX11_count_216 : decode cX11_count 216 = .ok (.getfield 12, 3) := by decide +kernel
theorem dX11_count_219 : decode cX11_count 219 = .ok (.getfield 348, 3) := by decide +kernel
theorem dX11_count_222 : decode cX11_count 222 = .ok (.ireturn, 1) := by decide +kernel
theorem dX11_count_223 : decode cX11_count 223 = .ok (.aload_n 0, 1) := by decide +kernel
theorem dX11_count_224 : decode cX11_count 224 = .ok (.getfield 12, 3) := by decide +kernel
theorem dX11_count_227 : decode cX11_count 227 = .ok (.getfield 351, 3) := by decide +kernel
theorem dX11_count_230 : decode cX11_count 230 = .ok (.ireturn, 1) := by decide +kernel
theorem dX11_count_231 : decode cX11_count 231 = .ok (.aload_n 0, 1) := by decide +kernel
theorem dX11_count_232 : decode cX11_count 232 = .ok (.getfield 37, 3) := by decide +kernel
theorem dX11_count_235 : decode cX11_count 235 = .ok (.iconst 3, 1) := by decide +kernel
theorem dX11_count_236 : decode cX11_count 236 = .ok (.invokevirtual 336, 3) := by decide +kernel
theorem dX11_count_239 : decode cX11_count 239 = .ok (.ireturn, 1) := by decide +kernel
theorem dX11_count_240 : decode cX11_count 240 = .ok (.iconst (-1), 1) := by decide +kernel
theorem dX11_count_241 : decode cX11_count 241 = .ok (.ireturn, 1) := by decide +kernel
theorem dX11_status_0 : decode cX11_status 0 = .ok (.aload_n 0, 1) := by decide +kernel
theorem dX11_status_1 : decode cX11_status 1 = .ok (.getfield 72, 3) := by decide +kernel
theorem dX11_status_4 : decode cX11_status 4 = .ok (.getfield 354, 3) := by decide +kernel
theorem dX11_status_7 : decode cX11_status 7 = .ok (.ireturn, 1) := by decide +kernel
theorem dX11_isWeight_0 : decode cX11_isWeight 0 = .ok (.iload_n 0, 1) := by decide +kernel
theorem dX11_isWeight_1 : decode cX11_isWeight 1 = .ok (.iconst 1, 1) := by decide +kernel
theorem dX11_isWeight_2 : decode cX11_isWeight 2 = .ok (.if_icmp .lt 13, 3) := by decide +kernel
theorem dX11_isWeight_5 : decode cX11_isWeight 5 = .ok (.iload_n 0, 1) := by decide +kernel
theorem dX11_isWeight_6 : decode cX11_isWeight 6 = .ok (.bipush 8, 2) := by decide +kernel
theorem dX11_isWeight_8 : decode cX11_isWeight 8 = .ok (.if_icmp .gt 7, 3) := by decide +kernel
theorem dX11_isWeight_11 : decode cX11_isWeight 11 = .ok (.iconst 1, 1) := by decide +kernel
theorem dX11_isWeight_12 : decode cX11_isWeight 12 = .ok (.goto 4, 3) := by decide +kernel
theorem dX11_isWeight_15 : decode cX11_isWeight 15 = .ok (.iconst 0, 1) := by decide +kernel
theorem dX11_isWeight_16 : decode cX11_isWeight 16 = .ok (.ireturn, 1) := by decide +kernel
theorem dX11_isSlice_0 : decode cX11_isSlice 0 = .ok (.iload_n 0, 1) := by decide +kernel
theorem dX11_isSlice_1 : decode cX11_isSlice 1 = .ok (.iconst 1, 1) := by decide +kernel
theorem dX11_isSlice_2 : decode cX11_isSlice 2 = .ok (.if_icmp .lt 13, 3) := by decide +kernel
theorem dX11_isSlice_5 : decode cX11_isSlice 5 = .ok (.iload_n 0, 1) := by decide +kernel
theorem dX11_isSlice_6 : decode cX11_isSlice 6 = .ok (.bipush 20, 2) := by decide +kernel
theorem dX11_isSlice_8 : decode cX11_isSlice 8 = .ok (.if_icmp .gt 7, 3) := by decide +kernel
theorem dX11_isSlice_11 : decode cX11_isSlice 11 = .ok (.iconst 1, 1) := by decide +kernel
theorem dX11_isSlice_12 : decode cX11_isSlice 12 = .ok (.goto 4, 3) := by decide +kernel
theorem dX11_isSlice_15 : decode cX11_isSlice 15 = .ok (.iconst 0, 1) := by decide +kernel
theorem dX11_isSlice_16 : decode cX11_isSlice 16 = .ok (.ireturn, 1) := by decide +kernel
theorem dX11_isImage_0 : decode cX11_isImage 0 = .ok (.iload_n 0, 1) := by decide +kernel
theorem dX11_isImage_1 : decode cX11_isImage 1 = .ok (.ifCond .lt 12, 3) := by decide +kernel
theorem dX11_isImage_4 : decode cX11_isImage 4 = .ok (.iload_n 0, 1) := by decide +kernel
theorem dX11_isImage_5 : decode cX11_isImage 5 = .ok (.iconst 2, 1) := by decide +kernel
theorem dX11_isImage_6 : decode cX11_isImage 6 = .ok (.if_icmp .ge 7, 3) := by decide +kernel
theorem dX11_isImage_9 : decode cX11_isImage 9 = .ok (.iconst 1, 1) := by decide +kernel
theorem dX11_isImage_10 : decode cX11_isImage 10 = .ok (.goto 4, 3) := by decide +kernel
theorem dX11_isImage_13 : decode cX11_isImage 13 = .ok (.iconst 0, 1) := by decide +kernel
theorem dX11_isImage_14 : decode cX11_isImage 14 = .ok (.ireturn, 1) := by decide +kernel
theorem dX11_canTick_0 : decode cX11_canTick 0 = .ok (.iload_n 1, 1) := by decide +kernel
theorem dX11_canTick_1 : decode cX11_canTick 1 = .ok (.iconst 1, 1) := by decide +kernel
theorem dX11_canTick_2 : decode cX11_canTick 2 = .ok (.if_icmp .lt 28, 3) := by decide +kernel
theorem dX11_canTick_5 : decode cX11_canTick 5 = .ok (.iload_n 1, 1) := by decide +kernel
theorem dX11_canTick_6 : decode cX11_canTick 6 = .ok (.bipush 60, 2) := by decide +kernel
theorem dX11_canTick_8 : decode cX11_canTick 8 = .ok (.if_icmp .gt 22, 3) := by decide +kernel
theorem dX11_canTick_11 : decode cX11_canTick 11 = .ok (.aload_n 0, 1) := by decide +kernel
theorem dX11_canTick_12 : decode cX11_canTick 12 = .ok (.getfield 37, 3) := by decide +kernel
theorem dX11_canTick_15 : decode cX11_canTick 15 = .ok (.getfield 223, 3) := by decide +kernel
theorem dX11_canTick_18 : decode cX11_canTick 18 = .ok (.iload_n 1, 1) := by decide +kernel
theorem dX11_canTick_19 : decode cX11_canTick 19 = .ok (.iadd, 1) := by decide +kernel
theorem dX11_canTick_20 : decode cX11_canTick 20 = .ok (.sipush 9999, 3) := by decide +kernel
theorem dX11_canTick_23 : decode cX11_canTick 23 = .ok (.if_icmp .gt 7, 3) := by decide +kernel
theorem dX11_canTick_26 : decode cX11_canTick 26 = .ok (.iconst 1, 1) := by decide +kernel
theorem dX11_canTick_27 : decode cX11_canTick 27 = .ok (.goto 4, 3) := by decide +kernel
theorem dX11_canTick_30 : decode cX11_canTick 30 = .ok (.iconst 0, 1) := by decide +kernel
theorem dX11_canTick_31 : decode cX11_canTick 31 = .ok (.ireturn, 1) := by decide +kernel
theorem dX11_ticksWithWeight_0 : decode cX11_ticksWithWeight 0 = .ok (.aload_n 0, 1) := by decide +kernel
theorem dX11_ticksWithWeight_1 : decode cX11_ticksWithWeight 1 = .ok (.getfield 41, 3) := by decide +kernel
theorem dX11_ticksWithWeight_4 : decode cX11_ticksWithWeight 4 = .ok (.aload_n 0, 1) := by decide +kernel
theorem dX11_ticksWithWeight_5 : decode cX11_ticksWithWeight 5 = .ok (.getfield 37, 3) := by decide +kernel
theorem dX11_ticksWithWeight_8 : decode cX11_ticksWithWeight 8 = .ok (.invokevirtual 238, 3) := by decide +kernel
theorem dX11_ticksWithWeight_11 : decode cX11_ticksWithWeight 11 = .ok (.aload_n 0, 1) := by decide +kernel
theorem dX11_ticksWithWeight_12 : decode cX11_ticksWithWeight 12 = .ok (.getfield 41, 3) := by decide +kernel
theorem dX11_ticksWithWeight_15 : decode cX11_ticksWithWeight 15 = .ok (.getfield 133, 3) := by decide +kernel
theorem dX11_ticksWithWeight_18 : decode cX11_ticksWithWeight 18 = .ok (.iload_n 1, 1) := by decide +kernel
theorem dX11_ticksWithWeight_19 : decode cX11_ticksWithWeight 19 = .ok (.aaload, 1) := by decide +kernel
theorem dX11_ticksWithWeight_20 : decode cX11_ticksWithWeight 20 = .ok (.astore 4, 2) := by decide +kernel
theorem dX11_ticksWithWeight_22 : decode cX11_ticksWithWeight 22 = .ok (.aload 4, 2) := by decide +kernel
theorem dX11_ticksWithWeight_24 : decode cX11_ticksWithWeight 24 = .ok (.getfield 145, 3) := by decide +kernel
theorem dX11_ticksWithWeight_27 : decode cX11_ticksWithWeight 27 = .ok (.iload_n 2, 1) := by decide +kernel
theorem dX11_ticksWithWeight_28 : decode cX11_ticksWithWeight 28 = .ok (.if_icmp .eq 13, 3) := by decide +kernel
theorem dX11_ticksWithWeight_31 : decode cX11_ticksWithWeight 31 = .ok (.aload_n 0, 1) := by decide +kernel
theorem dX11_ticksWithWeight_32 : decode cX11_ticksWithWeight 32 = .ok (.getfield 41, 3) := by decide +kernel
theorem dX11_ticksWithWeight_35 : decode cX11_ticksWithWeight 35 = .ok (.aload 4, 2) := by decide +kernel
theorem dX11_ticksWithWeight_37 : decode cX11_ticksWithWeight 37 = .ok (.iload_n 2, 1) := by decide +kernel
theorem dX11_ticksWithWeight_38 : decode cX11_ticksWithWeight 38 = .ok (.invokevirtual 179, 3) := by decide +kernel
theorem dX11_ticksWithWeight_41 : decode cX11_ticksWithWeight 41 = .ok (.iconst 0, 1) := by decide +kernel
theorem dX11_ticksWithWeight_42 : decode cX11_ticksWithWeight 42 = .ok (.istore 5, 2) := by decide +kernel
theorem dX11_ticksWithWeight_44 : decode cX11_ticksWithWeight 44 = .ok (.iconst 0, 1) := by decide +kernel
theorem dX11_ticksWithWeight_45 : decode cX11_ticksWithWeight 45 = .ok (.istore 6, 2) := by decide +kernel
theorem dX11_ticksWithWeight_47 : decode cX11_ticksWithWeight 47 = .ok (.iload 6, 2) := by decide +kernel
theorem dX11_ticksWithWeight_49 : decode cX11_ticksWithWeight 49 = .ok (.iload_n 3, 1) := by decide +kernel
theorem dX11_ticksWithWeight_50 : decode cX11_ticksWithWeight 50 = .ok (.if_icmp .ge 27, 3) := by decide +kernel
theorem dX11_ticksWithWeight_53 : decode cX11_ticksWithWeight 53 = .ok (.aload_n 0, 1) := by decide +kernel
theorem dX11_ticksWithWeight_54 : decode cX11_ticksWithWeight 54 = .ok (.getfield 41, 3) := by decide +kernel
theorem dX11_ticksWithWeight_57 : decode cX11_ticksWithWeight 57 = .ok (.aload_n 0, 1) := by decide +kernel
theorem dX11_ticksWithWeight_58 : decode cX11_ticksWithWeight 58 = .ok (.getfield 47, 3) := by decide +kernel
theorem dX11_ticksWithWeight_61 : decode cX11_ticksWithWeight 61 = .ok (.invokevirtual 226, 3) := by decide +kernel
theorem dX11_ticksWithWeight_64 : decode cX11_ticksWithWeight 64 = .ok (.iload_n 1, 1) := by decide +kernel
theorem dX11_ticksWithWeight_65 : decode cX11_ticksWithWeight 65 = .ok (.if_icmp .ne 6, 3) := by decide +kernel
theorem dX11_ticksWithWeight_68 : decode cX11_ticksWithWeight 68 = .ok (.iinc 5 1, 3) := by decide +kernel
theorem dX11_ticksWithWeight_71 : decode cX11_ticksWithWeight 71 = .ok (.iinc 6 1, 3) := by decide +kernel
theorem dX11_ticksWithWeight_74 : decode cX11_ticksWithWeight 74 = .ok (.goto (-27), 3) := by decide +kernel
theorem dX11_ticksWithWeight_77 : decode cX11_ticksWithWeight 77 = .ok (.iload 5, 2) := by decide +kernel
theorem dX11_ticksWithWeight_79 : decode cX11_ticksWithWeight 79 = .ok (.ireturn, 1) := by decide +kernel
theorem dX11_unitBy_0 : decode cX11_unitBy 0 = .ok (.iload_n 0, 1) := by decide +kernel
theorem dX11_unitBy_1 : decode cX11_unitBy 1 = .ok (.ifCond .le 12, 3) := by decide +kernel
theorem dX11_unitBy_4 : decode cX11_unitBy 4 = .ok (.ldc2_w 357, 3) := by decide +kernel
theorem dX11_unitBy_7 : decode cX11_unitBy 7 = .ok (.iload_n 0, 1) := by decide +kernel
theorem dX11_unitBy_8 : decode cX11_unitBy 8 = .ok (.i2l, 1) := by decide +kernel
theorem dX11_unitBy_9 : decode cX11_unitBy 9 = .ok (.ldiv, 1) := by decide +kernel
theorem dX11_unitBy_10 : decode cX11_unitBy 10 = .ok (.goto 4, 3) := by decide +kernel
theorem dX11_unitBy_13 : decode cX11_unitBy 13 = .ok (.lconst 0, 1) := by decide +kernel
theorem dX11_unitBy_14 : decode cX11_unitBy 14 = .ok (.lreturn, 1) := by decide +kernel
theorem dX12_init_0 : decode cX12_init 0 = .ok (.aload_n 0, 1) := by decide +kernel
theorem dX12_init_1 : decode cX12_init 1 = .ok (.invokespecial 1, 3) := by decide +kernel
theorem dX12_init_4 : decode cX12_init 4 = .ok (.aload_n 0, 1) := by decide +kernel
theorem dX12_init_5 : decode cX12_init 5 = .ok (.bipush 7, 2) := by decide +kernel
theorem dX12_init_7 : decode cX12_init 7 = .ok (.newarray .int, 2) := by decide +kernel
theorem dX12_init_9 : decode cX12_init 9 = .ok (.putfield 7, 3) := by decide +kernel
theorem dX12_init_12 : decode cX12_init 12 = .ok (.aload_n 0, 1) := by decide +kernel
theorem dX12_init_13 : decode cX12_init 13 = .ok (.iconst 3, 1) := by decide +kernel
theorem dX12_init_14 : decode cX12_init 14 = .ok (.newarray .int, 2) := by decide +kernel
theorem dX12_init_16 : decode cX12_init 16 = .ok (.putfield 13, 3) := by decide +kernel
theorem dX12_init_19 : decode cX12_init 19 = .ok (.aload_n 0, 1) := by decide +kernel
theorem dX12_init_20 : decode cX12_init 20 = .ok (.sipush 906, 3) := by decide +kernel
theorem dX12_init_23 : decode cX12_init 23 = .ok (.newarray .long, 2) := by decide +kernel
theorem dX12_init_25 : decode cX12_init 25 = .ok (.putfield 16, 3) := by decide +kernel
theorem dX12_init_28 : decode cX12_init 28 = .ok (.aload_n 0, 1) := by decide +kernel
theorem dX12_init_29 : decode cX12_init 29 = .ok (.sipush 9060, 3) := by decide +kernel
theorem dX12_init_32 : decode cX12_init 32 = .ok (.newarray .long, 2) := by decide +kernel
theorem dX12_init_34 : decode cX12_init 34 = .ok (.putfield 20, 3) := by decide +kernel
theorem dX12_init_37 : decode cX12_init 37 = .ok (.aload_n 0, 1) := by decide +kernel
theorem dX12_init_38 : decode cX12_init 38 = .ok (.sipush 906, 3) := by decide +kernel
theorem dX12_init_41 : decode cX12_init 41 = .ok (.newarray .long, 2) := by decide +kernel
theorem dX12_init_43 : decode cX12_init 43 = .ok (.putfield 23, 3) := by decide +kernel
theorem dX12_init_46 : decode cX12_init 46 = .ok (.aload_n 0, 1) := by decide +kernel
theorem dX12_init_47 : decode cX12_init 47 = .ok (.sipush 1812, 3) := by decide +kernel
theorem dX12_init_50 : decode cX12_init 50 = .ok (.newarray .long, 2) := by decide +kernel
theorem dX12_init_52 : decode cX12_init 52 = .ok (.putfield 26, 3) := by decide +kernel
theorem dX12_init_55 : decode cX12_init 55 = .ok (.aload_n 0, 1) := by decide +kernel
theorem dX12_init_56 : decode cX12_init 56 = .ok (.iconst 2, 1) := by decide +kernel
theorem dX12_init_57 : decode cX12_init 57 = .ok (.newarray .boolean, 2) := by decide +kernel
theorem dX12_init_59 : decode cX12_init 59 = .ok (.putfield 29, 3) := by decide +kernel
theorem dX12_init_62 : decode cX12_init 62 = .ok (.aload_n 0, 1) := by decide +kernel
theorem dX12_init_63 : decode cX12_init 63 = .ok (.bipush 10, 2) := by decide +kernel
theorem dX12_init_65 : decode cX12_init 65 = .ok (.newarray .int, 2) := by decide +kernel
theorem dX12_init_67 : decode cX12_init 67 = .ok (.putfield 33, 3) := by decide +kernel
theorem dX12_init_70 : decode cX12_init 70 = .ok (.aload_n 0, 1) := by decide +kernel
theorem dX12_init_71 : decode cX12_init 71 = .ok (.sipush 200, 3) := by decide +kernel
theorem dX12_init_74 : decode cX12_init 74 = .ok (.newarray .int, 2) := by decide +kernel
theorem dX12_init_76 : decode cX12_init 76 = .ok (.putfield 36, 3) := by decide +kernel
theorem dX12_init_79 : decode cX12_init 79 = .ok (.aload_n 0, 1) := by decide +kernel
theorem dX12_init_80 : decode cX12_init 80 = .ok (.iconst (-1), 1) := by decide +kernel
theorem dX12_init_81 : decode cX12_init 81 = .ok (.putfield 39, 3) := by decide +kernel
theorem dX12_init_84 : decode cX12_init 84 = .ok (.aload_n 0, 1) := by decide +kernel
theorem dX12_init_85 : decode cX12_init 85 = .ok (.iconst 5, 1) := by decide +kernel
theorem dX12_init_86 : decode cX12_init 86 = .ok (.newarray .long, 2) := by decide +kernel
theorem dX12_init_88 : decode cX12_init 88 = .ok (.dup, 1) := by decide +kernel
theorem dX12_init_89 : decode cX12_init 89 = .ok (.iconst 0, 1) := by decide +kernel
theorem dX12_init_90 : decode cX12_init 90 = .ok (.ldc2_w 43, 3) := by decide +kernel
theorem dX12_init_93 : decode cX12_init 93 = .ok (.lastore, 1) := by decide +kernel
theorem dX12_init_94 : decode cX12_init 94 = .ok (.dup, 1) := by decide +kernel
theorem dX12_init_95 : decode cX12_init 95 = .ok (.iconst 1, 1) := by decide +kernel
theorem dX12_init_96 : decode cX12_init 96 = .ok (.ldc2_w 45, 3) := by decide +kernel
theorem dX12_init_99 : decode cX12_init 99 = .ok (.lastore, 1) := by decide +kernel
theorem dX12_init_100 : decode cX12_init 100 = .ok (.dup, 1) := by decide +kernel
theorem dX12_init_101 : decode cX12_init 101 = .ok (.iconst 2, 1) := by decide +kernel
theorem dX12_init_102 : decode cX12_init 102 = .ok (.ldc2_w 47, 3) := by decide +kernel
theorem dX12_init_105 : decode cX12_init 105 = .ok (.lastore, 1) := by decide +kernel
theorem dX12_init_106 : decode cX12_init 106 = .ok (.dup, 1) := by decide +kernel
theorem dX12_init_107 : decode cX12_init 107 = .ok (.iconst 3, 1) := by decide +kernel
theorem dX12_init_108 : decode cX12_init 108 = .ok (.ldc2_w 49, 3) := by decide +kernel
theorem dX12_init_111 : decode cX12_init 111 = .ok (.lastore, 1) := by decide +kernel
theorem dX12_init_112 : decode cX12_init 112 = .ok (.dup, 1) := by decide +kernel
theorem dX12_init_113 : decode cX12_init 113 = .ok (.iconst 4, 1) := by decide +kernel
theorem dX12_init_114 : decode cX12_init 114 = .ok (.ldc2_w 51, 3) := by decide +kernel
theorem dX12_init_117 : decode cX12_init 117 = .ok (.lastore, 1) := by decide +kernel
theorem dX12_init_118 : decode cX12_init 118 = .ok (.putfield 53, 3) := by decide +kernel
theorem dX12_init_121 : decode cX12_init 121 = .ok (.aload_n 0, 1) := by decide +kernel
theorem dX12_init_122 : decode cX12_init 122 = .ok (.iconst 5, 1) := by decide +kernel
theorem dX12_init_123 : decode cX12_init 123 = .ok (.newarray .int, 2) := by decide +kernel
theorem dX12_init_125 : decode cX12_init 125 = .ok (.dup, 1) := by decide +kernel
theorem dX12_init_126 : decode cX12_init 126 = .ok (.iconst 0, 1) := by decide +kernel
theorem dX12_init_127 : decode cX12_init 127 = .ok (.bipush 99, 2) := by decide +kernel
theorem dX12_init_129 : decode cX12_init 129 = .ok (.iastore, 1) := by decide +kernel
theorem dX12_init_130 : decode cX12_init 130 = .ok (.dup, 1) := by decide +kernel
theorem dX12_init_131 : decode cX12_init 131 = .ok (.iconst 1, 1) := by decide +kernel
theorem dX12_init_132 : decode cX12_init 132 = .ok (.bipush 99, 2) := by decide +kernel
theorem dX12_init_134 : decode cX12_init 134 = .ok (.iastore, 1) := by decide +kernel
theorem dX12_init_135 : decode cX12_init 135 = .ok (.dup, 1) := by decide +kernel
theorem dX12_init_136 : decode cX12_init 136 = .ok (.iconst 2, 1) := by decide +kernel
theorem dX12_init_137 : decode cX12_init 137 = .ok (.bipush 8, 2) := by decide +kernel
theorem dX12_init_139 : decode cX12_init 139 = .ok (.iastore, 1) := by decide +kernel
theorem dX12_init_140 : decode cX12_init 140 = .ok (.dup, 1) := by decide +kernel
theorem dX12_init_141 : decode cX12_init 141 = .ok (.iconst 3, 1) := by decide +kernel
theorem dX12_init_142 : decode cX12_init 142 = .ok (.bipush 20, 2) := by decide +kernel
theorem dX12_init_144 : decode cX12_init 144 = .ok (.iastore, 1) := by decide +kernel
theorem dX12_init_145 : decode cX12_init 145 = .ok (.dup, 1) := by decide +kernel
theorem dX12_init_146 : decode cX12_init 146 = .ok (.iconst 4, 1) := by decide +kernel
theorem dX12_init_147 : decode cX12_init 147 = .ok (.bipush 9, 2) := by decide +kernel
theorem dX12_init_149 : decode cX12_init 149 = .ok (.iastore, 1) := by decide +kernel
theorem dX12_init_150 : decode cX12_init 150 = .ok (.putfield 56, 3) := by decide +kernel
theorem dX12_init_153 : decode cX12_init 153 = .ok (.aload_n 0, 1) := by decide +kernel
theorem dX12_init_154 : decode cX12_init 154 = .ok (.bipush 8, 2) := by decide +kernel
theorem dX12_init_156 : decode cX12_init 156 = .ok (.newarray .int, 2) := by decide +kernel
theorem dX12_init_158 : decode cX12_init 158 = .ok (.putfield 59, 3) := by decide +kernel
theorem dX12_init_161 : decode cX12_init 161 = .ok (.aload_n 0, 1) := by decide +kernel
theorem dX12_init_162 : decode cX12_init 162 = .ok (.bipush 8, 2) := by decide +kernel
theorem dX12_init_164 : decode cX12_init 164 = .ok (.newarray .int, 2) := by decide +kernel
theorem dX12_init_166 : decode cX12_init 166 = .ok (.putfield 62, 3) := by decide +kernel
theorem dX12_init_169 : decode cX12_init 169 = .ok (.aload_n 0, 1) := by decide +kernel
theorem dX12_init_170 : decode cX12_init 170 = .ok (.getfield 13, 3) := by decide +kernel
theorem dX12_init_173 : decode cX12_init 173 = .ok (.iconst 1, 1) := by decide +kernel
theorem dX12_init_174 : decode cX12_init 174 = .ok (.iconst 1, 1) := by decide +kernel
theorem dX12_init_175 : decode cX12_init 175 = .ok (.iastore, 1) := by decide +kernel
theorem dX12_init_176 : decode cX12_init 176 = .ok (.aload_n 0, 1) := by decide +kernel
theorem dX12_init_177 : decode cX12_init 177 = .ok (.getfield 13, 3) := by decide +kernel
theorem dX12_init_180 : decode cX12_init 180 = .ok (.iconst 2, 1) := by decide +kernel
theorem dX12_init_181 : decode cX12_init 181 = .ok (.iconst 1, 1) := by decide +kernel
theorem dX12_init_182 : decode cX12_init 182 = .ok (.iastore, 1) := by decide +kernel
theorem dX12_init_183 : decode cX12_init 183 = .ok (.aload_n 0, 1) := by decide +kernel
theorem dX12_init_184 : decode cX12_init 184 = .ok (.getfield 16, 3) := by decide +kernel
theorem dX12_init_187 : decode cX12_init 187 = .ok (.iconst 3, 1) := by decide +kernel
theorem dX12_init_188 : decode cX12_init 188 = .ok (.ldc2_w 65, 3) := by decide +kernel
theorem dX12_init_191 : decode cX12_init 191 = .ok (.lastore, 1) := by decide +kernel
theorem dX12_init_192 : decode cX12_init 192 = .ok (.aload_n 0, 1) := by decide +kernel
theorem dX12_init_193 : decode cX12_init 193 = .ok (.getfield 16, 3) := by decide +kernel
theorem dX12_init_196 : decode cX12_init 196 = .ok (.iconst 4, 1) := by decide +kernel
theorem dX12_init_197 : decode cX12_init 197 = .ok (.ldc2_w 65, 3) := by decide +kernel
theorem dX12_init_200 : decode cX12_init 200 = .ok (.lastore, 1) := by decide +kernel
theorem dX12_init_201 : decode cX12_init 201 = .ok (.return_, 1) := by decide +kernel
theorem dX12_in_0 : decode cX12_in 0 = .ok (.lload_n 0, 1) := by decide +kernel
theorem dX12_in_1 : decode cX12_in 1 = .ok (.lload_n 2, 1) := by decide +kernel
theorem dX12_in_2 : decode cX12_in 2 = .ok (.lcmp, 1) := by decide +kernel
theorem dX12_in_3 : decode cX12_in 3 = .ok (.ifCond .lt 14, 3) := by decide +kernel
theorem dX12_in_6 : decode cX12_in 6 = .ok (.lload_n 0, 1) := by decide +kernel
theorem dX12_in_7 : decode cX12_in 7 = .ok (.lload 4, 2) := by decide +kernel
theorem dX12_in_9 : decode cX12_in 9 = .ok (.lcmp, 1) := by decide +kernel
theorem dX12_in_10 : decode cX12_in 10 = .ok (.ifCond .gt 7, 3) := by decide +kernel
theorem dX12_in_13 : decode cX12_in 13 = .ok (.iconst 1, 1) := by decide +kernel
theorem dX12_in_14 : decode cX12_in 14 = .ok (.goto 4, 3) := by decide +kernel
theorem dX12_in_17 : decode cX12_in 17 = .ok (.iconst 0, 1) := by decide +kernel
theorem dX12_in_18 : decode cX12_in 18 = .ok (.ireturn, 1) := by decide +kernel
theorem dX12_down_0 : decode cX12_down 0 = .ok (.lload_n 0, 1) := by decide +kernel
theorem dX12_down_1 : decode cX12_down 1 = .ok (.lload_n 2, 1) := by decide +kernel
theorem dX12_down_2 : decode cX12_down 2 = .ok (.ldiv, 1) := by decide +kernel
theorem dX12_down_3 : decode cX12_down 3 = .ok (.lstore 4, 2) := by decide +kernel
theorem dX12_down_5 : decode cX12_down 5 = .ok (.lload_n 0, 1) := by decide +kernel
theorem dX12_down_6 : decode cX12_down 6 = .ok (.lload_n 2, 1) := by decide +kernel
theorem dX12_down_7 : decode cX12_down 7 = .ok (.lrem, 1) := by decide +kernel
theorem dX12_down_8 : decode cX12_down 8 = .ok (.lconst 0, 1) := by decide +kernel
theorem dX12_down_9 : decode cX12_down 9 = .ok (.lcmp, 1) := by decide +kernel
theorem dX12_down_10 : decode cX12_down 10 = .ok (.ifCond .ge 10, 3) := by decide +kernel
theorem dX12_down_13 : decode cX12_down 13 = .ok (.lload 4, 2) := by decide +kernel
theorem dX12_down_15 : decode cX12_down 15 = .ok (.lconst 1, 1) := by decide +kernel
theorem dX12_down_16 : decode cX12_down 16 = .ok (.lsub, 1) := by decide +kernel
theorem dX12_down_17 : decode cX12_down 17 = .ok (.goto 5, 3) := by decide +kernel
theorem dX12_down_20 : decode cX12_down 20 = .ok (.lload 4, 2) := by decide +kernel
theorem dX12_down_22 : decode cX12_down 22 = .ok (.lreturn, 1) := by decide +kernel
theorem dX12_tell_0 : decode cX12_tell 0 = .ok (.aload_n 0, 1) := by decide +kernel
theorem dX12_tell_1 : decode cX12_tell 1 = .ok (.iconst 0, 1) := by decide +kernel

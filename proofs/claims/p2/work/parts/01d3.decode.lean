theorem dX9_set_46 : decode cX9_set 46 = .ok (.putfield 13, 3) := by decide +kernel
theorem dX9_set_49 : decode cX9_set 49 = .ok (.return_, 1) := by decide +kernel
theorem dX10_init_0 : decode cX10_init 0 = .ok (.aload_n 0, 1) := by decide +kernel
theorem dX10_init_1 : decode cX10_init 1 = .ok (.invokespecial 3, 3) := by decide +kernel
theorem dX10_init_4 : decode cX10_init 4 = .ok (.return_, 1) := by decide +kernel
theorem dX10_set_0 : decode cX10_set 0 = .ok (.aload_n 0, 1) := by decide +kernel
theorem dX10_set_1 : decode cX10_set 1 = .ok (.lload_n 1, 1) := by decide +kernel
theorem dX10_set_2 : decode cX10_set 2 = .ok (.bipush 32, 2) := by decide +kernel
theorem dX10_set_4 : decode cX10_set 4 = .ok (.lshr, 1) := by decide +kernel
theorem dX10_set_5 : decode cX10_set 5 = .ok (.putfield 9, 3) := by decide +kernel
theorem dX10_set_8 : decode cX10_set 8 = .ok (.aload_n 0, 1) := by decide +kernel
theorem dX10_set_9 : decode cX10_set 9 = .ok (.lload_n 1, 1) := by decide +kernel
theorem dX10_set_10 : decode cX10_set 10 = .ok (.ldc2_w 13, 3) := by decide +kernel
theorem dX10_set_13 : decode cX10_set 13 = .ok (.land, 1) := by decide +kernel
theorem dX10_set_14 : decode cX10_set 14 = .ok (.putfield 15, 3) := by decide +kernel
theorem dX10_set_17 : decode cX10_set 17 = .ok (.return_, 1) := by decide +kernel
theorem dX10_copy_0 : decode cX10_copy 0 = .ok (.aload_n 0, 1) := by decide +kernel
theorem dX10_copy_1 : decode cX10_copy 1 = .ok (.aload_n 1, 1) := by decide +kernel
theorem dX10_copy_2 : decode cX10_copy 2 = .ok (.getfield 9, 3) := by decide +kernel
theorem dX10_copy_5 : decode cX10_copy 5 = .ok (.putfield 9, 3) := by decide +kernel
theorem dX10_copy_8 : decode cX10_copy 8 = .ok (.aload_n 0, 1) := by decide +kernel
theorem dX10_copy_9 : decode cX10_copy 9 = .ok (.aload_n 1, 1) := by decide +kernel
theorem dX10_copy_10 : decode cX10_copy 10 = .ok (.getfield 15, 3) := by decide +kernel
theorem dX10_copy_13 : decode cX10_copy 13 = .ok (.putfield 15, 3) := by decide +kernel
theorem dX10_copy_16 : decode cX10_copy 16 = .ok (.return_, 1) := by decide +kernel
theorem dX10_addTimes_0 : decode cX10_addTimes 0 = .ok (.aload_n 0, 1) := by decide +kernel
theorem dX10_addTimes_1 : decode cX10_addTimes 1 = .ok (.getfield 15, 3) := by decide +kernel
theorem dX10_addTimes_4 : decode cX10_addTimes 4 = .ok (.lload_n 1, 1) := by decide +kernel
theorem dX10_addTimes_5 : decode cX10_addTimes 5 = .ok (.lload_n 3, 1) := by decide +kernel
theorem dX10_addTimes_6 : decode cX10_addTimes 6 = .ok (.ldc2_w 13, 3) := by decide +kernel
theorem dX10_addTimes_9 : decode cX10_addTimes 9 = .ok (.land, 1) := by decide +kernel
theorem dX10_addTimes_10 : decode cX10_addTimes 10 = .ok (.lmul, 1) := by decide +kernel
theorem dX10_addTimes_11 : decode cX10_addTimes 11 = .ok (.ladd, 1) := by decide +kernel
theorem dX10_addTimes_12 : decode cX10_addTimes 12 = .ok (.lstore 5, 2) := by decide +kernel
theorem dX10_addTimes_14 : decode cX10_addTimes 14 = .ok (.aload_n 0, 1) := by decide +kernel
theorem dX10_addTimes_15 : decode cX10_addTimes 15 = .ok (.dup, 1) := by decide +kernel
theorem dX10_addTimes_16 : decode cX10_addTimes 16 = .ok (.getfield 9, 3) := by decide +kernel
theorem dX10_addTimes_19 : decode cX10_addTimes 19 = .ok (.lload_n 1, 1) := by decide +kernel
theorem dX10_addTimes_20 : decode cX10_addTimes 20 = .ok (.lload_n 3, 1) := by decide +kernel
theorem dX10_addTimes_21 : decode cX10_addTimes 21 = .ok (.bipush 32, 2) := by decide +kernel
theorem dX10_addTimes_23 : decode cX10_addTimes 23 = .ok (.lshr, 1) := by decide +kernel
theorem dX10_addTimes_24 : decode cX10_addTimes 24 = .ok (.lmul, 1) := by decide +kernel
theorem dX10_addTimes_25 : decode cX10_addTimes 25 = .ok (.lload 5, 2) := by decide +kernel
theorem dX10_addTimes_27 : decode cX10_addTimes 27 = .ok (.bipush 32, 2) := by decide +kernel
theorem dX10_addTimes_29 : decode cX10_addTimes 29 = .ok (.lshr, 1) := by decide +kernel
theorem dX10_addTimes_30 : decode cX10_addTimes 30 = .ok (.ladd, 1) := by decide +kernel
theorem dX10_addTimes_31 : decode cX10_addTimes 31 = .ok (.ladd, 1) := by decide +kernel
theorem dX10_addTimes_32 : decode cX10_addTimes 32 = .ok (.putfield 9, 3) := by decide +kernel
theorem dX10_addTimes_35 : decode cX10_addTimes 35 = .ok (.aload_n 0, 1) := by decide +kernel
theorem dX10_addTimes_36 : decode cX10_addTimes 36 = .ok (.lload 5, 2) := by decide +kernel
theorem dX10_addTimes_38 : decode cX10_addTimes 38 = .ok (.ldc2_w 13, 3) := by decide +kernel
theorem dX10_addTimes_41 : decode cX10_addTimes 41 = .ok (.land, 1) := by decide +kernel
theorem dX10_addTimes_42 : decode cX10_addTimes 42 = .ok (.putfield 15, 3) := by decide +kernel
theorem dX10_addTimes_45 : decode cX10_addTimes 45 = .ok (.return_, 1) := by decide +kernel
theorem dX10_addTimesWide_0 : decode cX10_addTimesWide 0 = .ok (.aload_n 0, 1) := by decide +kernel
theorem dX10_addTimesWide_1 : decode cX10_addTimesWide 1 = .ok (.getfield 15, 3) := by decide +kernel
theorem dX10_addTimesWide_4 : decode cX10_addTimesWide 4 = .ok (.lload_n 1, 1) := by decide +kernel
theorem dX10_addTimesWide_5 : decode cX10_addTimesWide 5 = .ok (.aload_n 3, 1) := by decide +kernel
theorem dX10_addTimesWide_6 : decode cX10_addTimesWide 6 = .ok (.getfield 15, 3) := by decide +kernel
theorem dX10_addTimesWide_9 : decode cX10_addTimesWide 9 = .ok (.lmul, 1) := by decide +kernel
theorem dX10_addTimesWide_10 : decode cX10_addTimesWide 10 = .ok (.ladd, 1) := by decide +kernel
theorem dX10_addTimesWide_11 : decode cX10_addTimesWide 11 = .ok (.lstore 4, 2) := by decide +kernel
theorem dX10_addTimesWide_13 : decode cX10_addTimesWide 13 = .ok (.aload_n 0, 1) := by decide +kernel
theorem dX10_addTimesWide_14 : decode cX10_addTimesWide 14 = .ok (.dup, 1) := by decide +kernel
theorem dX10_addTimesWide_15 : decode cX10_addTimesWide 15 = .ok (.getfield 9, 3) := by decide +kernel
theorem dX10_addTimesWide_18 : decode cX10_addTimesWide 18 = .ok (.lload_n 1, 1) := by decide +kernel
theorem dX10_addTimesWide_19 : decode cX10_addTimesWide 19 = .ok (.aload_n 3, 1) := by decide +kernel
theorem dX10_addTimesWide_20 : decode cX10_addTimesWide 20 = .ok (.getfield 9, 3) := by decide +kernel
theorem dX10_addTimesWide_23 : decode cX10_addTimesWide 23 = .ok (.lmul, 1) := by decide +kernel
theorem dX10_addTimesWide_24 : decode cX10_addTimesWide 24 = .ok (.lload 4, 2) := by decide +kernel
theorem dX10_addTimesWide_26 : decode cX10_addTimesWide 26 = .ok (.bipush 32, 2) := by decide +kernel
theorem dX10_addTimesWide_28 : decode cX10_addTimesWide 28 = .ok (.lshr, 1) := by decide +kernel
theorem dX10_addTimesWide_29 : decode cX10_addTimesWide 29 = .ok (.ladd, 1) := by decide +kernel
theorem dX10_addTimesWide_30 : decode cX10_addTimesWide 30 = .ok (.ladd, 1) := by decide +kernel
theorem dX10_addTimesWide_31 : decode cX10_addTimesWide 31 = .ok (.putfield 9, 3) := by decide +kernel
theorem dX10_addTimesWide_34 : decode cX10_addTimesWide 34 = .ok (.aload_n 0, 1) := by decide +kernel
theorem dX10_addTimesWide_35 : decode cX10_addTimesWide 35 = .ok (.lload 4, 2) := by decide +kernel
theorem dX10_addTimesWide_37 : decode cX10_addTimesWide 37 = .ok (.ldc2_w 13, 3) := by decide +kernel
theorem dX10_addTimesWide_40 : decode cX10_addTimesWide 40 = .ok (.land, 1) := by decide +kernel
theorem dX10_addTimesWide_41 : decode cX10_addTimesWide 41 = .ok (.putfield 15, 3) := by decide +kernel
theorem dX10_addTimesWide_44 : decode cX10_addTimesWide 44 = .ok (.return_, 1) := by decide +kernel
theorem dX10_multiply_0 : decode cX10_multiply 0 = .ok (.lload_n 1, 1) := by decide +kernel
theorem dX10_multiply_1 : decode cX10_multiply 1 = .ok (.aload_n 0, 1) := by decide +kernel
theorem dX10_multiply_2 : decode cX10_multiply 2 = .ok (.getfield 15, 3) := by decide +kernel
theorem dX10_multiply_5 : decode cX10_multiply 5 = .ok (.lmul, 1) := by decide +kernel
theorem dX10_multiply_6 : decode cX10_multiply 6 = .ok (.lstore_n 3, 1) := by decide +kernel
theorem dX10_multiply_7 : decode cX10_multiply 7 = .ok (.aload_n 0, 1) := by decide +kernel
theorem dX10_multiply_8 : decode cX10_multiply 8 = .ok (.lload_n 1, 1) := by decide +kernel
theorem dX10_multiply_9 : decode cX10_multiply 9 = .ok (.aload_n 0, 1) := by decide +kernel
theorem dX10_multiply_10 : decode cX10_multiply 10 = .ok (.getfield 9, 3) := by decide +kernel
theorem dX10_multiply_13 : decode cX10_multiply 13 = .ok (.lmul, 1) := by decide +kernel
theorem dX10_multiply_14 : decode cX10_multiply 14 = .ok (.lload_n 3, 1) := by decide +kernel
theorem dX10_multiply_15 : decode cX10_multiply 15 = .ok (.bipush 32, 2) := by decide +kernel
theorem dX10_multiply_17 : decode cX10_multiply 17 = .ok (.lshr, 1) := by decide +kernel
theorem dX10_multiply_18 : decode cX10_multiply 18 = .ok (.ladd, 1) := by decide +kernel
theorem dX10_multiply_19 : decode cX10_multiply 19 = .ok (.putfield 9, 3) := by decide +kernel
theorem dX10_multiply_22 : decode cX10_multiply 22 = .ok (.aload_n 0, 1) := by decide +kernel
theorem dX10_multiply_23 : decode cX10_multiply 23 = .ok (.lload_n 3, 1) := by decide +kernel
theorem dX10_multiply_24 : decode cX10_multiply 24 = .ok (.ldc2_w 13, 3) := by decide +kernel
theorem dX10_multiply_27 : decode cX10_multiply 27 = .ok (.land, 1) := by decide +kernel
theorem dX10_multiply_28 : decode cX10_multiply 28 = .ok (.putfield 15, 3) := by decide +kernel
theorem dX10_multiply_31 : decode cX10_multiply 31 = .ok (.return_, 1) := by decide +kernel
theorem dX10_divide_0 : decode cX10_divide 0 = .ok (.lload_n 1, 1) := by decide +kernel
theorem dX10_divide_1 : decode cX10_divide 1 = .ok (.lconst 0, 1) := by decide +kernel
theorem dX10_divide_2 : decode cX10_divide 2 = .ok (.lcmp, 1) := by decide +kernel
theorem dX10_divide_3 : decode cX10_divide 3 = .ok (.ifCond .le 37, 3) := by decide +kernel
theorem dX10_divide_6 : decode cX10_divide 6 = .ok (.aload_n 0, 1) := by decide +kernel
theorem dX10_divide_7 : decode cX10_divide 7 = .ok (.aload_n 0, 1) := by decide +kernel
theorem dX10_divide_8 : decode cX10_divide 8 = .ok (.getfield 9, 3) := by decide +kernel
theorem dX10_divide_11 : decode cX10_divide 11 = .ok (.lload_n 1, 1) := by decide +kernel
theorem dX10_divide_12 : decode cX10_divide 12 = .ok (.invokestatic 18, 3) := by decide +kernel
theorem dX10_divide_15 : decode cX10_divide 15 = .ok (.bipush 32, 2) := by decide +kernel
theorem dX10_divide_17 : decode cX10_divide 17 = .ok (.lshl, 1) := by decide +kernel
theorem dX10_divide_18 : decode cX10_divide 18 = .ok (.aload_n 0, 1) := by decide +kernel
theorem dX10_divide_19 : decode cX10_divide 19 = .ok (.getfield 15, 3) := by decide +kernel
theorem dX10_divide_22 : decode cX10_divide 22 = .ok (.lor, 1) := by decide +kernel
theorem dX10_divide_23 : decode cX10_divide 23 = .ok (.lload_n 1, 1) := by decide +kernel
theorem dX10_divide_24 : decode cX10_divide 24 = .ok (.ldiv, 1) := by decide +kernel
theorem dX10_divide_25 : decode cX10_divide 25 = .ok (.putfield 15, 3) := by decide +kernel
theorem dX10_divide_28 : decode cX10_divide 28 = .ok (.aload_n 0, 1) := by decide +kernel
theorem dX10_divide_29 : decode cX10_divide 29 = .ok (.aload_n 0, 1) := by decide +kernel
theorem dX10_divide_30 : decode cX10_divide 30 = .ok (.getfield 9, 3) := by decide +kernel
theorem dX10_divide_33 : decode cX10_divide 33 = .ok (.lload_n 1, 1) := by decide +kernel
theorem dX10_divide_34 : decode cX10_divide 34 = .ok (.invokestatic 24, 3) := by decide +kernel
theorem dX10_divide_37 : decode cX10_divide 37 = .ok (.putfield 9, 3) := by decide +kernel
theorem dX10_divide_40 : decode cX10_divide 40 = .ok (.return_, 1) := by decide +kernel
theorem dX10_modulo_0 : decode cX10_modulo 0 = .ok (.lload_n 1, 1) := by decide +kernel
theorem dX10_modulo_1 : decode cX10_modulo 1 = .ok (.lconst 0, 1) := by decide +kernel
theorem dX10_modulo_2 : decode cX10_modulo 2 = .ok (.lcmp, 1) := by decide +kernel
theorem dX10_modulo_3 : decode cX10_modulo 3 = .ok (.ifCond .le 24, 3) := by decide +kernel
theorem dX10_modulo_6 : decode cX10_modulo 6 = .ok (.aload_n 0, 1) := by decide +kernel
theorem dX10_modulo_7 : decode cX10_modulo 7 = .ok (.getfield 9, 3) := by decide +kernel
theorem dX10_modulo_10 : decode cX10_modulo 10 = .ok (.lload_n 1, 1) := by decide +kernel
theorem dX10_modulo_11 : decode cX10_modulo 11 = .ok (.invokestatic 18, 3) := by decide +kernel
theorem dX10_modulo_14 : decode cX10_modulo 14 = .ok (.bipush 32, 2) := by decide +kernel
theorem dX10_modulo_16 : decode cX10_modulo 16 = .ok (.lshl, 1) := by decide +kernel
theorem dX10_modulo_17 : decode cX10_modulo 17 = .ok (.aload_n 0, 1) := by decide +kernel
theorem dX10_modulo_18 : decode cX10_modulo 18 = .ok (.getfield 15, 3) := by decide +kernel
theorem dX10_modulo_21 : decode cX10_modulo 21 = .ok (.lor, 1) := by decide +kernel
theorem dX10_modulo_22 : decode cX10_modulo 22 = .ok (.lload_n 1, 1) := by decide +kernel
theorem dX10_modulo_23 : decode cX10_modulo 23 = .ok (.lrem, 1) := by decide +kernel
theorem dX10_modulo_24 : decode cX10_modulo 24 = .ok (.goto 4, 3) := by decide +kernel
theorem dX10_modulo_27 : decode cX10_modulo 27 = .ok (.lconst 0, 1) := by decide +kernel
theorem dX10_modulo_28 : decode cX10_modulo 28 = .ok (.lreturn, 1) := by decide +kernel
theorem dX10_isAbove_0 : decode cX10_isAbove 0 = .ok (.lload_n 1, 1) := by decide +kernel
theorem dX10_isAbove_1 : decode cX10_isAbove 1 = .ok (.bipush 32, 2) := by decide +kernel
theorem dX10_isAbove_3 : decode cX10_isAbove 3 = .ok (.lshr, 1) := by decide +kernel
theorem dX10_isAbove_4 : decode cX10_isAbove 4 = .ok (.lstore_n 3, 1) := by decide +kernel
theorem dX10_isAbove_5 : decode cX10_isAbove 5 = .ok (.aload_n 0, 1) := by decide +kernel
theorem dX10_isAbove_6 : decode cX10_isAbove 6 = .ok (.getfield 9, 3) := by decide +kernel
theorem dX10_isAbove_9 : decode cX10_isAbove 9 = .ok (.lload_n 3, 1) := by decide +kernel
theorem dX10_isAbove_10 : decode cX10_isAbove 10 = .ok (.lcmp, 1) := by decide +kernel
theorem dX10_isAbove_11 : decode cX10_isAbove 11 = .ok (.ifCond .gt 25, 3) := by decide +kernel
theorem dX10_isAbove_14 : decode cX10_isAbove 14 = .ok (.aload_n 0, 1) := by decide +kernel
theorem dX10_isAbove_15 : decode cX10_isAbove 15 = .ok (.getfield 9, 3) := by decide +kernel
theorem dX10_isAbove_18 : decode cX10_isAbove 18 = .ok (.lload_n 3, 1) := by decide +kernel
theorem dX10_isAbove_19 : decode cX10_isAbove 19 = .ok (.lcmp, 1) := by decide +kernel
theorem dX10_isAbove_20 : decode cX10_isAbove 20 = .ok (.ifCond .ne 20, 3) := by decide +kernel
theorem dX10_isAbove_23 : decode cX10_isAbove 23 = .ok (.aload_n 0, 1) := by decide +kernel
theorem dX10_isAbove_24 : decode cX10_isAbove 24 = .ok (.getfield 15, 3) := by decide +kernel
theorem dX10_isAbove_27 : decode cX10_isAbove 27 = .ok (.lload_n 1, 1) := by decide +kernel
theorem dX10_isAbove_28 : decode cX10_isAbove 28 = .ok (.ldc2_w 13, 3) := by decide +kernel
theorem dX10_isAbove_31 : decode cX10_isAbove 31 = .ok (.land, 1) := by decide +kernel
theorem dX10_isAbove_32 : decode cX10_isAbove 32 = .ok (.lcmp, 1) := by decide +kernel
theorem dX10_isAbove_33 : decode cX10_isAbove 33 = .ok (.ifCond .le 7, 3) := by decide +kernel
theorem dX10_isAbove_36 : decode cX10_isAbove 36 = .ok (.iconst 1, 1) := by decide +kernel
theorem dX10_isAbove_37 : decode cX10_isAbove 37 = .ok (.goto 4, 3) := by decide +kernel
theorem dX10_isAbove_40 : decode cX10_isAbove 40 = .ok (.iconst 0, 1) := by decide +kernel
theorem dX10_isAbove_41 : decode cX10_isAbove 41 = .ok (.ireturn, 1) := by decide +kernel
theorem dX10_keepWithin_0 : decode cX10_keepWithin 0 = .ok (.aload_n 0, 1) := by decide +kernel
theorem dX10_keepWithin_1 : decode cX10_keepWithin 1 = .ok (.lload_n 1, 1) := by decide +kernel
theorem dX10_keepWithin_2 : decode cX10_keepWithin 2 = .ok (.invokevirtual 27, 3) := by decide +kernel
theorem dX10_keepWithin_5 : decode cX10_keepWithin 5 = .ok (.ifCond .eq 11, 3) := by decide +kernel
theorem dX10_keepWithin_8 : decode cX10_keepWithin 8 = .ok (.aload_n 0, 1) := by decide +kernel
theorem dX10_keepWithin_9 : decode cX10_keepWithin 9 = .ok (.lload_n 1, 1) := by decide +kernel
theorem dX10_keepWithin_10 : decode cX10_keepWithin 10 = .ok (.invokevirtual 31, 3) := by decide +kernel
theorem dX10_keepWithin_13 : decode cX10_keepWithin 13 = .ok (.goto 18, 3) := by decide +kernel
theorem dX10_keepWithin_16 : decode cX10_keepWithin 16 = .ok (.aload_n 0, 1) := by decide +kernel
theorem dX10_keepWithin_17 : decode cX10_keepWithin 17 = .ok (.lload_n 1, 1) := by decide +kernel
theorem dX10_keepWithin_18 : decode cX10_keepWithin 18 = .ok (.lneg, 1) := by decide +kernel
theorem dX10_keepWithin_19 : decode cX10_keepWithin 19 = .ok (.invokevirtual 27, 3) := by decide +kernel
theorem dX10_keepWithin_22 : decode cX10_keepWithin 22 = .ok (.ifCond .ne 9, 3) := by decide +kernel
theorem dX10_keepWithin_25 : decode cX10_keepWithin 25 = .ok (.aload_n 0, 1) := by decide +kernel
theorem dX10_keepWithin_26 : decode cX10_keepWithin 26 = .ok (.lload_n 1, 1) := by decide +kernel
theorem dX10_keepWithin_27 : decode cX10_keepWithin 27 = .ok (.lneg, 1) := by decide +kernel
theorem dX10_keepWithin_28 : decode cX10_keepWithin 28 = .ok (.invokevirtual 31, 3) := by decide +kernel
theorem dX10_keepWithin_31 : decode cX10_keepWithin 31 = .ok (.return_, 1) := by decide +kernel
theorem dX10_asLong_0 : decode cX10_asLong 0 = .ok (.aload_n 0, 1) := by decide +kernel
theorem dX10_asLong_1 : decode cX10_asLong 1 = .ok (.getfield 9, 3) := by decide +kernel
theorem dX10_asLong_4 : decode cX10_asLong 4 = .ok (.bipush 32, 2) := by decide +kernel
theorem dX10_asLong_6 : decode cX10_asLong 6 = .ok (.lshl, 1) := by decide +kernel
theorem dX10_asLong_7 : decode cX10_asLong 7 = .ok (.aload_n 0, 1) := by decide +kernel
theorem dX10_asLong_8 : decode cX10_asLong 8 = .ok (.getfield 15, 3) := by decide +kernel
theorem dX10_asLong_11 : decode cX10_asLong 11 = .ok (.lor, 1) := by decide +kernel
theorem dX10_asLong_12 : decode cX10_asLong 12 = .ok (.lreturn, 1) := by decide +kernel
theorem dX11_init_0 : decode cX11_init 0 = .ok (.aload_n 0, 1) := by decide +kernel
theorem dX11_init_1 : decode cX11_init 1 = .ok (.invokespecial 3, 3) := by decide +kernel
theorem dX11_init_4 : decode cX11_init 4 = .ok (.aload_n 0, 1) := by decide +kernel
theorem dX11_init_5 : decode cX11_init 5 = .ok (.new 9, 3) := by decide +kernel
theorem dX11_init_8 : decode cX11_init 8 = .ok (.dup, 1) := by decide +kernel
theorem dX11_init_9 : decode cX11_init 9 = .ok (.invokespecial 11, 3) := by decide +kernel
theorem dX11_init_12 : decode cX11_init 12 = .ok (.putfield 12, 3) := by decide +kernel
theorem dX11_init_15 : decode cX11_init 15 = .ok (.aload_n 0, 1) := by decide +kernel
theorem dX11_init_16 : decode cX11_init 16 = .ok (.new 18, 3) := by decide +kernel
theorem dX11_init_19 : decode cX11_init 19 = .ok (.dup, 1) := by decide +kernel
theorem dX11_init_20 : decode cX11_init 20 = .ok (.invokespecial 20, 3) := by decide +kernel
theorem dX11_init_23 : decode cX11_init 23 = .ok (.putfield 21, 3) := by decide +kernel
theorem dX11_init_26 : decode cX11_init 26 = .ok (.aload_n 0, 1) := by decide +kernel
theorem dX11_init_27 : decode cX11_init 27 = .ok (.new 25, 3) := by decide +kernel
theorem dX11_init_30 : decode cX11_init 30 = .ok (.dup, 1) := by decide +kernel
theorem dX11_init_31 : decode cX11_init 31 = .ok (.invokespecial 27, 3) := by decide +kernel
theorem dX11_init_34 : decode cX11_init 34 = .ok (.putfield 28, 3) := by decide +kernel
theorem dX11_init_37 : decode cX11_init 37 = .ok (.aload_n 0, 1) := by decide +kernel
theorem dX11_init_38 : decode cX11_init 38 = .ok (.new 32, 3) := by decide +kernel
theorem dX11_init_41 : decode cX11_init 41 = .ok (.dup, 1) := by decide +kernel
theorem dX11_init_42 : decode cX11_init 42 = .ok (.aload_n 0, 1) := by decide +kernel
theorem dX11_init_43 : decode cX11_init 43 = .ok (.getfield 12, 3) := by decide +kernel
theorem dX11_init_46 : decode cX11_init 46 = .ok (.invokespecial 34, 3) := by decide +kernel
theorem dX11_init_49 : decode cX11_init 49 = .ok (.putfield 37, 3) := by decide +kernel
theorem dX11_init_52 : decode cX11_init 52 = .ok (.aload_n 0, 1) := by decide +kernel
theorem dX11_init_53 : decode cX11_init 53 = .ok (.new 32, 3) := by decide +kernel
theorem dX11_init_56 : decode cX11_init 56 = .ok (.dup, 1) := by decide +kernel
theorem dX11_init_57 : decode cX11_init 57 = .ok (.aload_n 0, 1) := by decide +kernel
theorem dX11_init_58 : decode cX11_init 58 = .ok (.getfield 12, 3) := by decide +kernel
theorem dX11_init_61 : decode cX11_init 61 = .ok (.invokespecial 34, 3) := by decide +kernel
theorem dX11_init_64 : decode cX11_init 64 = .ok (.putfield 41, 3) := by decide +kernel
theorem dX11_init_67 : decode cX11_init 67 = .ok (.aload_n 0, 1) := by decide +kernel
theorem dX11_init_68 : decode cX11_init 68 = .ok (.new 44, 3) := by decide +kernel
theorem dX11_init_71 : decode cX11_init 71 = .ok (.dup, 1) := by decide +kernel
theorem dX11_init_72 : decode cX11_init 72 = .ok (.aload_n 0, 1) := by decide +kernel
theorem dX11_init_73 : decode cX11_init 73 = .ok (.getfield 12, 3) := by decide +kernel
theorem dX11_init_76 : decode cX11_init 76 = .ok (.invokespecial 46, 3) := by decide +kernel
theorem dX11_init_79 : decode cX11_init 79 = .ok (.putfield 47, 3) := by decide +kernel
theorem dX11_init_82 : decode cX11_init 82 = .ok (.aload_n 0, 1) := by decide +kernel
theorem dX11_init_83 : decode cX11_init 83 = .ok (.new 44, 3) := by decide +kernel
theorem dX11_init_86 : decode cX11_init 86 = .ok (.dup, 1) := by decide +kernel
theorem dX11_init_87 : decode cX11_init 87 = .ok (.aload_n 0, 1) := by decide +kernel
theorem dX11_init_88 : decode cX11_init 88 = .ok (.getfield 12, 3) := by decide +kernel
theorem dX11_init_91 : decode cX11_init 91 = .ok (.invokespecial 46, 3) := by decide +kernel
theorem dX11_init_94 : decode cX11_init 94 = .ok (.putfield 51, 3) := by decide +kernel
theorem dX11_init_97 : decode cX11_init 97 = .ok (.aload_n 0, 1) := by decide +kernel
theorem dX11_init_98 : decode cX11_init 98 = .ok (.iconst 2, 1) := by decide +kernel
theorem dX11_init_99 : decode cX11_init 99 = .ok (.anewarray 32, 3) := by decide +kernel
theorem dX11_init_102 : decode cX11_init 102 = .ok (.putfield 54, 3) := by decide +kernel
theorem dX11_init_105 : decode cX11_init 105 = .ok (.iconst 0, 1) := by decide +kernel
theorem dX11_init_106 : decode cX11_init 106 = .ok (.istore_n 1, 1) := by decide +kernel
theorem dX11_init_107 : decode cX11_init 107 = .ok (.iload_n 1, 1) := by decide +kernel
theorem dX11_init_108 : decode cX11_init 108 = .ok (.iconst 2, 1) := by decide +kernel
theorem dX11_init_109 : decode cX11_init 109 = .ok (.if_icmp .ge 26, 3) := by decide +kernel
theorem dX11_init_112 : decode cX11_init 112 = .ok (.aload_n 0, 1) := by decide +kernel
theorem dX11_init_113 : decode cX11_init 113 = .ok (.getfield 54, 3) := by decide +kernel
theorem dX11_init_116 : decode cX11_init 116 = .ok (.iload_n 1, 1) := by decide +kernel
theorem dX11_init_117 : decode cX11_init 117 = .ok (.new 32, 3) := by decide +kernel
theorem dX11_init_120 : decode cX11_init 120 = .ok (.dup, 1) := by decide +kernel
theorem dX11_init_121 : decode cX11_init 121 = .ok (.aload_n 0, 1) := by decide +kernel
theorem dX11_init_122 : decode cX11_init 122 = .ok (.getfield 12, 3) := by decide +kernel
theorem dX11_init_125 : decode cX11_init 125 = .ok (.invokespecial 34, 3) := by decide +kernel
theorem dX11_init_128 : decode cX11_init 128 = .ok (.aastore, 1) := by decide +kernel
theorem dX11_init_129 : decode cX11_init 129 = .ok (.iinc 1 1, 3) := by decide +kernel
theorem dX11_init_132 : decode cX11_init 132 = .ok (.goto (-25), 3) := by decide +kernel
theorem dX11_init_135 : decode cX11_init 135 = .ok (.aload_n 0, 1) := by decide +kernel
theorem dX11_init_136 : decode cX11_init 136 = .ok (.iconst 2, 1) := by decide +kernel
theorem dX11_init_137 : decode cX11_init 137 = .ok (.newarray .boolean, 2) := by decide +kernel
theorem dX11_init_139 : decode cX11_init 139 = .ok (.putfield 58, 3) := by decide +kernel
theorem dX11_init_142 : decode cX11_init 142 = .ok (.aload_n 0, 1) := by decide +kernel
theorem dX11_init_143 : decode cX11_init 143 = .ok (.new 62, 3) := by decide +kernel
theorem dX11_init_146 : decode cX11_init 146 = .ok (.dup, 1) := by decide +kernel
theorem dX11_init_147 : decode cX11_init 147 = .ok (.aload_n 0, 1) := by decide +kernel
theorem dX11_init_148 : decode cX11_init 148 = .ok (.getfield 12, 3) := by decide +kernel
theorem dX11_init_151 : decode cX11_init 151 = .ok (.invokespecial 64, 3) := by decide +kernel
theorem dX11_init_154 : decode cX11_init 154 = .ok (.putfield 65, 3) := by decide +kernel
theorem dX11_init_157 : decode cX11_init 157 = .ok (.aload_n 0, 1) := by decide +kernel
theorem dX11_init_158 : decode cX11_init 158 = .ok (.new 69, 3) := by decide +kernel
theorem dX11_init_161 : decode cX11_init 161 = .ok (.dup, 1) := by decide +kernel
theorem dX11_init_162 : decode cX11_init 162 = .ok (.invokespecial 71, 3) := by decide +kernel
theorem dX11_init_165 : decode cX11_init 165 = .ok (.putfield 72, 3) := by decide +kernel
theorem dX11_init_168 : decode cX11_init 168 = .ok (.aload_n 0, 1) := by decide +kernel
theorem dX11_init_169 : decode cX11_init 169 = .ok (.iconst (-1), 1) := by decide +kernel
theorem dX11_init_170 : decode cX11_init 170 = .ok (.putfield 76, 3) := by decide +kernel
theorem dX11_init_173 : decode cX11_init 173 = .ok (.return_, 1) := by decide +kernel
theorem dX11_terms_0 : decode cX11_terms 0 = .ok (.aload_n 0, 1) := by decide +kernel
theorem dX11_terms_1 : decode cX11_terms 1 = .ok (.getfield 12, 3) := by decide +kernel
theorem dX11_terms_4 : decode cX11_terms 4 = .ok (.iload_n 1, 1) := by decide +kernel
theorem dX11_terms_5 : decode cX11_terms 5 = .ok (.iload_n 2, 1) := by decide +kernel
theorem dX11_terms_6 : decode cX11_terms 6 = .ok (.invokevirtual 80, 3) := by decide +kernel
theorem dX11_terms_9 : decode cX11_terms 9 = .ok (.ifCond .ne 12, 3) := by decide +kernel
theorem dX11_terms_12 : decode cX11_terms 12 = .ok (.aload_n 0, 1) := by decide +kernel
theorem dX11_terms_13 : decode cX11_terms 13 = .ok (.getfield 72, 3) := by decide +kernel
theorem dX11_terms_16 : decode cX11_terms 16 = .ok (.iconst (-1), 1) := by decide +kernel
theorem dX11_terms_17 : decode cX11_terms 17 = .ok (.invokevirtual 84, 3) := by decide +kernel
theorem dX11_terms_20 : decode cX11_terms 20 = .ok (.ireturn, 1) := by decide +kernel
theorem dX11_terms_21 : decode cX11_terms 21 = .ok (.aload_n 0, 1) := by decide +kernel
theorem dX11_terms_22 : decode cX11_terms 22 = .ok (.getfield 12, 3) := by decide +kernel
theorem dX11_terms_25 : decode cX11_terms 25 = .ok (.iload_n 1, 1) := by decide +kernel
theorem dX11_terms_26 : decode cX11_terms 26 = .ok (.invokevirtual 88, 3) := by decide +kernel
theorem dX11_terms_29 : decode cX11_terms 29 = .ok (.istore_n 3, 1) := by decide +kernel
theorem dX11_terms_30 : decode cX11_terms 30 = .ok (.aload_n 0, 1) := by decide +kernel
theorem dX11_terms_31 : decode cX11_terms 31 = .ok (.getfield 12, 3) := by decide +kernel
theorem dX11_terms_34 : decode cX11_terms 34 = .ok (.iload_n 1, 1) := by decide +kernel
theorem dX11_terms_35 : decode cX11_terms 35 = .ok (.iload_n 2, 1) := by decide +kernel
theorem dX11_terms_36 : decode cX11_terms 36 = .ok (.invokevirtual 91, 3) := by decide +kernel
theorem dX11_terms_39 : decode cX11_terms 39 = .ok (.aload_n 0, 1) := by decide +kernel
theorem dX11_terms_40 : decode cX11_terms 40 = .ok (.getfield 72, 3) := by decide +kernel
theorem dX11_terms_43 : decode cX11_terms 43 = .ok (.iload_n 3, 1) := by decide +kernel
theorem dX11_terms_44 : decode cX11_terms 44 = .ok (.invokevirtual 95, 3) := by decide +kernel
theorem dX11_terms_47 : decode cX11_terms 47 = .ok (.ireturn, 1) := by decide +kernel
theorem dX11_feed_0 : decode cX11_feed 0 = .ok (.aload_n 0, 1) := by decide +kernel
theorem dX11_feed_1 : decode cX11_feed 1 = .ok (.getfield 21, 3) := by decide +kernel
theorem dX11_feed_4 : decode cX11_feed 4 = .ok (.invokevirtual 98, 3) := by decide +kernel
theorem dX11_feed_7 : decode cX11_feed 7 = .ok (.ifCond .ne 5, 3) := by decide +kernel
theorem dX11_feed_10 : decode cX11_feed 10 = .ok (.iconst (-1), 1) := by decide +kernel
theorem dX11_feed_11 : decode cX11_feed 11 = .ok (.ireturn, 1) := by decide +kernel
theorem dX11_feed_12 : decode cX11_feed 12 = .ok (.aload_n 0, 1) := by decide +kernel
theorem dX11_feed_13 : decode cX11_feed 13 = .ok (.getfield 21, 3) := by decide +kernel
theorem dX11_feed_16 : decode cX11_feed 16 = .ok (.iload_n 1, 1) := by decide +kernel
theorem dX11_feed_17 : decode cX11_feed 17 = .ok (.invokevirtual 102, 3) := by decide +kernel
theorem dX11_feed_20 : decode cX11_feed 20 = .ok (.aload_n 0, 1) := by decide +kernel
theorem dX11_feed_21 : decode cX11_feed 21 = .ok (.getfield 21, 3) := by decide +kernel
theorem dX11_feed_24 : decode cX11_feed 24 = .ok (.iload_n 2, 1) := by decide +kernel
theorem dX11_feed_25 : decode cX11_feed 25 = .ok (.invokevirtual 102, 3) := by decide +kernel
theorem dX11_feed_28 : decode cX11_feed 28 = .ok (.aload_n 0, 1) := by decide +kernel
theorem dX11_feed_29 : decode cX11_feed 29 = .ok (.getfield 21, 3) := by decide +kernel
theorem dX11_feed_32 : decode cX11_feed 32 = .ok (.iload_n 3, 1) := by decide +kernel
theorem dX11_feed_33 : decode cX11_feed 33 = .ok (.invokevirtual 102, 3) := by decide +kernel
theorem dX11_feed_36 : decode cX11_feed 36 = .ok (.aload_n 0, 1) := by decide +kernel
theorem dX11_feed_37 : decode cX11_feed 37 = .ok (.getfield 21, 3) := by decide +kernel
theorem dX11_feed_40 : decode cX11_feed 40 = .ok (.iload 4, 2) := by decide +kernel
theorem dX11_feed_42 : decode cX11_feed 42 = .ok (.invokevirtual 102, 3) := by decide +kernel
theorem dX11_feed_45 : decode cX11_feed 45 = .ok (.aload_n 0, 1) := by decide +kernel
theorem dX11_feed_46 : decode cX11_feed 46 = .ok (.getfield 21, 3) := by decide +kernel
theorem dX11_feed_49 : decode cX11_feed 49 = .ok (.iload 5, 2) := by decide +kernel
theorem dX11_feed_51 : decode cX11_feed 51 = .ok (.invokevirtual 102, 3) := by decide +kernel
theorem dX11_feed_54 : decode cX11_feed 54 = .ok (.aload_n 0, 1) := by decide +kernel
theorem dX11_feed_55 : decode cX11_feed 55 = .ok (.getfield 21, 3) := by decide +kernel
theorem dX11_feed_58 : decode cX11_feed 58 = .ok (.getfield 106, 3) := by decide +kernel
theorem dX11_feed_61 : decode cX11_feed 61 = .ok (.ireturn, 1) := by decide +kernel
theorem dX11_end_0 : decode cX11_end 0 = .ok (.iload_n 1, 1) := by decide +kernel
theorem dX11_end_1 : decode cX11_end 1 = .ok (.ifCond .lt 14, 3) := by decide +kernel
theorem dX11_end_4 : decode cX11_end 4 = .ok (.iload_n 1, 1) := by decide +kernel
theorem dX11_end_5 : decode cX11_end 5 = .ok (.aload_n 0, 1) := by decide +kernel
theorem dX11_end_6 : decode cX11_end 6 = .ok (.getfield 21, 3) := by decide +kernel
theorem dX11_end_9 : decode cX11_end 9 = .ok (.getfield 106, 3) := by decide +kernel
theorem dX11_end_12 : decode cX11_end 12 = .ok (.if_icmp .le 5, 3) := by decide +kernel
theorem dX11_end_15 : decode cX11_end 15 = .ok (.iconst (-1), 1) := by decide +kernel
theorem dX11_end_16 : decode cX11_end 16 = .ok (.ireturn, 1) := by decide +kernel
theorem dX11_end_17 : decode cX11_end 17 = .ok (.aload_n 0, 1) := by decide +kernel
theorem dX11_end_18 : decode cX11_end 18 = .ok (.getfield 21, 3) := by decide +kernel
theorem dX11_end_21 : decode cX11_end 21 = .ok (.iload_n 1, 1) := by decide +kernel
theorem dX11_end_22 : decode cX11_end 22 = .ok (.putfield 106, 3) := by decide +kernel
theorem dX11_end_25 : decode cX11_end 25 = .ok (.iload_n 1, 1) := by decide +kernel
theorem dX11_end_26 : decode cX11_end 26 = .ok (.ireturn, 1) := by decide +kernel
theorem dX11_tape_0 : decode cX11_tape 0 = .ok (.aload_n 0, 1) := by decide +kernel
theorem dX11_tape_1 : decode cX11_tape 1 = .ok (.getfield 21, 3) := by decide +kernel
theorem dX11_tape_4 : decode cX11_tape 4 = .ok (.iload_n 1, 1) := by decide +kernel
theorem dX11_tape_5 : decode cX11_tape 5 = .ok (.invokevirtual 109, 3) := by decide +kernel
theorem dX11_tape_8 : decode cX11_tape 8 = .ok (.ireturn, 1) := by decide +kernel
theorem dX11_task_0 : decode cX11_task 0 = .ok (.iload_n 1, 1) := by decide +kernel
theorem dX11_task_1 : decode cX11_task 1 = .ok (.invokestatic 112, 3) := by decide +kernel
theorem dX11_task_4 : decode cX11_task 4 = .ok (.ifCond .eq 10, 3) := by decide +kernel
theorem dX11_task_7 : decode cX11_task 7 = .ok (.iload_n 2, 1) := by decide +kernel
theorem dX11_task_8 : decode cX11_task 8 = .ok (.invokestatic 116, 3) := by decide +kernel
theorem dX11_task_11 : decode cX11_task 11 = .ok (.ifCond .ne 12, 3) := by decide +kernel
theorem dX11_task_14 : decode cX11_task 14 = .ok (.aload_n 0, 1) := by decide +kernel
theorem dX11_task_15 : decode cX11_task 15 = .ok (.getfield 72, 3) := by decide +kernel
theorem dX11_task_18 : decode cX11_task 18 = .ok (.iconst (-1), 1) := by decide +kernel
theorem dX11_task_19 : decode cX11_task 19 = .ok (.invokevirtual 84, 3) := by decide +kernel
theorem dX11_task_22 : decode cX11_task 22 = .ok (.ireturn, 1) := by decide +kernel
theorem dX11_task_23 : decode cX11_task 23 = .ok (.aload_n 0, 1) := by decide +kernel
theorem dX11_task_24 : decode cX11_task 24 = .ok (.getfield 37, 3) := by decide +kernel
theorem dX11_task_27 : decode cX11_task 27 = .ok (.getfield 119, 3) := by decide +kernel
theorem dX11_task_30 : decode cX11_task 30 = .ok (.bipush 12, 2) := by decide +kernel
theorem dX11_task_32 : decode cX11_task 32 = .ok (.if_icmp .lt 13, 3) := by decide +kernel
theorem dX11_task_35 : decode cX11_task 35 = .ok (.aload_n 0, 1) := by decide +kernel
theorem dX11_task_36 : decode cX11_task 36 = .ok (.getfield 72, 3) := by decide +kernel
theorem dX11_task_39 : decode cX11_task 39 = .ok (.bipush (-5), 2) := by decide +kernel
theorem dX11_task_41 : decode cX11_task 41 = .ok (.invokevirtual 84, 3) := by decide +kernel
theorem dX11_task_44 : decode cX11_task 44 = .ok (.ireturn, 1) := by decide +kernel
theorem dX11_task_45 : decode cX11_task 45 = .ok (.aload_n 0, 1) := by decide +kernel
theorem dX11_task_46 : decode cX11_task 46 = .ok (.getfield 65, 3) := by decide +kernel
theorem dX11_task_49 : decode cX11_task 49 = .ok (.aload_n 0, 1) := by decide +kernel
theorem dX11_task_50 : decode cX11_task 50 = .ok (.getfield 37, 3) := by decide +kernel
theorem dX11_task_53 : decode cX11_task 53 = .ok (.iconst 0, 1) := by decide +kernel
theorem dX11_task_54 : decode cX11_task 54 = .ok (.invokevirtual 122, 3) := by decide +kernel
theorem dX11_task_57 : decode cX11_task 57 = .ok (.aload_n 0, 1) := by decide +kernel
theorem dX11_task_58 : decode cX11_task 58 = .ok (.getfield 72, 3) := by decide +kernel
theorem dX11_task_61 : decode cX11_task 61 = .ok (.aload_n 0, 1) := by decide +kernel
theorem dX11_task_62 : decode cX11_task 62 = .ok (.getfield 37, 3) := by decide +kernel
theorem dX11_task_65 : decode cX11_task 65 = .ok (.iload_n 1, 1) := by decide +kernel
theorem dX11_task_66 : decode cX11_task 66 = .ok (.iload_n 2, 1) := by decide +kernel
theorem dX11_task_67 : decode cX11_task 67 = .ok (.invokevirtual 126, 3) := by decide +kernel
theorem dX11_task_70 : decode cX11_task 70 = .ok (.invokevirtual 95, 3) := by decide +kernel
theorem dX11_task_73 : decode cX11_task 73 = .ok (.ireturn, 1) := by decide +kernel
theorem dX11_join_0 : decode cX11_join 0 = .ok (.aload_n 0, 1) := by decide +kernel
theorem dX11_join_1 : decode cX11_join 1 = .ok (.getfield 37, 3) := by decide +kernel
theorem dX11_join_4 : decode cX11_join 4 = .ok (.iload_n 1, 1) := by decide +kernel
theorem dX11_join_5 : decode cX11_join 5 = .ok (.invokevirtual 130, 3) := by decide +kernel
theorem dX11_join_8 : decode cX11_join 8 = .ok (.ifCond .ne 13, 3) := by decide +kernel
theorem dX11_join_11 : decode cX11_join 11 = .ok (.aload_n 0, 1) := by decide +kernel
theorem dX11_join_12 : decode cX11_join 12 = .ok (.getfield 72, 3) := by decide +kernel
theorem dX11_join_15 : decode cX11_join 15 = .ok (.bipush (-2), 2) := by decide +kernel
theorem dX11_join_17 : decode cX11_join 17 = .ok (.invokevirtual 84, 3) := by decide +kernel
theorem dX11_join_20 : decode cX11_join 20 = .ok (.ireturn, 1) := by decide +kernel
theorem dX11_join_21 : decode cX11_join 21 = .ok (.aload_n 0, 1) := by decide +kernel
theorem dX11_join_22 : decode cX11_join 22 = .ok (.getfield 37, 3) := by decide +kernel
theorem dX11_join_25 : decode cX11_join 25 = .ok (.getfield 133, 3) := by decide +kernel
theorem dX11_join_28 : decode cX11_join 28 = .ok (.iload_n 1, 1) := by decide +kernel
theorem dX11_join_29 : decode cX11_join 29 = .ok (.aaload, 1) := by decide +kernel
theorem dX11_join_30 : decode cX11_join 30 = .ok (.astore_n 2, 1) := by decide +kernel
theorem dX11_join_31 : decode cX11_join 31 = .ok (.aload_n 2, 1) := by decide +kernel
theorem dX11_join_32 : decode cX11_join 32 = .ok (.getfield 137, 3) := by decide +kernel
theorem dX11_join_35 : decode cX11_join 35 = .ok (.ifCond .ne 10, 3) := by decide +kernel
theorem dX11_join_38 : decode cX11_join 38 = .ok (.aload_n 2, 1) := by decide +kernel
theorem dX11_join_39 : decode cX11_join 39 = .ok (.invokevirtual 142, 3) := by decide +kernel
theorem dX11_join_42 : decode cX11_join 42 = .ok (.ifCond .eq 13, 3) := by decide +kernel
theorem dX11_join_45 : decode cX11_join 45 = .ok (.aload_n 0, 1) := by decide +kernel
theorem dX11_join_46 : decode cX11_join 46 = .ok (.getfield 72, 3) := by decide +kernel
theorem dX11_join_49 : decode cX11_join 49 = .ok (.bipush (-4), 2) := by decide +kernel
theorem dX11_join_51 : decode cX11_join 51 = .ok (.invokevirtual 84, 3) := by decide +kernel
theorem dX11_join_54 : decode cX11_join 54 = .ok (.ireturn, 1) := by decide +kernel
theorem dX11_join_55 : decode cX11_join 55 = .ok (.aload_n 0, 1) := by decide +kernel
theorem dX11_join_56 : decode cX11_join 56 = .ok (.getfield 37, 3) := by decide +kernel
theorem dX11_join_59 : decode cX11_join 59 = .ok (.aload_n 2, 1) := by decide +kernel
theorem dX11_join_60 : decode cX11_join 60 = .ok (.getfield 145, 3) := by decide +kernel
theorem dX11_join_63 : decode cX11_join 63 = .ok (.invokevirtual 148, 3) := by decide +kernel
theorem dX11_join_66 : decode cX11_join 66 = .ok (.ifCond .ne 13, 3) := by decide +kernel
theorem dX11_join_69 : decode cX11_join 69 = .ok (.aload_n 0, 1) := by decide +kernel
theorem dX11_join_70 : decode cX11_join 70 = .ok (.getfield 72, 3) := by decide +kernel
theorem dX11_join_73 : decode cX11_join 73 = .ok (.bipush (-5), 2) := by decide +kernel
theorem dX11_join_75 : decode cX11_join 75 = .ok (.invokevirtual 84, 3) := by decide +kernel
theorem dX11_join_78 : decode cX11_join 78 = .ok (.ireturn, 1) := by decide +kernel
theorem dX11_join_79 : decode cX11_join 79 = .ok (.aload_n 0, 1) := by decide +kernel
theorem dX11_join_80 : decode cX11_join 80 = .ok (.getfield 65, 3) := by decide +kernel
theorem dX11_join_83 : decode cX11_join 83 = .ok (.aload_n 0, 1) := by decide +kernel
theorem dX11_join_84 : decode cX11_join 84 = .ok (.getfield 37, 3) := by decide +kernel
theorem dX11_join_87 : decode cX11_join 87 = .ok (.iconst 1, 1) := by decide +kernel
theorem dX11_join_88 : decode cX11_join 88 = .ok (.invokevirtual 122, 3) := by decide +kernel
theorem dX11_join_91 : decode cX11_join 91 = .ok (.aload_n 0, 1) := by decide +kernel
theorem dX11_join_92 : decode cX11_join 92 = .ok (.getfield 37, 3) := by decide +kernel
theorem dX11_join_95 : decode cX11_join 95 = .ok (.aload_n 2, 1) := by decide +kernel
theorem dX11_join_96 : decode cX11_join 96 = .ok (.invokevirtual 151, 3) := by decide +kernel
theorem dX11_join_99 : decode cX11_join 99 = .ok (.aload_n 0, 1) := by decide +kernel
theorem dX11_join_100 : decode cX11_join 100 = .ok (.getfield 72, 3) := by decide +kernel
theorem dX11_join_103 : decode cX11_join 103 = .ok (.aload_n 0, 1) := by decide +kernel
theorem dX11_join_104 : decode cX11_join 104 = .ok (.getfield 37, 3) := by decide +kernel
theorem dX11_join_107 : decode cX11_join 107 = .ok (.invokevirtual 155, 3) := by decide +kernel
theorem dX11_join_110 : decode cX11_join 110 = .ok (.invokevirtual 95, 3) := by decide +kernel
theorem dX11_join_113 : decode cX11_join 113 = .ok (.ireturn, 1) := by decide +kernel
theorem dX11_leave_0 : decode cX11_leave 0 = .ok (.aload_n 0, 1) := by decide +kernel
theorem dX11_leave_1 : decode cX11_leave 1 = .ok (.getfield 37, 3) := by decide +kernel
theorem dX11_leave_4 : decode cX11_leave 4 = .ok (.iload_n 1, 1) := by decide +kernel
theorem dX11_leave_5 : decode cX11_leave 5 = .ok (.invokevirtual 130, 3) := by decide +kernel
theorem dX11_leave_8 : decode cX11_leave 8 = .ok (.ifCond .ne 13, 3) := by decide +kernel
theorem dX11_leave_11 : decode cX11_leave 11 = .ok (.aload_n 0, 1) := by decide +kernel
theorem dX11_leave_12 : decode cX11_leave 12 = .ok (.getfield 72, 3) := by decide +kernel
theorem dX11_leave_15 : decode cX11_leave 15 = .ok (.bipush (-2), 2) := by decide +kernel
theorem dX11_leave_17 : decode cX11_leave 17 = .ok (.invokevirtual 84, 3) := by decide +kernel
theorem dX11_leave_20 : decode cX11_leave 20 = .ok (.ireturn, 1) := by decide +kernel
theorem dX11_leave_21 : decode cX11_leave 21 = .ok (.aload_n 0, 1) := by decide +kernel
theorem dX11_leave_22 : decode cX11_leave 22 = .ok (.getfield 37, 3) := by decide +kernel
theorem dX11_leave_25 : decode cX11_leave 25 = .ok (.getfield 133, 3) := by decide +kernel
theorem dX11_leave_28 : decode cX11_leave 28 = .ok (.iload_n 1, 1) := by decide +kernel
theorem dX11_leave_29 : decode cX11_leave 29 = .ok (.aaload, 1) := by decide +kernel
theorem dX11_leave_30 : decode cX11_leave 30 = .ok (.astore_n 2, 1) := by decide +kernel
theorem dX11_leave_31 : decode cX11_leave 31 = .ok (.aload_n 2, 1) := by decide +kernel
theorem dX11_leave_32 : decode cX11_leave 32 = .ok (.getfield 137, 3) := by decide +kernel
theorem dX11_leave_35 : decode cX11_leave 35 = .ok (.ifCond .ne 13, 3) := by decide +kernel
theorem dX11_leave_38 : decode cX11_leave 38 = .ok (.aload_n 0, 1) := by decide +kernel
theorem dX11_leave_39 : decode cX11_leave 39 = .ok (.getfield 72, 3) := by decide +kernel
theorem dX11_leave_42 : decode cX11_leave 42 = .ok (.bipush (-4), 2) := by decide +kernel
theorem dX11_leave_44 : decode cX11_leave 44 = .ok (.invokevirtual 84, 3) := by decide +kernel
theorem dX11_leave_47 : decode cX11_leave 47 = .ok (.ireturn, 1) := by decide +kernel
theorem dX11_leave_48 : decode cX11_leave 48 = .ok (.aload_n 0, 1) := by decide +kernel
theorem dX11_leave_49 : decode cX11_leave 49 = .ok (.getfield 65, 3) := by decide +kernel
theorem dX11_leave_52 : decode cX11_leave 52 = .ok (.aload_n 0, 1) := by decide +kernel
theorem dX11_leave_53 : decode cX11_leave 53 = .ok (.getfield 37, 3) := by decide +kernel
theorem dX11_leave_56 : decode cX11_leave 56 = .ok (.iconst 2, 1) := by decide +kernel
theorem dX11_leave_57 : decode cX11_leave 57 = .ok (.invokevirtual 122, 3) := by decide +kernel
theorem dX11_leave_60 : decode cX11_leave 60 = .ok (.aload_n 2, 1) := by decide +kernel
theorem dX11_leave_61 : decode cX11_leave 61 = .ok (.invokevirtual 159, 3) := by decide +kernel
theorem dX11_leave_64 : decode cX11_leave 64 = .ok (.ifCond .eq 12, 3) := by decide +kernel
theorem dX11_leave_67 : decode cX11_leave 67 = .ok (.aload_n 0, 1) := by decide +kernel
theorem dX11_leave_68 : decode cX11_leave 68 = .ok (.getfield 37, 3) := by decide +kernel
theorem dX11_leave_71 : decode cX11_leave 71 = .ok (.aload_n 2, 1) := by decide +kernel
theorem dX11_leave_72 : decode cX11_leave 72 = .ok (.iconst 0, 1) := by decide +kernel
theorem dX11_leave_73 : decode cX11_leave 73 = .ok (.invokevirtual 162, 3) := by decide +kernel
theorem dX11_leave_76 : decode cX11_leave 76 = .ok (.aload_n 2, 1) := by decide +kernel
theorem dX11_leave_77 : decode cX11_leave 77 = .ok (.iconst 0, 1) := by decide +kernel
theorem dX11_leave_78 : decode cX11_leave 78 = .ok (.putfield 137, 3) := by decide +kernel
theorem dX11_leave_81 : decode cX11_leave 81 = .ok (.aload_n 2, 1) := by decide +kernel
theorem dX11_leave_82 : decode cX11_leave 82 = .ok (.getfield 166, 3) := by decide +kernel
theorem dX11_leave_85 : decode cX11_leave 85 = .ok (.invokevirtual 170, 3) := by decide +kernel
theorem dX11_leave_88 : decode cX11_leave 88 = .ok (.aload_n 0, 1) := by decide +kernel
theorem dX11_leave_89 : decode cX11_leave 89 = .ok (.getfield 72, 3) := by decide +kernel
theorem dX11_leave_92 : decode cX11_leave 92 = .ok (.aload_n 0, 1) := by decide +kernel
theorem dX11_leave_93 : decode cX11_leave 93 = .ok (.getfield 37, 3) := by decide +kernel
theorem dX11_leave_96 : decode cX11_leave 96 = .ok (.invokevirtual 155, 3) := by decide +kernel
theorem dX11_leave_99 : decode cX11_leave 99 = .ok (.invokevirtual 95, 3) := by decide +kernel
theorem dX11_leave_102 : decode cX11_leave 102 = .ok (.ireturn, 1) := by decide +kernel
theorem dX11_weigh_0 : decode cX11_weigh 0 = .ok (.iload_n 2, 1) := by decide +kernel
theorem dX11_weigh_1 : decode cX11_weigh 1 = .ok (.invokestatic 112, 3) := by decide +kernel
theorem dX11_weigh_4 : decode cX11_weigh 4 = .ok (.ifCond .ne 12, 3) := by decide +kernel
theorem dX11_weigh_7 : decode cX11_weigh 7 = .ok (.aload_n 0, 1) := by decide +kernel
theorem dX11_weigh_8 : decode cX11_weigh 8 = .ok (.getfield 72, 3) := by decide +kernel
theorem dX11_weigh_11 : decode cX11_weigh 11 = .ok (.iconst (-1), 1) := by decide +kernel
theorem dX11_weigh_12 : decode cX11_weigh 12 = .ok (.invokevirtual 84, 3) := by decide +kernel
theorem dX11_weigh_15 : decode cX11_weigh 15 = .ok (.ireturn, 1) := by decide +kernel
theorem dX11_weigh_16 : decode cX11_weigh 16 = .ok (.aload_n 0, 1) := by decide +kernel
theorem dX11_weigh_17 : decode cX11_weigh 17 = .ok (.getfield 37, 3) := by decide +kernel
theorem dX11_weigh_20 : decode cX11_weigh 20 = .ok (.iload_n 1, 1) := by decide +kernel
theorem dX11_weigh_21 : decode cX11_weigh 21 = .ok (.invokevirtual 130, 3) := by decide +kernel
theorem dX11_weigh_24 : decode cX11_weigh 24 = .ok (.ifCond .ne 13, 3) := by decide +kernel
theorem dX11_weigh_27 : decode cX11_weigh 27 = .ok (.aload_n 0, 1) := by decide +kernel
theorem dX11_weigh_28 : decode cX11_weigh 28 = .ok (.getfield 72, 3) := by decide +kernel
theorem dX11_weigh_31 : decode cX11_weigh 31 = .ok (.bipush (-2), 2) := by decide +kernel
theorem dX11_weigh_33 : decode cX11_weigh 33 = .ok (.invokevirtual 84, 3) := by decide +kernel
theorem dX11_weigh_36 : decode cX11_weigh 36 = .ok (.ireturn, 1) := by decide +kernel
theorem dX11_weigh_37 : decode cX11_weigh 37 = .ok (.aload_n 0, 1) := by decide +kernel
theorem dX11_weigh_38 : decode cX11_weigh 38 = .ok (.getfield 37, 3) := by decide +kernel
theorem dX11_weigh_41 : decode cX11_weigh 41 = .ok (.getfield 133, 3) := by decide +kernel
theorem dX11_weigh_44 : decode cX11_weigh 44 = .ok (.iload_n 1, 1) := by decide +kernel
theorem dX11_weigh_45 : decode cX11_weigh 45 = .ok (.aaload, 1) := by decide +kernel
theorem dX11_weigh_46 : decode cX11_weigh 46 = .ok (.astore_n 3, 1) := by decide +kernel
theorem dX11_weigh_47 : decode cX11_weigh 47 = .ok (.aload_n 3, 1) := by decide +kernel
theorem dX11_weigh_48 : decode cX11_weigh 48 = .ok (.getfield 145, 3) := by decide +kernel
theorem dX11_weigh_51 : decode cX11_weigh 51 = .ok (.istore 4, 2) := by decide +kernel
theorem dX11_weigh_53 : decode cX11_weigh 53 = .ok (.iload 4, 2) := by decide +kernel
theorem dX11_weigh_55 : decode cX11_weigh 55 = .ok (.iload_n 2, 1) := by decide +kernel
theorem dX11_weigh_56 : decode cX11_weigh 56 = .ok (.if_icmp .ne 13, 3) := by decide +kernel
theorem dX11_weigh_59 : decode cX11_weigh 59 = .ok (.aload_n 0, 1) := by decide +kernel
theorem dX11_weigh_60 : decode cX11_weigh 60 = .ok (.getfield 72, 3) := by decide +kernel
theorem dX11_weigh_63 : decode cX11_weigh 63 = .ok (.bipush (-4), 2) := by decide +kernel
theorem dX11_weigh_65 : decode cX11_weigh 65 = .ok (.invokevirtual 84, 3) := by decide +kernel
theorem dX11_weigh_68 : decode cX11_weigh 68 = .ok (.ireturn, 1) := by decide +kernel
theorem dX11_weigh_69 : decode cX11_weigh 69 = .ok (.aload_n 0, 1) := by decide +kernel
theorem dX11_weigh_70 : decode cX11_weigh 70 = .ok (.getfield 37, 3) := by decide +kernel
theorem dX11_weigh_73 : decode cX11_weigh 73 = .ok (.aload_n 3, 1) := by decide +kernel
theorem dX11_weigh_74 : decode cX11_weigh 74 = .ok (.iload_n 2, 1) := by decide +kernel
theorem dX11_weigh_75 : decode cX11_weigh 75 = .ok (.invokevirtual 175, 3) := by decide +kernel
theorem dX11_weigh_78 : decode cX11_weigh 78 = .ok (.ifCond .ne 13, 3) := by decide +kernel
theorem dX11_weigh_81 : decode cX11_weigh 81 = .ok (.aload_n 0, 1) := by decide +kernel
theorem dX11_weigh_82 : decode cX11_weigh 82 = .ok (.getfield 72, 3) := by decide +kernel
theorem dX11_weigh_85 : decode cX11_weigh 85 = .ok (.bipush (-5), 2) := by decide +kernel
theorem dX11_weigh_87 : decode cX11_weigh 87 = .ok (.invokevirtual 84, 3) := by decide +kernel
theorem dX11_weigh_90 : decode cX11_weigh 90 = .ok (.ireturn, 1) := by decide +kernel
theorem dX11_weigh_91 : decode cX11_weigh 91 = .ok (.aload_n 0, 1) := by decide +kernel
theorem dX11_weigh_92 : decode cX11_weigh 92 = .ok (.getfield 65, 3) := by decide +kernel
theorem dX11_weigh_95 : decode cX11_weigh 95 = .ok (.aload_n 0, 1) := by decide +kernel
theorem dX11_weigh_96 : decode cX11_weigh 96 = .ok (.getfield 37, 3) := by decide +kernel
theorem dX11_weigh_99 : decode cX11_weigh 99 = .ok (.iconst 3, 1) := by decide +kernel
theorem dX11_weigh_100 : decode cX11_weigh 100 = .ok (.invokevirtual 122, 3) := by decide +kernel
theorem dX11_weigh_103 : decode cX11_weigh 103 = .ok (.aload_n 0, 1) := by decide +kernel
theorem dX11_weigh_104 : decode cX11_weigh 104 = .ok (.getfield 37, 3) := by decide +kernel
theorem dX11_weigh_107 : decode cX11_weigh 107 = .ok (.aload_n 3, 1) := by decide +kernel
theorem dX11_weigh_108 : decode cX11_weigh 108 = .ok (.iload_n 2, 1) := by decide +kernel
theorem dX11_weigh_109 : decode cX11_weigh 109 = .ok (.invokevirtual 179, 3) := by decide +kernel
theorem dX11_weigh_112 : decode cX11_weigh 112 = .ok (.aload_n 0, 1) := by decide +kernel
theorem dX11_weigh_113 : decode cX11_weigh 113 = .ok (.getfield 72, 3) := by decide +kernel
theorem dX11_weigh_116 : decode cX11_weigh 116 = .ok (.iload 4, 2) := by decide +kernel
theorem dX11_weigh_118 : decode cX11_weigh 118 = .ok (.invokevirtual 95, 3) := by decide +kernel
theorem dX11_weigh_121 : decode cX11_weigh 121 = .ok (.ireturn, 1) := by decide +kernel
theorem dX11_slice_0 : decode cX11_slice 0 = .ok (.iload_n 2, 1) := by decide +kernel
theorem dX11_slice_1 : decode cX11_slice 1 = .ok (.invokestatic 116, 3) := by decide +kernel
theorem dX11_slice_4 : decode cX11_slice 4 = .ok (.ifCond .ne 12, 3) := by decide +kernel
theorem dX11_slice_7 : decode cX11_slice 7 = .ok (.aload_n 0, 1) := by decide +kernel
theorem dX11_slice_8 : decode cX11_slice 8 = .ok (.getfield 72, 3) := by decide +kernel
theorem dX11_slice_11 : decode cX11_slice 11 = .ok (.iconst (-1), 1) := by decide +kernel
theorem dX11_slice_12 : decode cX11_slice 12 = .ok (.invokevirtual 84, 3) := by decide +kernel
theorem dX11_slice_15 : decode cX11_slice 15 = .ok (.ireturn, 1) := by decide +kernel
theorem dX11_slice_16 : decode cX11_slice 16 = .ok (.aload_n 0, 1) := by decide +kernel
theorem dX11_slice_17 : decode cX11_slice 17 = .ok (.getfield 37, 3) := by decide +kernel
theorem dX11_slice_20 : decode cX11_slice 20 = .ok (.iload_n 1, 1) := by decide +kernel
theorem dX11_slice_21 : decode cX11_slice 21 = .ok (.invokevirtual 130, 3) := by decide +kernel
theorem dX11_slice_24 : decode cX11_slice 24 = .ok (.ifCond .ne 13, 3) := by decide +kernel
theorem dX11_slice_27 : decode cX11_slice 27 = .ok (.aload_n 0, 1) := by decide +kernel
theorem dX11_slice_28 : decode cX11_slice 28 = .ok (.getfield 72, 3) := by decide +kernel
theorem dX11_slice_31 : decode cX11_slice 31 = .ok (.bipush (-2), 2) := by decide +kernel
theorem dX11_slice_33 : decode cX11_slice 33 = .ok (.invokevirtual 84, 3) := by decide +kernel
theorem dX11_slice_36 : decode cX11_slice 36 = .ok (.ireturn, 1) := by decide +kernel
theorem dX11_slice_37 : decode cX11_slice 37 = .ok (.aload_n 0, 1) := by decide +kernel
theorem dX11_slice_38 : decode cX11_slice 38 = .ok (.getfield 37, 3) := by decide +kernel
theorem dX11_slice_41 : decode cX11_slice 41 = .ok (.getfield 133, 3) := by decide +kernel
theorem dX11_slice_44 : decode cX11_slice 44 = .ok (.iload_n 1, 1) := by decide +kernel
theorem dX11_slice_45 : decode cX11_slice 45 = .ok (.aaload, 1) := by decide +kernel
theorem dX11_slice_46 : decode cX11_slice 46 = .ok (.astore_n 3, 1) := by decide +kernel
theorem dX11_slice_47 : decode cX11_slice 47 = .ok (.aload_n 3, 1) := by decide +kernel
theorem dX11_slice_48 : decode cX11_slice 48 = .ok (.getfield 182, 3) := by decide +kernel
theorem dX11_slice_51 : decode cX11_slice 51 = .ok (.istore 4, 2) := by decide +kernel
theorem dX11_slice_53 : decode cX11_slice 53 = .ok (.iload 4, 2) := by decide +kernel
theorem dX11_slice_55 : decode cX11_slice 55 = .ok (.iload_n 2, 1) := by decide +kernel
theorem dX11_slice_56 : decode cX11_slice 56 = .ok (.if_icmp .ne 13, 3) := by decide +kernel
theorem dX11_slice_59 : decode cX11_slice 59 = .ok (.aload_n 0, 1) := by decide +kernel
theorem dX11_slice_60 : decode cX11_slice 60 = .ok (.getfield 72, 3) := by decide +kernel
theorem dX11_slice_63 : decode cX11_slice 63 = .ok (.bipush (-4), 2) := by decide +kernel
theorem dX11_slice_65 : decode cX11_slice 65 = .ok (.invokevirtual 84, 3) := by decide +kernel
theorem dX11_slice_68 : decode cX11_slice 68 = .ok (.ireturn, 1) := by decide +kernel
theorem dX11_slice_69 : decode cX11_slice 69 = .ok (.aload_n 0, 1) := by decide +kernel
theorem dX11_slice_70 : decode cX11_slice 70 = .ok (.getfield 65, 3) := by decide +kernel
theorem dX11_slice_73 : decode cX11_slice 73 = .ok (.aload_n 0, 1) := by decide +kernel
theorem dX11_slice_74 : decode cX11_slice 74 = .ok (.getfield 37, 3) := by decide +kernel
theorem dX11_slice_77 : decode cX11_slice 77 = .ok (.iconst 4, 1) := by decide +kernel
theorem dX11_slice_78 : decode cX11_slice 78 = .ok (.invokevirtual 122, 3) := by decide +kernel
theorem dX11_slice_81 : decode cX11_slice 81 = .ok (.aload_n 3, 1) := by decide +kernel
theorem dX11_slice_82 : decode cX11_slice 82 = .ok (.iload_n 2, 1) := by decide +kernel
theorem dX11_slice_83 : decode cX11_slice 83 = .ok (.invokevirtual 185, 3) := by decide +kernel
theorem dX11_slice_86 : decode cX11_slice 86 = .ok (.aload_n 0, 1) := by decide +kernel
theorem dX11_slice_87 : decode cX11_slice 87 = .ok (.getfield 72, 3) := by decide +kernel
theorem dX11_slice_90 : decode cX11_slice 90 = .ok (.iload 4, 2) := by decide +kernel
theorem dX11_slice_92 : decode cX11_slice 92 = .ok (.invokevirtual 95, 3) := by decide +kernel
theorem dX11_slice_95 : decode cX11_slice 95 = .ok (.ireturn, 1) := by decide +kernel
theorem dX11_wish_0 : decode cX11_wish 0 = .ok (.iload_n 2, 1) := by decide +kernel
theorem dX11_wish_1 : decode cX11_wish 1 = .ok (.iconst 1, 1) := by decide +kernel
theorem dX11_wish_2 : decode cX11_wish 2 = .ok (.if_icmp .lt 9, 3) := by decide +kernel
theorem dX11_wish_5 : decode cX11_wish 5 = .ok (.iload_n 2, 1) := by decide +kernel
theorem dX11_wish_6 : decode cX11_wish 6 = .ok (.bipush 99, 2) := by decide +kernel
theorem dX11_wish_8 : decode cX11_wish 8 = .ok (.if_icmp .le 12, 3) := by decide +kernel
theorem dX11_wish_11 : decode cX11_wish 11 = .ok (.aload_n 0, 1) := by decide +kernel
theorem dX11_wish_12 : decode cX11_wish 12 = .ok (.getfield 72, 3) := by decide +kernel
theorem dX11_wish_15 : decode cX11_wish 15 = .ok (.iconst (-1), 1) := by decide +kernel
theorem dX11_wish_16 : decode cX11_wish 16 = .ok (.invokevirtual 84, 3) := by decide +kernel
theorem dX11_wish_19 : decode cX11_wish 19 = .ok (.ireturn, 1) := by decide +kernel
theorem dX11_wish_20 : decode cX11_wish 20 = .ok (.aload_n 0, 1) := by decide +kernel
theorem dX11_wish_21 : decode cX11_wish 21 = .ok (.getfield 37, 3) := by decide +kernel
theorem dX11_wish_24 : decode cX11_wish 24 = .ok (.iload_n 1, 1) := by decide +kernel
theorem dX11_wish_25 : decode cX11_wish 25 = .ok (.invokevirtual 130, 3) := by decide +kernel
theorem dX11_wish_28 : decode cX11_wish 28 = .ok (.ifCond .ne 13, 3) := by decide +kernel
theorem dX11_wish_31 : decode cX11_wish 31 = .ok (.aload_n 0, 1) := by decide +kernel
theorem dX11_wish_32 : decode cX11_wish 32 = .ok (.getfield 72, 3) := by decide +kernel
theorem dX11_wish_35 : decode cX11_wish 35 = .ok (.bipush (-2), 2) := by decide +kernel
theorem dX11_wish_37 : decode cX11_wish 37 = .ok (.invokevirtual 84, 3) := by decide +kernel
theorem dX11_wish_40 : decode cX11_wish 40 = .ok (.ireturn, 1) := by decide +kernel
theorem dX11_wish_41 : decode cX11_wish 41 = .ok (.aload_n 0, 1) := by decide +kernel
theorem dX11_wish_42 : decode cX11_wish 42 = .ok (.getfield 65, 3) := by decide +kernel
theorem dX11_wish_45 : decode cX11_wish 45 = .ok (.aload_n 0, 1) := by decide +kernel
theorem dX11_wish_46 : decode cX11_wish 46 = .ok (.getfield 37, 3) := by decide +kernel
theorem dX11_wish_49 : decode cX11_wish 49 = .ok (.bipush 7, 2) := by decide +kernel
theorem dX11_wish_51 : decode cX11_wish 51 = .ok (.invokevirtual 122, 3) := by decide +kernel
theorem dX11_wish_54 : decode cX11_wish 54 = .ok (.aload_n 0, 1) := by decide +kernel
theorem dX11_wish_55 : decode cX11_wish 55 = .ok (.getfield 37, 3) := by decide +kernel
theorem dX11_wish_58 : decode cX11_wish 58 = .ok (.getfield 133, 3) := by decide +kernel
theorem dX11_wish_61 : decode cX11_wish 61 = .ok (.iload_n 1, 1) := by decide +kernel
theorem dX11_wish_62 : decode cX11_wish 62 = .ok (.aaload, 1) := by decide +kernel
theorem dX11_wish_63 : decode cX11_wish 63 = .ok (.astore_n 3, 1) := by decide +kernel
theorem dX11_wish_64 : decode cX11_wish 64 = .ok (.aload_n 3, 1) := by decide +kernel
theorem dX11_wish_65 : decode cX11_wish 65 = .ok (.aload_n 0, 1) := by decide +kernel
theorem dX11_wish_66 : decode cX11_wish 66 = .ok (.getfield 37, 3) := by decide +kernel
theorem dX11_wish_69 : decode cX11_wish 69 = .ok (.aload_n 3, 1) := by decide +kernel
theorem dX11_wish_70 : decode cX11_wish 70 = .ok (.iload_n 2, 1) := by decide +kernel
theorem dX11_wish_71 : decode cX11_wish 71 = .ok (.invokevirtual 188, 3) := by decide +kernel
theorem dX11_wish_74 : decode cX11_wish 74 = .ok (.invokevirtual 185, 3) := by decide +kernel
theorem dX11_wish_77 : decode cX11_wish 77 = .ok (.aload_n 0, 1) := by decide +kernel
theorem dX11_wish_78 : decode cX11_wish 78 = .ok (.getfield 72, 3) := by decide +kernel
theorem dX11_wish_81 : decode cX11_wish 81 = .ok (.aload_n 3, 1) := by decide +kernel
theorem dX11_wish_82 : decode cX11_wish 82 = .ok (.getfield 182, 3) := by decide +kernel
theorem dX11_wish_85 : decode cX11_wish 85 = .ok (.invokevirtual 95, 3) := by decide +kernel
theorem dX11_wish_88 : decode cX11_wish 88 = .ok (.ireturn, 1) := by decide +kernel
theorem dX11_yields_0 : decode cX11_yields 0 = .ok (.aload_n 0, 1) := by decide +kernel
theorem dX11_yields_1 : decode cX11_yields 1 = .ok (.getfield 37, 3) := by decide +kernel
theorem dX11_yields_4 : decode cX11_yields 4 = .ok (.iload_n 1, 1) := by decide +kernel
theorem dX11_yields_5 : decode cX11_yields 5 = .ok (.invokevirtual 130, 3) := by decide +kernel
theorem dX11_yields_8 : decode cX11_yields 8 = .ok (.ifCond .ne 13, 3) := by decide +kernel
theorem dX11_yields_11 : decode cX11_yields 11 = .ok (.aload_n 0, 1) := by decide +kernel
theorem dX11_yields_12 : decode cX11_yields 12 = .ok (.getfield 72, 3) := by decide +kernel
theorem dX11_yields_15 : decode cX11_yields 15 = .ok (.bipush (-2), 2) := by decide +kernel
theorem dX11_yields_17 : decode cX11_yields 17 = .ok (.invokevirtual 84, 3) := by decide +kernel
theorem dX11_yields_20 : decode cX11_yields 20 = .ok (.ireturn, 1) := by decide +kernel
theorem dX11_yields_21 : decode cX11_yields 21 = .ok (.aload_n 0, 1) := by decide +kernel
theorem dX11_yields_22 : decode cX11_yields 22 = .ok (.getfield 37, 3) := by decide +kernel
theorem dX11_yields_25 : decode cX11_yields 25 = .ok (.getfield 133, 3) := by decide +kernel
theorem dX11_yields_28 : decode cX11_yields 28 = .ok (.iload_n 1, 1) := by decide +kernel
theorem dX11_yields_29 : decode cX11_yields 29 = .ok (.aaload, 1) := by decide +kernel
theorem dX11_yields_30 : decode cX11_yields 30 = .ok (.astore_n 2, 1) := by decide +kernel
theorem dX11_yields_31 : decode cX11_yields 31 = .ok (.aload_n 2, 1) := by decide +kernel
theorem dX11_yields_32 : decode cX11_yields 32 = .ok (.invokevirtual 159, 3) := by decide +kernel
theorem dX11_yields_35 : decode cX11_yields 35 = .ok (.ifCond .ne 13, 3) := by decide +kernel
theorem dX11_yields_38 : decode cX11_yields 38 = .ok (.aload_n 0, 1) := by decide +kernel
theorem dX11_yields_39 : decode cX11_yields 39 = .ok (.getfield 72, 3) := by decide +kernel
theorem dX11_yields_42 : decode cX11_yields 42 = .ok (.bipush (-4), 2) := by decide +kernel
theorem dX11_yields_44 : decode cX11_yields 44 = .ok (.invokevirtual 84, 3) := by decide +kernel
theorem dX11_yields_47 : decode cX11_yields 47 = .ok (.ireturn, 1) := by decide +kernel
theorem dX11_yields_48 : decode cX11_yields 48 = .ok (.aload_n 0, 1) := by decide +kernel
theorem dX11_yields_49 : decode cX11_yields 49 = .ok (.getfield 65, 3) := by decide +kernel
theorem dX11_yields_52 : decode cX11_yields 52 = .ok (.aload_n 0, 1) := by decide +kernel
theorem dX11_yields_53 : decode cX11_yields 53 = .ok (.getfield 37, 3) := by decide +kernel
theorem dX11_yields_56 : decode cX11_yields 56 = .ok (.bipush 8, 2) := by decide +kernel
theorem dX11_yields_58 : decode cX11_yields 58 = .ok (.invokevirtual 122, 3) := by decide +kernel
theorem dX11_yields_61 : decode cX11_yields 61 = .ok (.aload_n 2, 1) := by decide +kernel
theorem dX11_yields_62 : decode cX11_yields 62 = .ok (.getfield 192, 3) := by decide +kernel
theorem dX11_yields_65 : decode cX11_yields 65 = .ok (.istore_n 3, 1) := by decide +kernel
theorem dX11_yields_66 : decode cX11_yields 66 = .ok (.aload_n 0, 1) := by decide +kernel
theorem dX11_yields_67 : decode cX11_yields 67 = .ok (.getfield 37, 3) := by decide +kernel
theorem dX11_yields_70 : decode cX11_yields 70 = .ok (.aload_n 2, 1) := by decide +kernel
theorem dX11_yields_71 : decode cX11_yields 71 = .ok (.invokevirtual 195, 3) := by decide +kernel
theorem dX11_yields_74 : decode cX11_yields 74 = .ok (.aload_n 0, 1) := by decide +kernel
theorem dX11_yields_75 : decode cX11_yields 75 = .ok (.getfield 72, 3) := by decide +kernel
theorem dX11_yields_78 : decode cX11_yields 78 = .ok (.iload_n 3, 1) := by decide +kernel
theorem dX11_yields_79 : decode cX11_yields 79 = .ok (.invokevirtual 95, 3) := by decide +kernel
theorem dX11_yields_82 : decode cX11_yields 82 = .ok (.ireturn, 1) := by decide +kernel
theorem dX11_quota_0 : decode cX11_quota 0 = .ok (.iload_n 2, 1) := by decide +kernel
theorem dX11_quota_1 : decode cX11_quota 1 = .ok (.ifCond .lt 24, 3) := by decide +kernel
theorem dX11_quota_4 : decode cX11_quota 4 = .ok (.iload_n 2, 1) := by decide +kernel
theorem dX11_quota_5 : decode cX11_quota 5 = .ok (.bipush 50, 2) := by decide +kernel
theorem dX11_quota_7 : decode cX11_quota 7 = .ok (.if_icmp .gt 18, 3) := by decide +kernel
theorem dX11_quota_10 : decode cX11_quota 10 = .ok (.iload_n 2, 1) := by decide +kernel
theorem dX11_quota_11 : decode cX11_quota 11 = .ok (.ifCond .le 23, 3) := by decide +kernel
theorem dX11_quota_14 : decode cX11_quota 14 = .ok (.iload_n 3, 1) := by decide +kernel
theorem dX11_quota_15 : decode cX11_quota 15 = .ok (.iload_n 2, 1) := by decide +kernel
theorem dX11_quota_16 : decode cX11_quota 16 = .ok (.if_icmp .le 9, 3) := by decide +kernel
theorem dX11_quota_19 : decode cX11_quota 19 = .ok (.iload_n 3, 1) := by decide +kernel
theorem dX11_quota_20 : decode cX11_quota 20 = .ok (.bipush 60, 2) := by decide +kernel
theorem dX11_quota_22 : decode cX11_quota 22 = .ok (.if_icmp .le 12, 3) := by decide +kernel
theorem dX11_quota_25 : decode cX11_quota 25 = .ok (.aload_n 0, 1) := by decide +kernel
theorem dX11_quota_26 : decode cX11_quota 26 = .ok (.getfield 72, 3) := by decide +kernel
theorem dX11_quota_29 : decode cX11_quota 29 = .ok (.iconst (-1), 1) := by decide +kernel
theorem dX11_quota_30 : decode cX11_quota 30 = .ok (.invokevirtual 84, 3) := by decide +kernel
theorem dX11_quota_33 : decode cX11_quota 33 = .ok (.ireturn, 1) := by decide +kernel
theorem dX11_quota_34 : decode cX11_quota 34 = .ok (.aload_n 0, 1) := by decide +kernel
theorem dX11_quota_35 : decode cX11_quota 35 = .ok (.getfield 37, 3) := by decide +kernel
theorem dX11_quota_38 : decode cX11_quota 38 = .ok (.iload_n 1, 1) := by decide +kernel
theorem dX11_quota_39 : decode cX11_quota 39 = .ok (.invokevirtual 130, 3) := by decide +kernel
theorem dX11_quota_42 : decode cX11_quota 42 = .ok (.ifCond .ne 13, 3) := by decide +kernel
theorem dX11_quota_45 : decode cX11_quota 45 = .ok (.aload_n 0, 1) := by decide +kernel
theorem dX11_quota_46 : decode cX11_quota 46 = .ok (.getfield 72, 3) := by decide +kernel
theorem dX11_quota_49 : decode cX11_quota 49 = .ok (.bipush (-2), 2) := by decide +kernel
theorem dX11_quota_51 : decode cX11_quota 51 = .ok (.invokevirtual 84, 3) := by decide +kernel
theorem dX11_quota_54 : decode cX11_quota 54 = .ok (.ireturn, 1) := by decide +kernel
theorem dX11_quota_55 : decode cX11_quota 55 = .ok (.aload_n 0, 1) := by decide +kernel
theorem dX11_quota_56 : decode cX11_quota 56 = .ok (.getfield 65, 3) := by decide +kernel
theorem dX11_quota_59 : decode cX11_quota 59 = .ok (.aload_n 0, 1) := by decide +kernel
theorem dX11_quota_60 : decode cX11_quota 60 = .ok (.getfield 37, 3) := by decide +kernel
theorem dX11_quota_63 : decode cX11_quota 63 = .ok (.bipush 9, 2) := by decide +kernel
theorem dX11_quota_65 : decode cX11_quota 65 = .ok (.invokevirtual 122, 3) := by decide +kernel
theorem dX11_quota_68 : decode cX11_quota 68 = .ok (.aload_n 0, 1) := by decide +kernel
theorem dX11_quota_69 : decode cX11_quota 69 = .ok (.getfield 37, 3) := by decide +kernel
theorem dX11_quota_72 : decode cX11_quota 72 = .ok (.getfield 133, 3) := by decide +kernel
theorem dX11_quota_75 : decode cX11_quota 75 = .ok (.iload_n 1, 1) := by decide +kernel
theorem dX11_quota_76 : decode cX11_quota 76 = .ok (.aaload, 1) := by decide +kernel
theorem dX11_quota_77 : decode cX11_quota 77 = .ok (.astore 4, 2) := by decide +kernel
theorem dX11_quota_79 : decode cX11_quota 79 = .ok (.aload 4, 2) := by decide +kernel
theorem dX11_quota_81 : decode cX11_quota 81 = .ok (.getfield 198, 3) := by decide +kernel
theorem dX11_quota_84 : decode cX11_quota 84 = .ok (.istore 5, 2) := by decide +kernel
theorem dX11_quota_86 : decode cX11_quota 86 = .ok (.aload 4, 2) := by decide +kernel
theorem dX11_quota_88 : decode cX11_quota 88 = .ok (.iload_n 2, 1) := by decide +kernel
theorem dX11_quota_89 : decode cX11_quota 89 = .ok (.iload_n 3, 1) := by decide +kernel
theorem dX11_quota_90 : decode cX11_quota 90 = .ok (.invokevirtual 201, 3) := by decide +kernel
theorem dX11_quota_93 : decode cX11_quota 93 = .ok (.aload_n 0, 1) := by decide +kernel
theorem dX11_quota_94 : decode cX11_quota 94 = .ok (.getfield 72, 3) := by decide +kernel
theorem dX11_quota_97 : decode cX11_quota 97 = .ok (.iload 5, 2) := by decide +kernel
theorem dX11_quota_99 : decode cX11_quota 99 = .ok (.invokevirtual 95, 3) := by decide +kernel
theorem dX11_quota_102 : decode cX11_quota 102 = .ok (.ireturn, 1) := by decide +kernel
theorem dX11_script_0 : decode cX11_script 0 = .ok (.aload_n 0, 1) := by decide +kernel
theorem dX11_script_1 : decode cX11_script 1 = .ok (.getfield 37, 3) := by decide +kernel
theorem dX11_script_4 : decode cX11_script 4 = .ok (.iload_n 1, 1) := by decide +kernel
theorem dX11_script_5 : decode cX11_script 5 = .ok (.invokevirtual 130, 3) := by decide +kernel
theorem dX11_script_8 : decode cX11_script 8 = .ok (.ifCond .ne 13, 3) := by decide +kernel
theorem dX11_script_11 : decode cX11_script 11 = .ok (.aload_n 0, 1) := by decide +kernel
theorem dX11_script_12 : decode cX11_script 12 = .ok (.getfield 72, 3) := by decide +kernel
theorem dX11_script_15 : decode cX11_script 15 = .ok (.bipush (-2), 2) := by decide +kernel
theorem dX11_script_17 : decode cX11_script 17 = .ok (.invokevirtual 84, 3) := by decide +kernel
theorem dX11_script_20 : decode cX11_script 20 = .ok (.ireturn, 1) := by decide +kernel
theorem dX11_script_21 : decode cX11_script 21 = .ok (.aload_n 0, 1) := by decide +kernel
theorem dX11_script_22 : decode cX11_script 22 = .ok (.getfield 37, 3) := by decide +kernel
theorem dX11_script_25 : decode cX11_script 25 = .ok (.getfield 133, 3) := by decide +kernel
theorem dX11_script_28 : decode cX11_script 28 = .ok (.iload_n 1, 1) := by decide +kernel
theorem dX11_script_29 : decode cX11_script 29 = .ok (.aaload, 1) := by decide +kernel
theorem dX11_script_30 : decode cX11_script 30 = .ok (.astore_n 2, 1) := by decide +kernel
theorem dX11_script_31 : decode cX11_script 31 = .ok (.aload_n 2, 1) := by decide +kernel
theorem dX11_script_32 : decode cX11_script 32 = .ok (.getfield 137, 3) := by decide +kernel
theorem dX11_script_35 : decode cX11_script 35 = .ok (.ifCond .ne 7, 3) := by decide +kernel
theorem dX11_script_38 : decode cX11_script 38 = .ok (.iconst 1, 1) := by decide +kernel
theorem dX11_script_39 : decode cX11_script 39 = .ok (.goto 4, 3) := by decide +kernel
theorem dX11_script_42 : decode cX11_script 42 = .ok (.iconst 0, 1) := by decide +kernel
theorem dX11_script_43 : decode cX11_script 43 = .ok (.istore_n 3, 1) := by decide +kernel
theorem dX11_script_44 : decode cX11_script 44 = .ok (.iload_n 3, 1) := by decide +kernel
theorem dX11_script_45 : decode cX11_script 45 = .ok (.ifCond .ne 10, 3) := by decide +kernel
theorem dX11_script_48 : decode cX11_script 48 = .ok (.aload_n 2, 1) := by decide +kernel
theorem dX11_script_49 : decode cX11_script 49 = .ok (.invokevirtual 159, 3) := by decide +kernel
theorem dX11_script_52 : decode cX11_script 52 = .ok (.ifCond .eq 14, 3) := by decide +kernel
theorem dX11_script_55 : decode cX11_script 55 = .ok (.iload_n 3, 1) := by decide +kernel
theorem dX11_script_56 : decode cX11_script 56 = .ok (.ifCond .eq 20, 3) := by decide +kernel
theorem dX11_script_59 : decode cX11_script 59 = .ok (.aload_n 2, 1) := by decide +kernel
theorem dX11_script_60 : decode cX11_script 60 = .ok (.invokevirtual 142, 3) := by decide +kernel
theorem dX11_script_63 : decode cX11_script 63 = .ok (.ifCond .eq 13, 3) := by decide +kernel
theorem dX11_script_66 : decode cX11_script 66 = .ok (.aload_n 0, 1) := by decide +kernel
theorem dX11_script_67 : decode cX11_script 67 = .ok (.getfield 72, 3) := by decide +kernel
theorem dX11_script_70 : decode cX11_script 70 = .ok (.bipush (-4), 2) := by decide +kernel
theorem dX11_script_72 : decode cX11_script 72 = .ok (.invokevirtual 84, 3) := by decide +kernel
theorem dX11_script_75 : decode cX11_script 75 = .ok (.ireturn, 1) := by decide +kernel
theorem dX11_script_76 : decode cX11_script 76 = .ok (.iload_n 3, 1) := by decide +kernel
theorem dX11_script_77 : decode cX11_script 77 = .ok (.ifCond .eq 27, 3) := by decide +kernel
theorem dX11_script_80 : decode cX11_script 80 = .ok (.aload_n 0, 1) := by decide +kernel
theorem dX11_script_81 : decode cX11_script 81 = .ok (.getfield 37, 3) := by decide +kernel
theorem dX11_script_84 : decode cX11_script 84 = .ok (.aload_n 2, 1) := by decide +kernel
theorem dX11_script_85 : decode cX11_script 85 = .ok (.getfield 145, 3) := by decide +kernel
theorem dX11_script_88 : decode cX11_script 88 = .ok (.invokevirtual 148, 3) := by decide +kernel
theorem dX11_script_91 : decode cX11_script 91 = .ok (.ifCond .ne 13, 3) := by decide +kernel
theorem dX11_script_94 : decode cX11_script 94 = .ok (.aload_n 0, 1) := by decide +kernel
theorem dX11_script_95 : decode cX11_script 95 = .ok (.getfield 72, 3) := by decide +kernel
theorem dX11_script_98 : decode cX11_script 98 = .ok (.bipush (-5), 2) := by decide +kernel
theorem dX11_script_100 : decode cX11_script 100 = .ok (.invokevirtual 84, 3) := by decide +kernel
theorem dX11_script_103 : decode cX11_script 103 = .ok (.ireturn, 1) := by decide +kernel
theorem dX11_script_104 : decode cX11_script 104 = .ok (.aload_n 0, 1) := by decide +kernel
theorem dX11_script_105 : decode cX11_script 105 = .ok (.aload_n 0, 1) := by decide +kernel
theorem dX11_script_106 : decode cX11_script 106 = .ok (.getfield 28, 3) := by decide +kernel
theorem dX11_script_109 : decode cX11_script 109 = .ok (.aload_n 0, 1) := by decide +kernel
theorem dX11_script_110 : decode cX11_script 110 = .ok (.getfield 21, 3) := by decide +kernel
theorem dX11_script_113 : decode cX11_script 113 = .ok (.invokevirtual 204, 3) := by decide +kernel
theorem dX11_script_116 : decode cX11_script 116 = .ok (.putfield 76, 3) := by decide +kernel
theorem dX11_script_119 : decode cX11_script 119 = .ok (.aload_n 0, 1) := by decide +kernel
theorem dX11_script_120 : decode cX11_script 120 = .ok (.getfield 21, 3) := by decide +kernel
theorem dX11_script_123 : decode cX11_script 123 = .ok (.iconst 0, 1) := by decide +kernel
theorem dX11_script_124 : decode cX11_script 124 = .ok (.putfield 106, 3) := by decide +kernel
theorem dX11_script_127 : decode cX11_script 127 = .ok (.aload_n 0, 1) := by decide +kernel
theorem dX11_script_128 : decode cX11_script 128 = .ok (.getfield 76, 3) := by decide +kernel
theorem dX11_script_131 : decode cX11_script 131 = .ok (.iconst (-1), 1) := by decide +kernel
theorem dX11_script_132 : decode cX11_script 132 = .ok (.if_icmp .eq 13, 3) := by decide +kernel
theorem dX11_script_135 : decode cX11_script 135 = .ok (.aload_n 0, 1) := by decide +kernel
theorem dX11_script_136 : decode cX11_script 136 = .ok (.getfield 72, 3) := by decide +kernel
theorem dX11_script_139 : decode cX11_script 139 = .ok (.bipush (-6), 2) := by decide +kernel
theorem dX11_script_141 : decode cX11_script 141 = .ok (.invokevirtual 84, 3) := by decide +kernel
theorem dX11_script_144 : decode cX11_script 144 = .ok (.ireturn, 1) := by decide +kernel
theorem dX11_script_145 : decode cX11_script 145 = .ok (.aload_n 0, 1) := by decide +kernel
theorem dX11_script_146 : decode cX11_script 146 = .ok (.getfield 65, 3) := by decide +kernel
theorem dX11_script_149 : decode cX11_script 149 = .ok (.aload_n 0, 1) := by decide +kernel
theorem dX11_script_150 : decode cX11_script 150 = .ok (.getfield 37, 3) := by decide +kernel
theorem dX11_script_153 : decode cX11_script 153 = .ok (.iconst 5, 1) := by decide +kernel
theorem dX11_script_154 : decode cX11_script 154 = .ok (.invokevirtual 122, 3) := by decide +kernel
theorem dX11_script_157 : decode cX11_script 157 = .ok (.aload_n 0, 1) := by decide +kernel
theorem dX11_script_158 : decode cX11_script 158 = .ok (.getfield 37, 3) := by decide +kernel
theorem dX11_script_161 : decode cX11_script 161 = .ok (.aload_n 2, 1) := by decide +kernel
theorem dX11_script_162 : decode cX11_script 162 = .ok (.aload_n 0, 1) := by decide +kernel
theorem dX11_script_163 : decode cX11_script 163 = .ok (.getfield 28, 3) := by decide +kernel
theorem dX11_script_166 : decode cX11_script 166 = .ok (.getfield 208, 3) := by decide +kernel
theorem dX11_script_169 : decode cX11_script 169 = .ok (.invokevirtual 209, 3) := by decide +kernel
theorem dX11_script_172 : decode cX11_script 172 = .ok (.aload_n 0, 1) := by decide +kernel
theorem dX11_script_173 : decode cX11_script 173 = .ok (.getfield 72, 3) := by decide +kernel
theorem dX11_script_176 : decode cX11_script 176 = .ok (.aload_n 0, 1) := by decide +kernel
theorem dX11_script_177 : decode cX11_script 177 = .ok (.getfield 28, 3) := by decide +kernel
theorem dX11_script_180 : decode cX11_script 180 = .ok (.getfield 208, 3) := by decide +kernel
theorem dX11_script_183 : decode cX11_script 183 = .ok (.getfield 213, 3) := by decide +kernel
theorem dX11_script_186 : decode cX11_script 186 = .ok (.invokevirtual 95, 3) := by decide +kernel
theorem dX11_script_189 : decode cX11_script 189 = .ok (.ireturn, 1) := by decide +kernel
theorem dX11_listing_0 : decode cX11_listing 0 = .ok (.aload_n 0, 1) := by decide +kernel
theorem dX11_listing_1 : decode cX11_listing 1 = .ok (.getfield 37, 3) := by decide +kernel
theorem dX11_listing_4 : decode cX11_listing 4 = .ok (.iload_n 1, 1) := by decide +kernel
theorem dX11_listing_5 : decode cX11_listing 5 = .ok (.invokevirtual 130, 3) := by decide +kernel
theorem dX11_listing_8 : decode cX11_listing 8 = .ok (.ifCond .ne 13, 3) := by decide +kernel
theorem dX11_listing_11 : decode cX11_listing 11 = .ok (.aload_n 0, 1) := by decide +kernel
theorem dX11_listing_12 : decode cX11_listing 12 = .ok (.getfield 72, 3) := by decide +kernel
theorem dX11_listing_15 : decode cX11_listing 15 = .ok (.bipush (-2), 2) := by decide +kernel
theorem dX11_listing_17 : decode cX11_listing 17 = .ok (.invokevirtual 84, 3) := by decide +kernel
theorem dX11_listing_20 : decode cX11_listing 20 = .ok (.ireturn, 1) := by decide +kernel
theorem dX11_listing_21 : decode cX11_listing 21 = .ok (.aload_n 0, 1) := by decide +kernel
theorem dX11_listing_22 : decode cX11_listing 22 = .ok (.getfield 37, 3) := by decide +kernel
theorem dX11_listing_25 : decode cX11_listing 25 = .ok (.getfield 133, 3) := by decide +kernel
theorem dX11_listing_28 : decode cX11_listing 28 = .ok (.iload_n 1, 1) := by decide +kernel
theorem dX11_listing_29 : decode cX11_listing 29 = .ok (.aaload, 1) := by decide +kernel
theorem dX11_listing_30 : decode cX11_listing 30 = .ok (.getfield 166, 3) := by decide +kernel
theorem dX11_listing_33 : decode cX11_listing 33 = .ok (.astore_n 2, 1) := by decide +kernel
theorem dX11_listing_34 : decode cX11_listing 34 = .ok (.aload_n 2, 1) := by decide +kernel
theorem dX11_listing_35 : decode cX11_listing 35 = .ok (.invokevirtual 216, 3) := by decide +kernel
theorem dX11_listing_38 : decode cX11_listing 38 = .ok (.ifCond .ne 13, 3) := by decide +kernel
theorem dX11_listing_41 : decode cX11_listing 41 = .ok (.aload_n 0, 1) := by decide +kernel
theorem dX11_listing_42 : decode cX11_listing 42 = .ok (.getfield 72, 3) := by decide +kernel
theorem dX11_listing_45 : decode cX11_listing 45 = .ok (.bipush (-4), 2) := by decide +kernel
theorem dX11_listing_47 : decode cX11_listing 47 = .ok (.invokevirtual 84, 3) := by decide +kernel
theorem dX11_listing_50 : decode cX11_listing 50 = .ok (.ireturn, 1) := by decide +kernel
theorem dX11_listing_51 : decode cX11_listing 51 = .ok (.aload_n 0, 1) := by decide +kernel
theorem dX11_listing_52 : decode cX11_listing 52 = .ok (.getfield 21, 3) := by decide +kernel
theorem dX11_listing_55 : decode cX11_listing 55 = .ok (.iconst 0, 1) := by decide +kernel
theorem dX11_listing_56 : decode cX11_listing 56 = .ok (.putfield 106, 3) := by decide +kernel
theorem dX11_listing_59 : decode cX11_listing 59 = .ok (.aload_n 2, 1) := by decide +kernel
theorem dX11_listing_60 : decode cX11_listing 60 = .ok (.aload_n 0, 1) := by decide +kernel
theorem dX11_listing_61 : decode cX11_listing 61 = .ok (.getfield 21, 3) := by decide +kernel
theorem dX11_listing_64 : decode cX11_listing 64 = .ok (.invokevirtual 219, 3) := by decide +kernel
theorem dX11_listing_67 : decode cX11_listing 67 = .ok (.aload_n 0, 1) := by decide +kernel
theorem dX11_listing_68 : decode cX11_listing 68 = .ok (.getfield 72, 3) := by decide +kernel
theorem dX11_listing_71 : decode cX11_listing 71 = .ok (.aload_n 0, 1) := by decide +kernel
theorem dX11_listing_72 : decode cX11_listing 72 = .ok (.getfield 21, 3) := by decide +kernel
theorem dX11_listing_75 : decode cX11_listing 75 = .ok (.getfield 106, 3) := by decide +kernel
theorem dX11_listing_78 : decode cX11_listing 78 = .ok (.invokevirtual 95, 3) := by decide +kernel
theorem dX11_listing_81 : decode cX11_listing 81 = .ok (.ireturn, 1) := by decide +kernel
theorem dX11_fault_0 : decode cX11_fault 0 = .ok (.aload_n 0, 1) := by decide +kernel
theorem dX11_fault_1 : decode cX11_fault 1 = .ok (.getfield 76, 3) := by decide +kernel
theorem dX11_fault_4 : decode cX11_fault 4 = .ok (.ireturn, 1) := by decide +kernel
theorem dX11_ticks_0 : decode cX11_ticks 0 = .ok (.iload_n 1, 1) := by decide +kernel
theorem dX11_ticks_1 : decode cX11_ticks 1 = .ok (.iconst 1, 1) := by decide +kernel
theorem dX11_ticks_2 : decode cX11_ticks 2 = .ok (.if_icmp .lt 9, 3) := by decide +kernel
theorem dX11_ticks_5 : decode cX11_ticks 5 = .ok (.iload_n 1, 1) := by decide +kernel
theorem dX11_ticks_6 : decode cX11_ticks 6 = .ok (.bipush 60, 2) := by decide +kernel
theorem dX11_ticks_8 : decode cX11_ticks 8 = .ok (.if_icmp .le 12, 3) := by decide +kernel
theorem dX11_ticks_11 : decode cX11_ticks 11 = .ok (.aload_n 0, 1) := by decide +kernel
theorem dX11_ticks_12 : decode cX11_ticks 12 = .ok (.getfield 72, 3) := by decide +kernel
theorem dX11_ticks_15 : decode cX11_ticks 15 = .ok (.iconst (-1), 1) := by decide +kernel
theorem dX11_ticks_16 : decode cX11_ticks 16 = .ok (.invokevirtual 84, 3) := by decide +kernel
theorem dX11_ticks_19 : decode cX11_ticks 19 = .ok (.ireturn, 1) := by decide +kernel
theorem dX11_ticks_20 : decode cX11_ticks 20 = .ok (.aload_n 0, 1) := by decide +kernel
theorem dX11_ticks_21 : decode cX11_ticks 21 = .ok (.getfield 37, 3) := by decide +kernel
theorem dX11_ticks_24 : decode cX11_ticks 24 = .ok (.getfield 223, 3) := by decide +kernel
theorem dX11_ticks_27 : decode cX11_ticks 27 = .ok (.iload_n 1, 1) := by decide +kernel
theorem dX11_ticks_28 : decode cX11_ticks 28 = .ok (.iadd, 1) := by decide +kernel

theorem dX6_tick_118 : decode cX6_tick 118 = .ok (.dup, 1) := by decide +kernel
theorem dX6_tick_119 : decode cX6_tick 119 = .ok (.getfield 58, 3) := by decide +kernel
theorem dX6_tick_122 : decode cX6_tick 122 = .ok (.iconst 1, 1) := by decide +kernel
theorem dX6_tick_123 : decode cX6_tick 123 = .ok (.iadd, 1) := by decide +kernel
theorem dX6_tick_124 : decode cX6_tick 124 = .ok (.putfield 58, 3) := by decide +kernel
theorem dX6_tick_127 : decode cX6_tick 127 = .ok (.iload_n 2, 1) := by decide +kernel
theorem dX6_tick_128 : decode cX6_tick 128 = .ok (.ireturn, 1) := by decide +kernel
theorem dX6_wake_0 : decode cX6_wake 0 = .ok (.aload_n 1, 1) := by decide +kernel
theorem dX6_wake_1 : decode cX6_wake 1 = .ok (.getfield 69, 3) := by decide +kernel
theorem dX6_wake_4 : decode cX6_wake 4 = .ok (.iconst 3, 1) := by decide +kernel
theorem dX6_wake_5 : decode cX6_wake 5 = .ok (.if_icmp .ne 29, 3) := by decide +kernel
theorem dX6_wake_8 : decode cX6_wake 8 = .ok (.aload_n 1, 1) := by decide +kernel
theorem dX6_wake_9 : decode cX6_wake 9 = .ok (.invokevirtual 223, 3) := by decide +kernel
theorem dX6_wake_12 : decode cX6_wake 12 = .ok (.ifCond .ne 97, 3) := by decide +kernel
theorem dX6_wake_15 : decode cX6_wake 15 = .ok (.aload_n 0, 1) := by decide +kernel
theorem dX6_wake_16 : decode cX6_wake 16 = .ok (.aload_n 1, 1) := by decide +kernel
theorem dX6_wake_17 : decode cX6_wake 17 = .ok (.getfield 72, 3) := by decide +kernel
theorem dX6_wake_20 : decode cX6_wake 20 = .ok (.invokevirtual 226, 3) := by decide +kernel
theorem dX6_wake_23 : decode cX6_wake 23 = .ok (.ifCond .eq 86, 3) := by decide +kernel
theorem dX6_wake_26 : decode cX6_wake 26 = .ok (.aload_n 0, 1) := by decide +kernel
theorem dX6_wake_27 : decode cX6_wake 27 = .ok (.aload_n 1, 1) := by decide +kernel
theorem dX6_wake_28 : decode cX6_wake 28 = .ok (.invokevirtual 229, 3) := by decide +kernel
theorem dX6_wake_31 : decode cX6_wake 31 = .ok (.goto 78, 3) := by decide +kernel
theorem dX6_wake_34 : decode cX6_wake 34 = .ok (.aload_n 1, 1) := by decide +kernel
theorem dX6_wake_35 : decode cX6_wake 35 = .ok (.getfield 69, 3) := by decide +kernel
theorem dX6_wake_38 : decode cX6_wake 38 = .ok (.iconst 2, 1) := by decide +kernel
theorem dX6_wake_39 : decode cX6_wake 39 = .ok (.if_icmp .ne 70, 3) := by decide +kernel
theorem dX6_wake_42 : decode cX6_wake 42 = .ok (.aload_n 1, 1) := by decide +kernel
theorem dX6_wake_43 : decode cX6_wake 43 = .ok (.getfield 232, 3) := by decide +kernel
theorem dX6_wake_46 : decode cX6_wake 46 = .ok (.aload_n 0, 1) := by decide +kernel
theorem dX6_wake_47 : decode cX6_wake 47 = .ok (.getfield 58, 3) := by decide +kernel
theorem dX6_wake_50 : decode cX6_wake 50 = .ok (.if_icmp .gt 59, 3) := by decide +kernel
theorem dX6_wake_53 : decode cX6_wake 53 = .ok (.aload_n 1, 1) := by decide +kernel
theorem dX6_wake_54 : decode cX6_wake 54 = .ok (.invokevirtual 223, 3) := by decide +kernel
theorem dX6_wake_57 : decode cX6_wake 57 = .ok (.ifCond .ne 14, 3) := by decide +kernel
theorem dX6_wake_60 : decode cX6_wake 60 = .ok (.aload_n 0, 1) := by decide +kernel
theorem dX6_wake_61 : decode cX6_wake 61 = .ok (.aload_n 1, 1) := by decide +kernel
theorem dX6_wake_62 : decode cX6_wake 62 = .ok (.getfield 72, 3) := by decide +kernel
theorem dX6_wake_65 : decode cX6_wake 65 = .ok (.invokevirtual 226, 3) := by decide +kernel
theorem dX6_wake_68 : decode cX6_wake 68 = .ok (.ifCond .ne 14, 3) := by decide +kernel
theorem dX6_wake_71 : decode cX6_wake 71 = .ok (.aload_n 1, 1) := by decide +kernel
theorem dX6_wake_72 : decode cX6_wake 72 = .ok (.aload_n 0, 1) := by decide +kernel
theorem dX6_wake_73 : decode cX6_wake 73 = .ok (.getfield 58, 3) := by decide +kernel
theorem dX6_wake_76 : decode cX6_wake 76 = .ok (.iconst 1, 1) := by decide +kernel
theorem dX6_wake_77 : decode cX6_wake 77 = .ok (.iadd, 1) := by decide +kernel
theorem dX6_wake_78 : decode cX6_wake 78 = .ok (.putfield 232, 3) := by decide +kernel
theorem dX6_wake_81 : decode cX6_wake 81 = .ok (.return_, 1) := by decide +kernel
theorem dX6_wake_82 : decode cX6_wake 82 = .ok (.aload_n 0, 1) := by decide +kernel
theorem dX6_wake_83 : decode cX6_wake 83 = .ok (.aload_n 1, 1) := by decide +kernel
theorem dX6_wake_84 : decode cX6_wake 84 = .ok (.invokevirtual 229, 3) := by decide +kernel
theorem dX6_wake_87 : decode cX6_wake 87 = .ok (.aload_n 1, 1) := by decide +kernel
theorem dX6_wake_88 : decode cX6_wake 88 = .ok (.getfield 128, 3) := by decide +kernel
theorem dX6_wake_91 : decode cX6_wake 91 = .ok (.dup, 1) := by decide +kernel
theorem dX6_wake_92 : decode cX6_wake 92 = .ok (.getfield 235, 3) := by decide +kernel
theorem dX6_wake_95 : decode cX6_wake 95 = .ok (.iconst 1, 1) := by decide +kernel
theorem dX6_wake_96 : decode cX6_wake 96 = .ok (.iadd, 1) := by decide +kernel
theorem dX6_wake_97 : decode cX6_wake 97 = .ok (.putfield 235, 3) := by decide +kernel
theorem dX6_wake_100 : decode cX6_wake 100 = .ok (.aload_n 0, 1) := by decide +kernel
theorem dX6_wake_101 : decode cX6_wake 101 = .ok (.aload_n 1, 1) := by decide +kernel
theorem dX6_wake_102 : decode cX6_wake 102 = .ok (.aload_n 0, 1) := by decide +kernel
theorem dX6_wake_103 : decode cX6_wake 103 = .ok (.getfield 58, 3) := by decide +kernel
theorem dX6_wake_106 : decode cX6_wake 106 = .ok (.invokevirtual 238, 3) := by decide +kernel
theorem dX6_wake_109 : decode cX6_wake 109 = .ok (.return_, 1) := by decide +kernel
theorem dX6_weightsAsBits_0 : decode cX6_weightsAsBits 0 = .ok (.lconst 0, 1) := by decide +kernel
theorem dX6_weightsAsBits_1 : decode cX6_weightsAsBits 1 = .ok (.lstore_n 1, 1) := by decide +kernel
theorem dX6_weightsAsBits_2 : decode cX6_weightsAsBits 2 = .ok (.iconst 0, 1) := by decide +kernel
theorem dX6_weightsAsBits_3 : decode cX6_weightsAsBits 3 = .ok (.istore_n 3, 1) := by decide +kernel
theorem dX6_weightsAsBits_4 : decode cX6_weightsAsBits 4 = .ok (.iload_n 3, 1) := by decide +kernel
theorem dX6_weightsAsBits_5 : decode cX6_weightsAsBits 5 = .ok (.aload_n 0, 1) := by decide +kernel
theorem dX6_weightsAsBits_6 : decode cX6_weightsAsBits 6 = .ok (.getfield 48, 3) := by decide +kernel
theorem dX6_weightsAsBits_9 : decode cX6_weightsAsBits 9 = .ok (.if_icmp .ge 37, 3) := by decide +kernel
theorem dX6_weightsAsBits_12 : decode cX6_weightsAsBits 12 = .ok (.aload_n 0, 1) := by decide +kernel
theorem dX6_weightsAsBits_13 : decode cX6_weightsAsBits 13 = .ok (.getfield 11, 3) := by decide +kernel
theorem dX6_weightsAsBits_16 : decode cX6_weightsAsBits 16 = .ok (.iload_n 3, 1) := by decide +kernel
theorem dX6_weightsAsBits_17 : decode cX6_weightsAsBits 17 = .ok (.aaload, 1) := by decide +kernel
theorem dX6_weightsAsBits_18 : decode cX6_weightsAsBits 18 = .ok (.invokevirtual 111, 3) := by decide +kernel
theorem dX6_weightsAsBits_21 : decode cX6_weightsAsBits 21 = .ok (.ifCond .eq 19, 3) := by decide +kernel
theorem dX6_weightsAsBits_24 : decode cX6_weightsAsBits 24 = .ok (.lload_n 1, 1) := by decide +kernel
theorem dX6_weightsAsBits_25 : decode cX6_weightsAsBits 25 = .ok (.iload_n 3, 1) := by decide +kernel
theorem dX6_weightsAsBits_26 : decode cX6_weightsAsBits 26 = .ok (.aload_n 0, 1) := by decide +kernel
theorem dX6_weightsAsBits_27 : decode cX6_weightsAsBits 27 = .ok (.getfield 11, 3) := by decide +kernel
theorem dX6_weightsAsBits_30 : decode cX6_weightsAsBits 30 = .ok (.iload_n 3, 1) := by decide +kernel
theorem dX6_weightsAsBits_31 : decode cX6_weightsAsBits 31 = .ok (.aaload, 1) := by decide +kernel
theorem dX6_weightsAsBits_32 : decode cX6_weightsAsBits 32 = .ok (.getfield 72, 3) := by decide +kernel
theorem dX6_weightsAsBits_35 : decode cX6_weightsAsBits 35 = .ok (.invokestatic 242, 3) := by decide +kernel
theorem dX6_weightsAsBits_38 : decode cX6_weightsAsBits 38 = .ok (.lor, 1) := by decide +kernel
theorem dX6_weightsAsBits_39 : decode cX6_weightsAsBits 39 = .ok (.lstore_n 1, 1) := by decide +kernel
theorem dX6_weightsAsBits_40 : decode cX6_weightsAsBits 40 = .ok (.iinc 3 1, 3) := by decide +kernel
theorem dX6_weightsAsBits_43 : decode cX6_weightsAsBits 43 = .ok (.goto (-39), 3) := by decide +kernel
theorem dX6_weightsAsBits_46 : decode cX6_weightsAsBits 46 = .ok (.lload_n 1, 1) := by decide +kernel
theorem dX6_weightsAsBits_47 : decode cX6_weightsAsBits 47 = .ok (.lreturn, 1) := by decide +kernel
theorem dX6_serve_0 : decode cX6_serve 0 = .ok (.aload_n 1, 1) := by decide +kernel
theorem dX6_serve_1 : decode cX6_serve 1 = .ok (.dup, 1) := by decide +kernel
theorem dX6_serve_2 : decode cX6_serve 2 = .ok (.getfield 79, 3) := by decide +kernel
theorem dX6_serve_5 : decode cX6_serve 5 = .ok (.aload_n 1, 1) := by decide +kernel
theorem dX6_serve_6 : decode cX6_serve 6 = .ok (.getfield 72, 3) := by decide +kernel
theorem dX6_serve_9 : decode cX6_serve 9 = .ok (.invokestatic 246, 3) := by decide +kernel
theorem dX6_serve_12 : decode cX6_serve 12 = .ok (.ladd, 1) := by decide +kernel
theorem dX6_serve_13 : decode cX6_serve 13 = .ok (.putfield 79, 3) := by decide +kernel
theorem dX6_serve_16 : decode cX6_serve 16 = .ok (.aload_n 1, 1) := by decide +kernel
theorem dX6_serve_17 : decode cX6_serve 17 = .ok (.dup, 1) := by decide +kernel
theorem dX6_serve_18 : decode cX6_serve 18 = .ok (.getfield 250, 3) := by decide +kernel
theorem dX6_serve_21 : decode cX6_serve 21 = .ok (.iconst 1, 1) := by decide +kernel
theorem dX6_serve_22 : decode cX6_serve 22 = .ok (.iadd, 1) := by decide +kernel
theorem dX6_serve_23 : decode cX6_serve 23 = .ok (.putfield 250, 3) := by decide +kernel
theorem dX6_serve_26 : decode cX6_serve 26 = .ok (.aload_n 1, 1) := by decide +kernel
theorem dX6_serve_27 : decode cX6_serve 27 = .ok (.getfield 253, 3) := by decide +kernel
theorem dX6_serve_30 : decode cX6_serve 30 = .ok (.ifCond .le 13, 3) := by decide +kernel
theorem dX6_serve_33 : decode cX6_serve 33 = .ok (.aload_n 1, 1) := by decide +kernel
theorem dX6_serve_34 : decode cX6_serve 34 = .ok (.dup, 1) := by decide +kernel
theorem dX6_serve_35 : decode cX6_serve 35 = .ok (.getfield 256, 3) := by decide +kernel
theorem dX6_serve_38 : decode cX6_serve 38 = .ok (.iconst 1, 1) := by decide +kernel
theorem dX6_serve_39 : decode cX6_serve 39 = .ok (.isub, 1) := by decide +kernel
theorem dX6_serve_40 : decode cX6_serve 40 = .ok (.putfield 256, 3) := by decide +kernel
theorem dX6_serve_43 : decode cX6_serve 43 = .ok (.aload_n 0, 1) := by decide +kernel
theorem dX6_serve_44 : decode cX6_serve 44 = .ok (.aload_n 1, 1) := by decide +kernel
theorem dX6_serve_45 : decode cX6_serve 45 = .ok (.invokevirtual 259, 3) := by decide +kernel
theorem dX6_serve_48 : decode cX6_serve 48 = .ok (.aload_n 0, 1) := by decide +kernel
theorem dX6_serve_49 : decode cX6_serve 49 = .ok (.aload_n 1, 1) := by decide +kernel
theorem dX6_serve_50 : decode cX6_serve 50 = .ok (.getfield 165, 3) := by decide +kernel
theorem dX6_serve_53 : decode cX6_serve 53 = .ok (.putfield 34, 3) := by decide +kernel
theorem dX6_serve_56 : decode cX6_serve 56 = .ok (.aload_n 0, 1) := by decide +kernel
theorem dX6_serve_57 : decode cX6_serve 57 = .ok (.aload_n 1, 1) := by decide +kernel
theorem dX6_serve_58 : decode cX6_serve 58 = .ok (.getfield 165, 3) := by decide +kernel
theorem dX6_serve_61 : decode cX6_serve 61 = .ok (.putfield 38, 3) := by decide +kernel
theorem dX6_serve_64 : decode cX6_serve 64 = .ok (.aload_n 1, 1) := by decide +kernel
theorem dX6_serve_65 : decode cX6_serve 65 = .ok (.dup, 1) := by decide +kernel
theorem dX6_serve_66 : decode cX6_serve 66 = .ok (.getfield 156, 3) := by decide +kernel
theorem dX6_serve_69 : decode cX6_serve 69 = .ok (.iconst 1, 1) := by decide +kernel
theorem dX6_serve_70 : decode cX6_serve 70 = .ok (.isub, 1) := by decide +kernel
theorem dX6_serve_71 : decode cX6_serve 71 = .ok (.putfield 156, 3) := by decide +kernel
theorem dX6_serve_74 : decode cX6_serve 74 = .ok (.aload_n 1, 1) := by decide +kernel
theorem dX6_serve_75 : decode cX6_serve 75 = .ok (.getfield 156, 3) := by decide +kernel
theorem dX6_serve_78 : decode cX6_serve 78 = .ok (.ifCond .gt 8, 3) := by decide +kernel
theorem dX6_serve_81 : decode cX6_serve 81 = .ok (.aload_n 0, 1) := by decide +kernel
theorem dX6_serve_82 : decode cX6_serve 82 = .ok (.aload_n 1, 1) := by decide +kernel
theorem dX6_serve_83 : decode cX6_serve 83 = .ok (.invokevirtual 262, 3) := by decide +kernel
theorem dX6_serve_86 : decode cX6_serve 86 = .ok (.return_, 1) := by decide +kernel
theorem dX6_countWaits_0 : decode cX6_countWaits 0 = .ok (.iconst 0, 1) := by decide +kernel
theorem dX6_countWaits_1 : decode cX6_countWaits 1 = .ok (.istore_n 2, 1) := by decide +kernel
theorem dX6_countWaits_2 : decode cX6_countWaits 2 = .ok (.iload_n 2, 1) := by decide +kernel
theorem dX6_countWaits_3 : decode cX6_countWaits 3 = .ok (.aload_n 0, 1) := by decide +kernel
theorem dX6_countWaits_4 : decode cX6_countWaits 4 = .ok (.getfield 48, 3) := by decide +kernel
theorem dX6_countWaits_7 : decode cX6_countWaits 7 = .ok (.if_icmp .ge 38, 3) := by decide +kernel
theorem dX6_countWaits_10 : decode cX6_countWaits 10 = .ok (.aload_n 0, 1) := by decide +kernel
theorem dX6_countWaits_11 : decode cX6_countWaits 11 = .ok (.getfield 11, 3) := by decide +kernel
theorem dX6_countWaits_14 : decode cX6_countWaits 14 = .ok (.iload_n 2, 1) := by decide +kernel
theorem dX6_countWaits_15 : decode cX6_countWaits 15 = .ok (.aaload, 1) := by decide +kernel
theorem dX6_countWaits_16 : decode cX6_countWaits 16 = .ok (.invokevirtual 111, 3) := by decide +kernel
theorem dX6_countWaits_19 : decode cX6_countWaits 19 = .ok (.ifCond .eq 20, 3) := by decide +kernel
theorem dX6_countWaits_22 : decode cX6_countWaits 22 = .ok (.iload_n 2, 1) := by decide +kernel
theorem dX6_countWaits_23 : decode cX6_countWaits 23 = .ok (.aload_n 1, 1) := by decide +kernel
theorem dX6_countWaits_24 : decode cX6_countWaits 24 = .ok (.getfield 165, 3) := by decide +kernel
theorem dX6_countWaits_27 : decode cX6_countWaits 27 = .ok (.if_icmp .eq 12, 3) := by decide +kernel
theorem dX6_countWaits_30 : decode cX6_countWaits 30 = .ok (.aload_n 0, 1) := by decide +kernel
theorem dX6_countWaits_31 : decode cX6_countWaits 31 = .ok (.getfield 11, 3) := by decide +kernel
theorem dX6_countWaits_34 : decode cX6_countWaits 34 = .ok (.iload_n 2, 1) := by decide +kernel
theorem dX6_countWaits_35 : decode cX6_countWaits 35 = .ok (.aaload, 1) := by decide +kernel
theorem dX6_countWaits_36 : decode cX6_countWaits 36 = .ok (.invokevirtual 265, 3) := by decide +kernel
theorem dX6_countWaits_39 : decode cX6_countWaits 39 = .ok (.iinc 2 1, 3) := by decide +kernel
theorem dX6_countWaits_42 : decode cX6_countWaits 42 = .ok (.goto (-40), 3) := by decide +kernel
theorem dX6_countWaits_45 : decode cX6_countWaits 45 = .ok (.aload_n 1, 1) := by decide +kernel
theorem dX6_countWaits_46 : decode cX6_countWaits 46 = .ok (.iconst 0, 1) := by decide +kernel
theorem dX6_countWaits_47 : decode cX6_countWaits 47 = .ok (.putfield 159, 3) := by decide +kernel
theorem dX6_countWaits_50 : decode cX6_countWaits 50 = .ok (.return_, 1) := by decide +kernel
theorem dX6_endRequest_0 : decode cX6_endRequest 0 = .ok (.aload_n 1, 1) := by decide +kernel
theorem dX6_endRequest_1 : decode cX6_endRequest 1 = .ok (.dup, 1) := by decide +kernel
theorem dX6_endRequest_2 : decode cX6_endRequest 2 = .ok (.getfield 268, 3) := by decide +kernel
theorem dX6_endRequest_5 : decode cX6_endRequest 5 = .ok (.iconst 1, 1) := by decide +kernel
theorem dX6_endRequest_6 : decode cX6_endRequest 6 = .ok (.iadd, 1) := by decide +kernel
theorem dX6_endRequest_7 : decode cX6_endRequest 7 = .ok (.putfield 268, 3) := by decide +kernel
theorem dX6_endRequest_10 : decode cX6_endRequest 10 = .ok (.aload_n 0, 1) := by decide +kernel
theorem dX6_endRequest_11 : decode cX6_endRequest 11 = .ok (.aload_n 1, 1) := by decide +kernel
theorem dX6_endRequest_12 : decode cX6_endRequest 12 = .ok (.aload_n 0, 1) := by decide +kernel
theorem dX6_endRequest_13 : decode cX6_endRequest 13 = .ok (.getfield 31, 3) := by decide +kernel
theorem dX6_endRequest_16 : decode cX6_endRequest 16 = .ok (.invokevirtual 104, 3) := by decide +kernel
theorem dX6_endRequest_19 : decode cX6_endRequest 19 = .ok (.aload_n 0, 1) := by decide +kernel
theorem dX6_endRequest_20 : decode cX6_endRequest 20 = .ok (.getfield 31, 3) := by decide +kernel
theorem dX6_endRequest_23 : decode cX6_endRequest 23 = .ok (.lconst 0, 1) := by decide +kernel
theorem dX6_endRequest_24 : decode cX6_endRequest 24 = .ok (.invokevirtual 271, 3) := by decide +kernel
theorem dX6_endRequest_27 : decode cX6_endRequest 27 = .ok (.ifCond .eq 13, 3) := by decide +kernel
theorem dX6_endRequest_30 : decode cX6_endRequest 30 = .ok (.aload_n 1, 1) := by decide +kernel
theorem dX6_endRequest_31 : decode cX6_endRequest 31 = .ok (.dup, 1) := by decide +kernel
theorem dX6_endRequest_32 : decode cX6_endRequest 32 = .ok (.getfield 275, 3) := by decide +kernel
theorem dX6_endRequest_35 : decode cX6_endRequest 35 = .ok (.iconst 1, 1) := by decide +kernel
theorem dX6_endRequest_36 : decode cX6_endRequest 36 = .ok (.iadd, 1) := by decide +kernel
theorem dX6_endRequest_37 : decode cX6_endRequest 37 = .ok (.putfield 275, 3) := by decide +kernel
theorem dX6_endRequest_40 : decode cX6_endRequest 40 = .ok (.aload_n 1, 1) := by decide +kernel
theorem dX6_endRequest_41 : decode cX6_endRequest 41 = .ok (.aload_n 1, 1) := by decide +kernel
theorem dX6_endRequest_42 : decode cX6_endRequest 42 = .ok (.getfield 153, 3) := by decide +kernel
theorem dX6_endRequest_45 : decode cX6_endRequest 45 = .ok (.putfield 156, 3) := by decide +kernel
theorem dX6_endRequest_48 : decode cX6_endRequest 48 = .ok (.aload_n 0, 1) := by decide +kernel
theorem dX6_endRequest_49 : decode cX6_endRequest 49 = .ok (.iconst (-1), 1) := by decide +kernel
theorem dX6_endRequest_50 : decode cX6_endRequest 50 = .ok (.putfield 38, 3) := by decide +kernel
theorem dX6_endRequest_53 : decode cX6_endRequest 53 = .ok (.return_, 1) := by decide +kernel
theorem dX6_goOnAfterRun_0 : decode cX6_goOnAfterRun 0 = .ok (.aload_n 1, 1) := by decide +kernel
theorem dX6_goOnAfterRun_1 : decode cX6_goOnAfterRun 1 = .ok (.getfield 128, 3) := by decide +kernel
theorem dX6_goOnAfterRun_4 : decode cX6_goOnAfterRun 4 = .ok (.invokevirtual 132, 3) := by decide +kernel
theorem dX6_goOnAfterRun_7 : decode cX6_goOnAfterRun 7 = .ok (.ifCond .eq 24, 3) := by decide +kernel
theorem dX6_goOnAfterRun_10 : decode cX6_goOnAfterRun 10 = .ok (.aload_n 1, 1) := by decide +kernel
theorem dX6_goOnAfterRun_11 : decode cX6_goOnAfterRun 11 = .ok (.getfield 128, 3) := by decide +kernel
theorem dX6_goOnAfterRun_14 : decode cX6_goOnAfterRun 14 = .ok (.invokevirtual 278, 3) := by decide +kernel
theorem dX6_goOnAfterRun_17 : decode cX6_goOnAfterRun 17 = .ok (.ifCond .eq 14, 3) := by decide +kernel
theorem dX6_goOnAfterRun_20 : decode cX6_goOnAfterRun 20 = .ok (.aload_n 0, 1) := by decide +kernel
theorem dX6_goOnAfterRun_21 : decode cX6_goOnAfterRun 21 = .ok (.aload_n 1, 1) := by decide +kernel
theorem dX6_goOnAfterRun_22 : decode cX6_goOnAfterRun 22 = .ok (.aload_n 0, 1) := by decide +kernel
theorem dX6_goOnAfterRun_23 : decode cX6_goOnAfterRun 23 = .ok (.getfield 58, 3) := by decide +kernel
theorem dX6_goOnAfterRun_26 : decode cX6_goOnAfterRun 26 = .ok (.iconst 1, 1) := by decide +kernel
theorem dX6_goOnAfterRun_27 : decode cX6_goOnAfterRun 27 = .ok (.iadd, 1) := by decide +kernel
theorem dX6_goOnAfterRun_28 : decode cX6_goOnAfterRun 28 = .ok (.invokevirtual 238, 3) := by decide +kernel
theorem dX6_goOnAfterRun_31 : decode cX6_goOnAfterRun 31 = .ok (.aload_n 1, 1) := by decide +kernel
theorem dX6_goOnAfterRun_32 : decode cX6_goOnAfterRun 32 = .ok (.invokevirtual 111, 3) := by decide +kernel
theorem dX6_goOnAfterRun_35 : decode cX6_goOnAfterRun 35 = .ok (.ifCond .eq 16, 3) := by decide +kernel
theorem dX6_goOnAfterRun_38 : decode cX6_goOnAfterRun 38 = .ok (.aload_n 1, 1) := by decide +kernel
theorem dX6_goOnAfterRun_39 : decode cX6_goOnAfterRun 39 = .ok (.invokevirtual 223, 3) := by decide +kernel
theorem dX6_goOnAfterRun_42 : decode cX6_goOnAfterRun 42 = .ok (.ifCond .eq 9, 3) := by decide +kernel
theorem dX6_goOnAfterRun_45 : decode cX6_goOnAfterRun 45 = .ok (.aload_n 0, 1) := by decide +kernel
theorem dX6_goOnAfterRun_46 : decode cX6_goOnAfterRun 46 = .ok (.aload_n 1, 1) := by decide +kernel
theorem dX6_goOnAfterRun_47 : decode cX6_goOnAfterRun 47 = .ok (.iconst 3, 1) := by decide +kernel
theorem dX6_goOnAfterRun_48 : decode cX6_goOnAfterRun 48 = .ok (.invokevirtual 281, 3) := by decide +kernel
theorem dX6_goOnAfterRun_51 : decode cX6_goOnAfterRun 51 = .ok (.return_, 1) := by decide +kernel
theorem dX6_startScript_0 : decode cX6_startScript 0 = .ok (.aload_n 1, 1) := by decide +kernel
theorem dX6_startScript_1 : decode cX6_startScript 1 = .ok (.invokevirtual 111, 3) := by decide +kernel
theorem dX6_startScript_4 : decode cX6_startScript 4 = .ok (.ifCond .ne 8, 3) := by decide +kernel
theorem dX6_startScript_7 : decode cX6_startScript 7 = .ok (.aload_n 0, 1) := by decide +kernel
theorem dX6_startScript_8 : decode cX6_startScript 8 = .ok (.aload_n 1, 1) := by decide +kernel
theorem dX6_startScript_9 : decode cX6_startScript 9 = .ok (.invokevirtual 229, 3) := by decide +kernel
theorem dX6_startScript_12 : decode cX6_startScript 12 = .ok (.aload_n 1, 1) := by decide +kernel
theorem dX6_startScript_13 : decode cX6_startScript 13 = .ok (.getfield 128, 3) := by decide +kernel
theorem dX6_startScript_16 : decode cX6_startScript 16 = .ok (.aload_n 2, 1) := by decide +kernel
theorem dX6_startScript_17 : decode cX6_startScript 17 = .ok (.invokevirtual 284, 3) := by decide +kernel
theorem dX6_startScript_20 : decode cX6_startScript 20 = .ok (.aload_n 0, 1) := by decide +kernel
theorem dX6_startScript_21 : decode cX6_startScript 21 = .ok (.aload_n 1, 1) := by decide +kernel
theorem dX6_startScript_22 : decode cX6_startScript 22 = .ok (.aload_n 0, 1) := by decide +kernel
theorem dX6_startScript_23 : decode cX6_startScript 23 = .ok (.getfield 58, 3) := by decide +kernel
theorem dX6_startScript_26 : decode cX6_startScript 26 = .ok (.invokevirtual 238, 3) := by decide +kernel
theorem dX6_startScript_29 : decode cX6_startScript 29 = .ok (.return_, 1) := by decide +kernel
theorem dX6_goOn_0 : decode cX6_goOn 0 = .ok (.aload_n 1, 1) := by decide +kernel
theorem dX6_goOn_1 : decode cX6_goOn 1 = .ok (.getfield 128, 3) := by decide +kernel
theorem dX6_goOn_4 : decode cX6_goOn 4 = .ok (.astore_n 3, 1) := by decide +kernel
theorem dX6_goOn_5 : decode cX6_goOn 5 = .ok (.iconst 0, 1) := by decide +kernel
theorem dX6_goOn_6 : decode cX6_goOn 6 = .ok (.istore 4, 2) := by decide +kernel
theorem dX6_goOn_8 : decode cX6_goOn 8 = .ok (.iload 4, 2) := by decide +kernel
theorem dX6_goOn_10 : decode cX6_goOn 10 = .ok (.sipush 1000, 3) := by decide +kernel
theorem dX6_goOn_13 : decode cX6_goOn 13 = .ok (.if_icmp .ge 140, 3) := by decide +kernel
theorem dX6_goOn_16 : decode cX6_goOn 16 = .ok (.aload_n 3, 1) := by decide +kernel
theorem dX6_goOn_17 : decode cX6_goOn 17 = .ok (.invokevirtual 287, 3) := by decide +kernel
theorem dX6_goOn_20 : decode cX6_goOn 20 = .ok (.ifCond .ne 133, 3) := by decide +kernel
theorem dX6_goOn_23 : decode cX6_goOn 23 = .ok (.aload_n 3, 1) := by decide +kernel
theorem dX6_goOn_24 : decode cX6_goOn 24 = .ok (.aload_n 3, 1) := by decide +kernel
theorem dX6_goOn_25 : decode cX6_goOn 25 = .ok (.getfield 235, 3) := by decide +kernel
theorem dX6_goOn_28 : decode cX6_goOn 28 = .ok (.invokevirtual 290, 3) := by decide +kernel
theorem dX6_goOn_31 : decode cX6_goOn 31 = .ok (.istore 5, 2) := by decide +kernel
theorem dX6_goOn_33 : decode cX6_goOn 33 = .ok (.aload_n 3, 1) := by decide +kernel
theorem dX6_goOn_34 : decode cX6_goOn 34 = .ok (.aload_n 3, 1) := by decide +kernel
theorem dX6_goOn_35 : decode cX6_goOn 35 = .ok (.getfield 235, 3) := by decide +kernel
theorem dX6_goOn_38 : decode cX6_goOn 38 = .ok (.invokevirtual 294, 3) := by decide +kernel
theorem dX6_goOn_41 : decode cX6_goOn 41 = .ok (.tableswitch 102 0 3 #[31, 38, 53, 83], 31) := by decide +kernel
theorem dX6_goOn_72 : decode cX6_goOn 72 = .ok (.aload_n 3, 1) := by decide +kernel
theorem dX6_goOn_73 : decode cX6_goOn 73 = .ok (.iload 5, 2) := by decide +kernel
theorem dX6_goOn_75 : decode cX6_goOn 75 = .ok (.putfield 297, 3) := by decide +kernel
theorem dX6_goOn_78 : decode cX6_goOn 78 = .ok (.return_, 1) := by decide +kernel
theorem dX6_goOn_79 : decode cX6_goOn 79 = .ok (.aload_n 0, 1) := by decide +kernel
theorem dX6_goOn_80 : decode cX6_goOn 80 = .ok (.aload_n 1, 1) := by decide +kernel
theorem dX6_goOn_81 : decode cX6_goOn 81 = .ok (.iconst 2, 1) := by decide +kernel
theorem dX6_goOn_82 : decode cX6_goOn 82 = .ok (.invokevirtual 281, 3) := by decide +kernel
theorem dX6_goOn_85 : decode cX6_goOn 85 = .ok (.aload_n 1, 1) := by decide +kernel
theorem dX6_goOn_86 : decode cX6_goOn 86 = .ok (.iload_n 2, 1) := by decide +kernel
theorem dX6_goOn_87 : decode cX6_goOn 87 = .ok (.iload 5, 2) := by decide +kernel
theorem dX6_goOn_89 : decode cX6_goOn 89 = .ok (.iadd, 1) := by decide +kernel
theorem dX6_goOn_90 : decode cX6_goOn 90 = .ok (.putfield 232, 3) := by decide +kernel
theorem dX6_goOn_93 : decode cX6_goOn 93 = .ok (.return_, 1) := by decide +kernel
theorem dX6_goOn_94 : decode cX6_goOn 94 = .ok (.aload_n 0, 1) := by decide +kernel
theorem dX6_goOn_95 : decode cX6_goOn 95 = .ok (.aload_n 1, 1) := by decide +kernel
theorem dX6_goOn_96 : decode cX6_goOn 96 = .ok (.iload 5, 2) := by decide +kernel
theorem dX6_goOn_98 : decode cX6_goOn 98 = .ok (.invokevirtual 300, 3) := by decide +kernel
theorem dX6_goOn_101 : decode cX6_goOn 101 = .ok (.ifCond .eq 10, 3) := by decide +kernel
theorem dX6_goOn_104 : decode cX6_goOn 104 = .ok (.aload_n 0, 1) := by decide +kernel
theorem dX6_goOn_105 : decode cX6_goOn 105 = .ok (.aload_n 1, 1) := by decide +kernel
theorem dX6_goOn_106 : decode cX6_goOn 106 = .ok (.iload 5, 2) := by decide +kernel
theorem dX6_goOn_108 : decode cX6_goOn 108 = .ok (.invokevirtual 304, 3) := by decide +kernel
theorem dX6_goOn_111 : decode cX6_goOn 111 = .ok (.aload_n 3, 1) := by decide +kernel
theorem dX6_goOn_112 : decode cX6_goOn 112 = .ok (.dup, 1) := by decide +kernel
theorem dX6_goOn_113 : decode cX6_goOn 113 = .ok (.getfield 235, 3) := by decide +kernel
theorem dX6_goOn_116 : decode cX6_goOn 116 = .ok (.iconst 1, 1) := by decide +kernel
theorem dX6_goOn_117 : decode cX6_goOn 117 = .ok (.iadd, 1) := by decide +kernel
theorem dX6_goOn_118 : decode cX6_goOn 118 = .ok (.putfield 235, 3) := by decide +kernel
theorem dX6_goOn_121 : decode cX6_goOn 121 = .ok (.goto 26, 3) := by decide +kernel
theorem dX6_goOn_124 : decode cX6_goOn 124 = .ok (.aload_n 1, 1) := by decide +kernel
theorem dX6_goOn_125 : decode cX6_goOn 125 = .ok (.iload 5, 2) := by decide +kernel
theorem dX6_goOn_127 : decode cX6_goOn 127 = .ok (.invokevirtual 307, 3) := by decide +kernel
theorem dX6_goOn_130 : decode cX6_goOn 130 = .ok (.aload_n 3, 1) := by decide +kernel
theorem dX6_goOn_131 : decode cX6_goOn 131 = .ok (.dup, 1) := by decide +kernel
theorem dX6_goOn_132 : decode cX6_goOn 132 = .ok (.getfield 235, 3) := by decide +kernel
theorem dX6_goOn_135 : decode cX6_goOn 135 = .ok (.iconst 1, 1) := by decide +kernel
theorem dX6_goOn_136 : decode cX6_goOn 136 = .ok (.iadd, 1) := by decide +kernel
theorem dX6_goOn_137 : decode cX6_goOn 137 = .ok (.putfield 235, 3) := by decide +kernel
theorem dX6_goOn_140 : decode cX6_goOn 140 = .ok (.goto 7, 3) := by decide +kernel
theorem dX6_goOn_143 : decode cX6_goOn 143 = .ok (.aload_n 3, 1) := by decide +kernel
theorem dX6_goOn_144 : decode cX6_goOn 144 = .ok (.invokevirtual 310, 3) := by decide +kernel
theorem dX6_goOn_147 : decode cX6_goOn 147 = .ok (.iinc 4 1, 3) := by decide +kernel
theorem dX6_goOn_150 : decode cX6_goOn 150 = .ok (.goto (-142), 3) := by decide +kernel
theorem dX6_goOn_153 : decode cX6_goOn 153 = .ok (.aload_n 0, 1) := by decide +kernel
theorem dX6_goOn_154 : decode cX6_goOn 154 = .ok (.aload_n 1, 1) := by decide +kernel
theorem dX6_goOn_155 : decode cX6_goOn 155 = .ok (.iconst 0, 1) := by decide +kernel
theorem dX6_goOn_156 : decode cX6_goOn 156 = .ok (.invokevirtual 281, 3) := by decide +kernel
theorem dX6_goOn_159 : decode cX6_goOn 159 = .ok (.aload_n 3, 1) := by decide +kernel
theorem dX6_goOn_160 : decode cX6_goOn 160 = .ok (.invokevirtual 313, 3) := by decide +kernel
theorem dX6_goOn_163 : decode cX6_goOn 163 = .ok (.return_, 1) := by decide +kernel
theorem dX6_firstInLog_0 : decode cX6_firstInLog 0 = .ok (.iconst 0, 1) := by decide +kernel
theorem dX6_firstInLog_1 : decode cX6_firstInLog 1 = .ok (.aload_n 0, 1) := by decide +kernel
theorem dX6_firstInLog_2 : decode cX6_firstInLog 2 = .ok (.getfield 58, 3) := by decide +kernel
theorem dX6_firstInLog_5 : decode cX6_firstInLog 5 = .ok (.sipush 128, 3) := by decide +kernel
theorem dX6_firstInLog_8 : decode cX6_firstInLog 8 = .ok (.isub, 1) := by decide +kernel
theorem dX6_firstInLog_9 : decode cX6_firstInLog 9 = .ok (.invokestatic 174, 3) := by decide +kernel
theorem dX6_firstInLog_12 : decode cX6_firstInLog 12 = .ok (.ireturn, 1) := by decide +kernel
theorem dX6_logHolds_0 : decode cX6_logHolds 0 = .ok (.iload_n 1, 1) := by decide +kernel
theorem dX6_logHolds_1 : decode cX6_logHolds 1 = .ok (.aload_n 0, 1) := by decide +kernel
theorem dX6_logHolds_2 : decode cX6_logHolds 2 = .ok (.invokevirtual 316, 3) := by decide +kernel
theorem dX6_logHolds_5 : decode cX6_logHolds 5 = .ok (.if_icmp .lt 15, 3) := by decide +kernel
theorem dX6_logHolds_8 : decode cX6_logHolds 8 = .ok (.iload_n 1, 1) := by decide +kernel
theorem dX6_logHolds_9 : decode cX6_logHolds 9 = .ok (.aload_n 0, 1) := by decide +kernel
theorem dX6_logHolds_10 : decode cX6_logHolds 10 = .ok (.getfield 58, 3) := by decide +kernel
theorem dX6_logHolds_13 : decode cX6_logHolds 13 = .ok (.if_icmp .ge 7, 3) := by decide +kernel
theorem dX6_logHolds_16 : decode cX6_logHolds 16 = .ok (.iconst 1, 1) := by decide +kernel
theorem dX6_logHolds_17 : decode cX6_logHolds 17 = .ok (.goto 4, 3) := by decide +kernel
theorem dX6_logHolds_20 : decode cX6_logHolds 20 = .ok (.iconst 0, 1) := by decide +kernel
theorem dX6_logHolds_21 : decode cX6_logHolds 21 = .ok (.ireturn, 1) := by decide +kernel
theorem dX6_isWindow_0 : decode cX6_isWindow 0 = .ok (.iload_n 1, 1) := by decide +kernel
theorem dX6_isWindow_1 : decode cX6_isWindow 1 = .ok (.iload_n 2, 1) := by decide +kernel
theorem dX6_isWindow_2 : decode cX6_isWindow 2 = .ok (.if_icmp .eq 24, 3) := by decide +kernel
theorem dX6_isWindow_5 : decode cX6_isWindow 5 = .ok (.iload_n 1, 1) := by decide +kernel
theorem dX6_isWindow_6 : decode cX6_isWindow 6 = .ok (.iload_n 2, 1) := by decide +kernel
theorem dX6_isWindow_7 : decode cX6_isWindow 7 = .ok (.if_icmp .ge 23, 3) := by decide +kernel
theorem dX6_isWindow_10 : decode cX6_isWindow 10 = .ok (.iload_n 1, 1) := by decide +kernel
theorem dX6_isWindow_11 : decode cX6_isWindow 11 = .ok (.aload_n 0, 1) := by decide +kernel
theorem dX6_isWindow_12 : decode cX6_isWindow 12 = .ok (.invokevirtual 316, 3) := by decide +kernel
theorem dX6_isWindow_15 : decode cX6_isWindow 15 = .ok (.if_icmp .lt 15, 3) := by decide +kernel
theorem dX6_isWindow_18 : decode cX6_isWindow 18 = .ok (.iload_n 2, 1) := by decide +kernel
theorem dX6_isWindow_19 : decode cX6_isWindow 19 = .ok (.aload_n 0, 1) := by decide +kernel
theorem dX6_isWindow_20 : decode cX6_isWindow 20 = .ok (.getfield 58, 3) := by decide +kernel
theorem dX6_isWindow_23 : decode cX6_isWindow 23 = .ok (.if_icmp .gt 7, 3) := by decide +kernel
theorem dX6_isWindow_26 : decode cX6_isWindow 26 = .ok (.iconst 1, 1) := by decide +kernel
theorem dX6_isWindow_27 : decode cX6_isWindow 27 = .ok (.goto 4, 3) := by decide +kernel
theorem dX6_isWindow_30 : decode cX6_isWindow 30 = .ok (.iconst 0, 1) := by decide +kernel
theorem dX6_isWindow_31 : decode cX6_isWindow 31 = .ok (.ireturn, 1) := by decide +kernel
theorem dX7_init_0 : decode cX7_init 0 = .ok (.aload_n 0, 1) := by decide +kernel
theorem dX7_init_1 : decode cX7_init 1 = .ok (.invokespecial 3, 3) := by decide +kernel
theorem dX7_init_4 : decode cX7_init 4 = .ok (.aload_n 0, 1) := by decide +kernel
theorem dX7_init_5 : decode cX7_init 5 = .ok (.sipush 200, 3) := by decide +kernel
theorem dX7_init_8 : decode cX7_init 8 = .ok (.newarray .byte, 2) := by decide +kernel
theorem dX7_init_10 : decode cX7_init 10 = .ok (.putfield 11, 3) := by decide +kernel
theorem dX7_init_13 : decode cX7_init 13 = .ok (.return_, 1) := by decide +kernel
theorem dX7_hasRoomForFive_0 : decode cX7_hasRoomForFive 0 = .ok (.aload_n 0, 1) := by decide +kernel
theorem dX7_hasRoomForFive_1 : decode cX7_hasRoomForFive 1 = .ok (.getfield 15, 3) := by decide +kernel
theorem dX7_hasRoomForFive_4 : decode cX7_hasRoomForFive 4 = .ok (.bipush 20, 2) := by decide +kernel
theorem dX7_hasRoomForFive_6 : decode cX7_hasRoomForFive 6 = .ok (.iadd, 1) := by decide +kernel
theorem dX7_hasRoomForFive_7 : decode cX7_hasRoomForFive 7 = .ok (.sipush 200, 3) := by decide +kernel
theorem dX7_hasRoomForFive_10 : decode cX7_hasRoomForFive 10 = .ok (.if_icmp .gt 7, 3) := by decide +kernel
theorem dX7_hasRoomForFive_13 : decode cX7_hasRoomForFive 13 = .ok (.iconst 1, 1) := by decide +kernel
theorem dX7_hasRoomForFive_14 : decode cX7_hasRoomForFive 14 = .ok (.goto 4, 3) := by decide +kernel
theorem dX7_hasRoomForFive_17 : decode cX7_hasRoomForFive 17 = .ok (.iconst 0, 1) := by decide +kernel
theorem dX7_hasRoomForFive_18 : decode cX7_hasRoomForFive 18 = .ok (.ireturn, 1) := by decide +kernel
theorem dX7_addFour_0 : decode cX7_addFour 0 = .ok (.aload_n 0, 1) := by decide +kernel
theorem dX7_addFour_1 : decode cX7_addFour 1 = .ok (.iload_n 1, 1) := by decide +kernel
theorem dX7_addFour_2 : decode cX7_addFour 2 = .ok (.bipush 24, 2) := by decide +kernel
theorem dX7_addFour_4 : decode cX7_addFour 4 = .ok (.iushr, 1) := by decide +kernel
theorem dX7_addFour_5 : decode cX7_addFour 5 = .ok (.invokevirtual 19, 3) := by decide +kernel
theorem dX7_addFour_8 : decode cX7_addFour 8 = .ok (.aload_n 0, 1) := by decide +kernel
theorem dX7_addFour_9 : decode cX7_addFour 9 = .ok (.iload_n 1, 1) := by decide +kernel
theorem dX7_addFour_10 : decode cX7_addFour 10 = .ok (.bipush 16, 2) := by decide +kernel
theorem dX7_addFour_12 : decode cX7_addFour 12 = .ok (.iushr, 1) := by decide +kernel
theorem dX7_addFour_13 : decode cX7_addFour 13 = .ok (.invokevirtual 19, 3) := by decide +kernel
theorem dX7_addFour_16 : decode cX7_addFour 16 = .ok (.aload_n 0, 1) := by decide +kernel
theorem dX7_addFour_17 : decode cX7_addFour 17 = .ok (.iload_n 1, 1) := by decide +kernel
theorem dX7_addFour_18 : decode cX7_addFour 18 = .ok (.bipush 8, 2) := by decide +kernel
theorem dX7_addFour_20 : decode cX7_addFour 20 = .ok (.iushr, 1) := by decide +kernel
theorem dX7_addFour_21 : decode cX7_addFour 21 = .ok (.invokevirtual 19, 3) := by decide +kernel
theorem dX7_addFour_24 : decode cX7_addFour 24 = .ok (.aload_n 0, 1) := by decide +kernel
theorem dX7_addFour_25 : decode cX7_addFour 25 = .ok (.iload_n 1, 1) := by decide +kernel
theorem dX7_addFour_26 : decode cX7_addFour 26 = .ok (.invokevirtual 19, 3) := by decide +kernel
theorem dX7_addFour_29 : decode cX7_addFour 29 = .ok (.return_, 1) := by decide +kernel
theorem dX7_add_0 : decode cX7_add 0 = .ok (.aload_n 0, 1) := by decide +kernel
theorem dX7_add_1 : decode cX7_add 1 = .ok (.getfield 15, 3) := by decide +kernel
theorem dX7_add_4 : decode cX7_add 4 = .ok (.ifCond .lt 34, 3) := by decide +kernel
theorem dX7_add_7 : decode cX7_add 7 = .ok (.aload_n 0, 1) := by decide +kernel
theorem dX7_add_8 : decode cX7_add 8 = .ok (.getfield 15, 3) := by decide +kernel
theorem dX7_add_11 : decode cX7_add 11 = .ok (.sipush 200, 3) := by decide +kernel
theorem dX7_add_14 : decode cX7_add 14 = .ok (.if_icmp .ge 24, 3) := by decide +kernel
theorem dX7_add_17 : decode cX7_add 17 = .ok (.aload_n 0, 1) := by decide +kernel
theorem dX7_add_18 : decode cX7_add 18 = .ok (.getfield 11, 3) := by decide +kernel
theorem dX7_add_21 : decode cX7_add 21 = .ok (.aload_n 0, 1) := by decide +kernel
theorem dX7_add_22 : decode cX7_add 22 = .ok (.getfield 15, 3) := by decide +kernel
theorem dX7_add_25 : decode cX7_add 25 = .ok (.iload_n 1, 1) := by decide +kernel
theorem dX7_add_26 : decode cX7_add 26 = .ok (.i2b, 1) := by decide +kernel
theorem dX7_add_27 : decode cX7_add 27 = .ok (.bastore, 1) := by decide +kernel
theorem dX7_add_28 : decode cX7_add 28 = .ok (.aload_n 0, 1) := by decide +kernel
theorem dX7_add_29 : decode cX7_add 29 = .ok (.dup, 1) := by decide +kernel
theorem dX7_add_30 : decode cX7_add 30 = .ok (.getfield 15, 3) := by decide +kernel
theorem dX7_add_33 : decode cX7_add 33 = .ok (.iconst 1, 1) := by decide +kernel
theorem dX7_add_34 : decode cX7_add 34 = .ok (.iadd, 1) := by decide +kernel
theorem dX7_add_35 : decode cX7_add 35 = .ok (.putfield 15, 3) := by decide +kernel
theorem dX7_add_38 : decode cX7_add 38 = .ok (.return_, 1) := by decide +kernel
theorem dX7_addWord_0 : decode cX7_addWord 0 = .ok (.iconst 0, 1) := by decide +kernel
theorem dX7_addWord_1 : decode cX7_addWord 1 = .ok (.istore_n 2, 1) := by decide +kernel
theorem dX7_addWord_2 : decode cX7_addWord 2 = .ok (.iload_n 2, 1) := by decide +kernel
theorem dX7_addWord_3 : decode cX7_addWord 3 = .ok (.aload_n 1, 1) := by decide +kernel
theorem dX7_addWord_4 : decode cX7_addWord 4 = .ok (.invokevirtual 23, 3) := by decide +kernel
theorem dX7_addWord_7 : decode cX7_addWord 7 = .ok (.if_icmp .ge 18, 3) := by decide +kernel
theorem dX7_addWord_10 : decode cX7_addWord 10 = .ok (.aload_n 0, 1) := by decide +kernel
theorem dX7_addWord_11 : decode cX7_addWord 11 = .ok (.aload_n 1, 1) := by decide +kernel
theorem dX7_addWord_12 : decode cX7_addWord 12 = .ok (.iload_n 2, 1) := by decide +kernel
theorem dX7_addWord_13 : decode cX7_addWord 13 = .ok (.invokevirtual 28, 3) := by decide +kernel
theorem dX7_addWord_16 : decode cX7_addWord 16 = .ok (.invokevirtual 19, 3) := by decide +kernel
theorem dX7_addWord_19 : decode cX7_addWord 19 = .ok (.iinc 2 1, 3) := by decide +kernel
theorem dX7_addWord_22 : decode cX7_addWord 22 = .ok (.goto (-20), 3) := by decide +kernel
theorem dX7_addWord_25 : decode cX7_addWord 25 = .ok (.return_, 1) := by decide +kernel
theorem dX7_addNumber_0 : decode cX7_addNumber 0 = .ok (.iload_n 1, 1) := by decide +kernel
theorem dX7_addNumber_1 : decode cX7_addNumber 1 = .ok (.bipush 10, 2) := by decide +kernel
theorem dX7_addNumber_3 : decode cX7_addNumber 3 = .ok (.if_icmp .lt 17, 3) := by decide +kernel
theorem dX7_addNumber_6 : decode cX7_addNumber 6 = .ok (.aload_n 0, 1) := by decide +kernel
theorem dX7_addNumber_7 : decode cX7_addNumber 7 = .ok (.bipush 48, 2) := by decide +kernel
theorem dX7_addNumber_9 : decode cX7_addNumber 9 = .ok (.iload_n 1, 1) := by decide +kernel
theorem dX7_addNumber_10 : decode cX7_addNumber 10 = .ok (.bipush 10, 2) := by decide +kernel
theorem dX7_addNumber_12 : decode cX7_addNumber 12 = .ok (.idiv, 1) := by decide +kernel
theorem dX7_addNumber_13 : decode cX7_addNumber 13 = .ok (.bipush 10, 2) := by decide +kernel
theorem dX7_addNumber_15 : decode cX7_addNumber 15 = .ok (.irem, 1) := by decide +kernel
theorem dX7_addNumber_16 : decode cX7_addNumber 16 = .ok (.iadd, 1) := by decide +kernel
theorem dX7_addNumber_17 : decode cX7_addNumber 17 = .ok (.invokevirtual 19, 3) := by decide +kernel
theorem dX7_addNumber_20 : decode cX7_addNumber 20 = .ok (.aload_n 0, 1) := by decide +kernel
theorem dX7_addNumber_21 : decode cX7_addNumber 21 = .ok (.bipush 48, 2) := by decide +kernel
theorem dX7_addNumber_23 : decode cX7_addNumber 23 = .ok (.iload_n 1, 1) := by decide +kernel
theorem dX7_addNumber_24 : decode cX7_addNumber 24 = .ok (.bipush 10, 2) := by decide +kernel
theorem dX7_addNumber_26 : decode cX7_addNumber 26 = .ok (.irem, 1) := by decide +kernel
theorem dX7_addNumber_27 : decode cX7_addNumber 27 = .ok (.iadd, 1) := by decide +kernel
theorem dX7_addNumber_28 : decode cX7_addNumber 28 = .ok (.invokevirtual 19, 3) := by decide +kernel
theorem dX7_addNumber_31 : decode cX7_addNumber 31 = .ok (.return_, 1) := by decide +kernel
theorem dX7_byteAt_0 : decode cX7_byteAt 0 = .ok (.iload_n 1, 1) := by decide +kernel
theorem dX7_byteAt_1 : decode cX7_byteAt 1 = .ok (.ifCond .lt 31, 3) := by decide +kernel
theorem dX7_byteAt_4 : decode cX7_byteAt 4 = .ok (.iload_n 1, 1) := by decide +kernel
theorem dX7_byteAt_5 : decode cX7_byteAt 5 = .ok (.aload_n 0, 1) := by decide +kernel
theorem dX7_byteAt_6 : decode cX7_byteAt 6 = .ok (.getfield 15, 3) := by decide +kernel
theorem dX7_byteAt_9 : decode cX7_byteAt 9 = .ok (.if_icmp .ge 23, 3) := by decide +kernel
theorem dX7_byteAt_12 : decode cX7_byteAt 12 = .ok (.iload_n 1, 1) := by decide +kernel
theorem dX7_byteAt_13 : decode cX7_byteAt 13 = .ok (.sipush 200, 3) := by decide +kernel
theorem dX7_byteAt_16 : decode cX7_byteAt 16 = .ok (.if_icmp .ge 16, 3) := by decide +kernel
theorem dX7_byteAt_19 : decode cX7_byteAt 19 = .ok (.aload_n 0, 1) := by decide +kernel
theorem dX7_byteAt_20 : decode cX7_byteAt 20 = .ok (.getfield 11, 3) := by decide +kernel
theorem dX7_byteAt_23 : decode cX7_byteAt 23 = .ok (.iload_n 1, 1) := by decide +kernel
theorem dX7_byteAt_24 : decode cX7_byteAt 24 = .ok (.baload, 1) := by decide +kernel
theorem dX7_byteAt_25 : decode cX7_byteAt 25 = .ok (.sipush 255, 3) := by decide +kernel
theorem dX7_byteAt_28 : decode cX7_byteAt 28 = .ok (.iand, 1) := by decide +kernel
theorem dX7_byteAt_29 : decode cX7_byteAt 29 = .ok (.goto 4, 3) := by decide +kernel
theorem dX7_byteAt_32 : decode cX7_byteAt 32 = .ok (.iconst (-1), 1) := by decide +kernel
theorem dX7_byteAt_33 : decode cX7_byteAt 33 = .ok (.ireturn, 1) := by decide +kernel
theorem dX8_init_0 : decode cX8_init 0 = .ok (.aload_n 0, 1) := by decide +kernel
theorem dX8_init_1 : decode cX8_init 1 = .ok (.invokespecial 3, 3) := by decide +kernel
theorem dX8_init_4 : decode cX8_init 4 = .ok (.aload_n 0, 1) := by decide +kernel
theorem dX8_init_5 : decode cX8_init 5 = .ok (.new 9, 3) := by decide +kernel
theorem dX8_init_8 : decode cX8_init 8 = .ok (.dup, 1) := by decide +kernel
theorem dX8_init_9 : decode cX8_init 9 = .ok (.invokespecial 11, 3) := by decide +kernel
theorem dX8_init_12 : decode cX8_init 12 = .ok (.putfield 12, 3) := by decide +kernel
theorem dX8_init_15 : decode cX8_init 15 = .ok (.aload_n 0, 1) := by decide +kernel
theorem dX8_init_16 : decode cX8_init 16 = .ok (.new 18, 3) := by decide +kernel
theorem dX8_init_19 : decode cX8_init 19 = .ok (.dup, 1) := by decide +kernel
theorem dX8_init_20 : decode cX8_init 20 = .ok (.invokespecial 20, 3) := by decide +kernel
theorem dX8_init_23 : decode cX8_init 23 = .ok (.putfield 21, 3) := by decide +kernel
theorem dX8_init_26 : decode cX8_init 26 = .ok (.aload_n 0, 1) := by decide +kernel
theorem dX8_init_27 : decode cX8_init 27 = .ok (.iload_n 1, 1) := by decide +kernel
theorem dX8_init_28 : decode cX8_init 28 = .ok (.putfield 25, 3) := by decide +kernel
theorem dX8_init_31 : decode cX8_init 31 = .ok (.return_, 1) := by decide +kernel
theorem dX8_startAnew_0 : decode cX8_startAnew 0 = .ok (.aload_n 0, 1) := by decide +kernel
theorem dX8_startAnew_1 : decode cX8_startAnew 1 = .ok (.getfield 12, 3) := by decide +kernel
theorem dX8_startAnew_4 : decode cX8_startAnew 4 = .ok (.invokevirtual 29, 3) := by decide +kernel
theorem dX8_startAnew_7 : decode cX8_startAnew 7 = .ok (.aload_n 0, 1) := by decide +kernel
theorem dX8_startAnew_8 : decode cX8_startAnew 8 = .ok (.iload_n 1, 1) := by decide +kernel
theorem dX8_startAnew_9 : decode cX8_startAnew 9 = .ok (.putfield 32, 3) := by decide +kernel
theorem dX8_startAnew_12 : decode cX8_startAnew 12 = .ok (.aload_n 0, 1) := by decide +kernel
theorem dX8_startAnew_13 : decode cX8_startAnew 13 = .ok (.iload_n 2, 1) := by decide +kernel
theorem dX8_startAnew_14 : decode cX8_startAnew 14 = .ok (.putfield 35, 3) := by decide +kernel
theorem dX8_startAnew_17 : decode cX8_startAnew 17 = .ok (.aload_n 0, 1) := by decide +kernel
theorem dX8_startAnew_18 : decode cX8_startAnew 18 = .ok (.iconst 0, 1) := by decide +kernel
theorem dX8_startAnew_19 : decode cX8_startAnew 19 = .ok (.putfield 38, 3) := by decide +kernel
theorem dX8_startAnew_22 : decode cX8_startAnew 22 = .ok (.aload_n 0, 1) := by decide +kernel
theorem dX8_startAnew_23 : decode cX8_startAnew 23 = .ok (.lconst 0, 1) := by decide +kernel
theorem dX8_startAnew_24 : decode cX8_startAnew 24 = .ok (.putfield 41, 3) := by decide +kernel
theorem dX8_startAnew_27 : decode cX8_startAnew 27 = .ok (.aload_n 0, 1) := by decide +kernel
theorem dX8_startAnew_28 : decode cX8_startAnew 28 = .ok (.iconst 0, 1) := by decide +kernel
theorem dX8_startAnew_29 : decode cX8_startAnew 29 = .ok (.putfield 45, 3) := by decide +kernel
theorem dX8_startAnew_32 : decode cX8_startAnew 32 = .ok (.aload_n 0, 1) := by decide +kernel
theorem dX8_startAnew_33 : decode cX8_startAnew 33 = .ok (.getfield 21, 3) := by decide +kernel
theorem dX8_startAnew_36 : decode cX8_startAnew 36 = .ok (.lconst 0, 1) := by decide +kernel
theorem dX8_startAnew_37 : decode cX8_startAnew 37 = .ok (.invokevirtual 48, 3) := by decide +kernel
theorem dX8_startAnew_40 : decode cX8_startAnew 40 = .ok (.aload_n 0, 1) := by decide +kernel
theorem dX8_startAnew_41 : decode cX8_startAnew 41 = .ok (.iconst 1, 1) := by decide +kernel
theorem dX8_startAnew_42 : decode cX8_startAnew 42 = .ok (.putfield 52, 3) := by decide +kernel
theorem dX8_startAnew_45 : decode cX8_startAnew 45 = .ok (.aload_n 0, 1) := by decide +kernel
theorem dX8_startAnew_46 : decode cX8_startAnew 46 = .ok (.iconst 0, 1) := by decide +kernel
theorem dX8_startAnew_47 : decode cX8_startAnew 47 = .ok (.putfield 55, 3) := by decide +kernel
theorem dX8_startAnew_50 : decode cX8_startAnew 50 = .ok (.aload_n 0, 1) := by decide +kernel
theorem dX8_startAnew_51 : decode cX8_startAnew 51 = .ok (.iconst 0, 1) := by decide +kernel
theorem dX8_startAnew_52 : decode cX8_startAnew 52 = .ok (.putfield 58, 3) := by decide +kernel
theorem dX8_startAnew_55 : decode cX8_startAnew 55 = .ok (.aload_n 0, 1) := by decide +kernel
theorem dX8_startAnew_56 : decode cX8_startAnew 56 = .ok (.iconst 0, 1) := by decide +kernel
theorem dX8_startAnew_57 : decode cX8_startAnew 57 = .ok (.putfield 61, 3) := by decide +kernel
theorem dX8_startAnew_60 : decode cX8_startAnew 60 = .ok (.aload_n 0, 1) := by decide +kernel
theorem dX8_startAnew_61 : decode cX8_startAnew 61 = .ok (.iconst 0, 1) := by decide +kernel
theorem dX8_startAnew_62 : decode cX8_startAnew 62 = .ok (.putfield 64, 3) := by decide +kernel
theorem dX8_startAnew_65 : decode cX8_startAnew 65 = .ok (.aload_n 0, 1) := by decide +kernel
theorem dX8_startAnew_66 : decode cX8_startAnew 66 = .ok (.iconst 0, 1) := by decide +kernel
theorem dX8_startAnew_67 : decode cX8_startAnew 67 = .ok (.putfield 67, 3) := by decide +kernel
theorem dX8_startAnew_70 : decode cX8_startAnew 70 = .ok (.aload_n 0, 1) := by decide +kernel
theorem dX8_startAnew_71 : decode cX8_startAnew 71 = .ok (.iconst 0, 1) := by decide +kernel
theorem dX8_startAnew_72 : decode cX8_startAnew 72 = .ok (.putfield 70, 3) := by decide +kernel
theorem dX8_startAnew_75 : decode cX8_startAnew 75 = .ok (.aload_n 0, 1) := by decide +kernel
theorem dX8_startAnew_76 : decode cX8_startAnew 76 = .ok (.iconst 0, 1) := by decide +kernel
theorem dX8_startAnew_77 : decode cX8_startAnew 77 = .ok (.iconst 0, 1) := by decide +kernel
theorem dX8_startAnew_78 : decode cX8_startAnew 78 = .ok (.invokevirtual 73, 3) := by decide +kernel
theorem dX8_startAnew_81 : decode cX8_startAnew 81 = .ok (.return_, 1) := by decide +kernel
theorem dX8_copy_0 : decode cX8_copy 0 = .ok (.aload_n 0, 1) := by decide +kernel
theorem dX8_copy_1 : decode cX8_copy 1 = .ok (.getfield 12, 3) := by decide +kernel
theorem dX8_copy_4 : decode cX8_copy 4 = .ok (.aload_n 1, 1) := by decide +kernel
theorem dX8_copy_5 : decode cX8_copy 5 = .ok (.getfield 12, 3) := by decide +kernel
theorem dX8_copy_8 : decode cX8_copy 8 = .ok (.invokevirtual 77, 3) := by decide +kernel
theorem dX8_copy_11 : decode cX8_copy 11 = .ok (.aload_n 0, 1) := by decide +kernel
theorem dX8_copy_12 : decode cX8_copy 12 = .ok (.aload_n 1, 1) := by decide +kernel
theorem dX8_copy_13 : decode cX8_copy 13 = .ok (.getfield 32, 3) := by decide +kernel
theorem dX8_copy_16 : decode cX8_copy 16 = .ok (.putfield 32, 3) := by decide +kernel
theorem dX8_copy_19 : decode cX8_copy 19 = .ok (.aload_n 0, 1) := by decide +kernel
theorem dX8_copy_20 : decode cX8_copy 20 = .ok (.aload_n 1, 1) := by decide +kernel
theorem dX8_copy_21 : decode cX8_copy 21 = .ok (.getfield 35, 3) := by decide +kernel
theorem dX8_copy_24 : decode cX8_copy 24 = .ok (.putfield 35, 3) := by decide +kernel
theorem dX8_copy_27 : decode cX8_copy 27 = .ok (.aload_n 0, 1) := by decide +kernel
theorem dX8_copy_28 : decode cX8_copy 28 = .ok (.aload_n 1, 1) := by decide +kernel
theorem dX8_copy_29 : decode cX8_copy 29 = .ok (.getfield 38, 3) := by decide +kernel
theorem dX8_copy_32 : decode cX8_copy 32 = .ok (.putfield 38, 3) := by decide +kernel
theorem dX8_copy_35 : decode cX8_copy 35 = .ok (.aload_n 0, 1) := by decide +kernel
theorem dX8_copy_36 : decode cX8_copy 36 = .ok (.aload_n 1, 1) := by decide +kernel
theorem dX8_copy_37 : decode cX8_copy 37 = .ok (.getfield 41, 3) := by decide +kernel
theorem dX8_copy_40 : decode cX8_copy 40 = .ok (.putfield 41, 3) := by decide +kernel
theorem dX8_copy_43 : decode cX8_copy 43 = .ok (.aload_n 0, 1) := by decide +kernel
theorem dX8_copy_44 : decode cX8_copy 44 = .ok (.aload_n 1, 1) := by decide +kernel
theorem dX8_copy_45 : decode cX8_copy 45 = .ok (.getfield 45, 3) := by decide +kernel
theorem dX8_copy_48 : decode cX8_copy 48 = .ok (.putfield 45, 3) := by decide +kernel
theorem dX8_copy_51 : decode cX8_copy 51 = .ok (.aload_n 0, 1) := by decide +kernel
theorem dX8_copy_52 : decode cX8_copy 52 = .ok (.getfield 21, 3) := by decide +kernel
theorem dX8_copy_55 : decode cX8_copy 55 = .ok (.aload_n 1, 1) := by decide +kernel
theorem dX8_copy_56 : decode cX8_copy 56 = .ok (.getfield 21, 3) := by decide +kernel
theorem dX8_copy_59 : decode cX8_copy 59 = .ok (.invokevirtual 81, 3) := by decide +kernel
theorem dX8_copy_62 : decode cX8_copy 62 = .ok (.aload_n 0, 1) := by decide +kernel
theorem dX8_copy_63 : decode cX8_copy 63 = .ok (.aload_n 1, 1) := by decide +kernel
theorem dX8_copy_64 : decode cX8_copy 64 = .ok (.getfield 52, 3) := by decide +kernel
theorem dX8_copy_67 : decode cX8_copy 67 = .ok (.putfield 52, 3) := by decide +kernel
theorem dX8_copy_70 : decode cX8_copy 70 = .ok (.aload_n 0, 1) := by decide +kernel
theorem dX8_copy_71 : decode cX8_copy 71 = .ok (.aload_n 1, 1) := by decide +kernel
theorem dX8_copy_72 : decode cX8_copy 72 = .ok (.getfield 55, 3) := by decide +kernel
theorem dX8_copy_75 : decode cX8_copy 75 = .ok (.putfield 55, 3) := by decide +kernel
theorem dX8_copy_78 : decode cX8_copy 78 = .ok (.aload_n 0, 1) := by decide +kernel
theorem dX8_copy_79 : decode cX8_copy 79 = .ok (.aload_n 1, 1) := by decide +kernel
theorem dX8_copy_80 : decode cX8_copy 80 = .ok (.getfield 58, 3) := by decide +kernel
theorem dX8_copy_83 : decode cX8_copy 83 = .ok (.putfield 58, 3) := by decide +kernel
theorem dX8_copy_86 : decode cX8_copy 86 = .ok (.aload_n 0, 1) := by decide +kernel
theorem dX8_copy_87 : decode cX8_copy 87 = .ok (.aload_n 1, 1) := by decide +kernel
theorem dX8_copy_88 : decode cX8_copy 88 = .ok (.getfield 61, 3) := by decide +kernel
theorem dX8_copy_91 : decode cX8_copy 91 = .ok (.putfield 61, 3) := by decide +kernel
theorem dX8_copy_94 : decode cX8_copy 94 = .ok (.aload_n 0, 1) := by decide +kernel
theorem dX8_copy_95 : decode cX8_copy 95 = .ok (.aload_n 1, 1) := by decide +kernel
theorem dX8_copy_96 : decode cX8_copy 96 = .ok (.getfield 64, 3) := by decide +kernel
theorem dX8_copy_99 : decode cX8_copy 99 = .ok (.putfield 64, 3) := by decide +kernel
theorem dX8_copy_102 : decode cX8_copy 102 = .ok (.aload_n 0, 1) := by decide +kernel
theorem dX8_copy_103 : decode cX8_copy 103 = .ok (.aload_n 1, 1) := by decide +kernel
theorem dX8_copy_104 : decode cX8_copy 104 = .ok (.getfield 67, 3) := by decide +kernel
theorem dX8_copy_107 : decode cX8_copy 107 = .ok (.putfield 67, 3) := by decide +kernel
theorem dX8_copy_110 : decode cX8_copy 110 = .ok (.aload_n 0, 1) := by decide +kernel
theorem dX8_copy_111 : decode cX8_copy 111 = .ok (.aload_n 1, 1) := by decide +kernel
theorem dX8_copy_112 : decode cX8_copy 112 = .ok (.getfield 70, 3) := by decide +kernel
theorem dX8_copy_115 : decode cX8_copy 115 = .ok (.putfield 70, 3) := by decide +kernel
theorem dX8_copy_118 : decode cX8_copy 118 = .ok (.aload_n 0, 1) := by decide +kernel
theorem dX8_copy_119 : decode cX8_copy 119 = .ok (.aload_n 1, 1) := by decide +kernel
theorem dX8_copy_120 : decode cX8_copy 120 = .ok (.getfield 84, 3) := by decide +kernel
theorem dX8_copy_123 : decode cX8_copy 123 = .ok (.putfield 84, 3) := by decide +kernel
theorem dX8_copy_126 : decode cX8_copy 126 = .ok (.aload_n 0, 1) := by decide +kernel
theorem dX8_copy_127 : decode cX8_copy 127 = .ok (.aload_n 1, 1) := by decide +kernel
theorem dX8_copy_128 : decode cX8_copy 128 = .ok (.getfield 87, 3) := by decide +kernel
theorem dX8_copy_131 : decode cX8_copy 131 = .ok (.putfield 87, 3) := by decide +kernel
theorem dX8_copy_134 : decode cX8_copy 134 = .ok (.aload_n 0, 1) := by decide +kernel
theorem dX8_copy_135 : decode cX8_copy 135 = .ok (.aload_n 1, 1) := by decide +kernel
theorem dX8_copy_136 : decode cX8_copy 136 = .ok (.getfield 90, 3) := by decide +kernel
theorem dX8_copy_139 : decode cX8_copy 139 = .ok (.putfield 90, 3) := by decide +kernel
theorem dX8_copy_142 : decode cX8_copy 142 = .ok (.return_, 1) := by decide +kernel
theorem dX8_isOn_0 : decode cX8_isOn 0 = .ok (.aload_n 0, 1) := by decide +kernel
theorem dX8_isOn_1 : decode cX8_isOn 1 = .ok (.getfield 38, 3) := by decide +kernel
theorem dX8_isOn_4 : decode cX8_isOn 4 = .ok (.iconst 1, 1) := by decide +kernel
theorem dX8_isOn_5 : decode cX8_isOn 5 = .ok (.if_icmp .ne 7, 3) := by decide +kernel
theorem dX8_isOn_8 : decode cX8_isOn 8 = .ok (.iconst 1, 1) := by decide +kernel
theorem dX8_isOn_9 : decode cX8_isOn 9 = .ok (.goto 4, 3) := by decide +kernel
theorem dX8_isOn_12 : decode cX8_isOn 12 = .ok (.iconst 0, 1) := by decide +kernel
theorem dX8_isOn_13 : decode cX8_isOn 13 = .ok (.ireturn, 1) := by decide +kernel
theorem dX8_isSpent_0 : decode cX8_isSpent 0 = .ok (.aload_n 0, 1) := by decide +kernel
theorem dX8_isSpent_1 : decode cX8_isSpent 1 = .ok (.getfield 87, 3) := by decide +kernel
theorem dX8_isSpent_4 : decode cX8_isSpent 4 = .ok (.ifCond .le 14, 3) := by decide +kernel
theorem dX8_isSpent_7 : decode cX8_isSpent 7 = .ok (.aload_n 0, 1) := by decide +kernel
theorem dX8_isSpent_8 : decode cX8_isSpent 8 = .ok (.getfield 84, 3) := by decide +kernel
theorem dX8_isSpent_11 : decode cX8_isSpent 11 = .ok (.ifCond .ne 7, 3) := by decide +kernel
theorem dX8_isSpent_14 : decode cX8_isSpent 14 = .ok (.iconst 1, 1) := by decide +kernel
theorem dX8_isSpent_15 : decode cX8_isSpent 15 = .ok (.goto 4, 3) := by decide +kernel
theorem dX8_isSpent_18 : decode cX8_isSpent 18 = .ok (.iconst 0, 1) := by decide +kernel
theorem dX8_isSpent_19 : decode cX8_isSpent 19 = .ok (.ireturn, 1) := by decide +kernel
theorem dX8_deadline_0 : decode cX8_deadline 0 = .ok (.aload_n 0, 1) := by decide +kernel
theorem dX8_deadline_1 : decode cX8_deadline 1 = .ok (.getfield 41, 3) := by decide +kernel
theorem dX8_deadline_4 : decode cX8_deadline 4 = .ok (.aload_n 0, 1) := by decide +kernel
theorem dX8_deadline_5 : decode cX8_deadline 5 = .ok (.getfield 45, 3) := by decide +kernel
theorem dX8_deadline_8 : decode cX8_deadline 8 = .ok (.i2l, 1) := by decide +kernel
theorem dX8_deadline_9 : decode cX8_deadline 9 = .ok (.aload_n 0, 1) := by decide +kernel
theorem dX8_deadline_10 : decode cX8_deadline 10 = .ok (.getfield 32, 3) := by decide +kernel
theorem dX8_deadline_13 : decode cX8_deadline 13 = .ok (.invokestatic 93, 3) := by decide +kernel
theorem dX8_deadline_16 : decode cX8_deadline 16 = .ok (.lmul, 1) := by decide +kernel
theorem dX8_deadline_17 : decode cX8_deadline 17 = .ok (.ladd, 1) := by decide +kernel
theorem dX8_deadline_18 : decode cX8_deadline 18 = .ok (.lreturn, 1) := by decide +kernel
theorem dX8_takeSlice_0 : decode cX8_takeSlice 0 = .ok (.aload_n 0, 1) := by decide +kernel
theorem dX8_takeSlice_1 : decode cX8_takeSlice 1 = .ok (.iload_n 1, 1) := by decide +kernel
theorem dX8_takeSlice_2 : decode cX8_takeSlice 2 = .ok (.putfield 35, 3) := by decide +kernel
theorem dX8_takeSlice_5 : decode cX8_takeSlice 5 = .ok (.aload_n 0, 1) := by decide +kernel
theorem dX8_takeSlice_6 : decode cX8_takeSlice 6 = .ok (.aload_n 0, 1) := by decide +kernel
theorem dX8_takeSlice_7 : decode cX8_takeSlice 7 = .ok (.getfield 45, 3) := by decide +kernel
theorem dX8_takeSlice_10 : decode cX8_takeSlice 10 = .ok (.iload_n 1, 1) := by decide +kernel
theorem dX8_takeSlice_11 : decode cX8_takeSlice 11 = .ok (.invokestatic 97, 3) := by decide +kernel
theorem dX8_takeSlice_14 : decode cX8_takeSlice 14 = .ok (.putfield 45, 3) := by decide +kernel
theorem dX8_takeSlice_17 : decode cX8_takeSlice 17 = .ok (.return_, 1) := by decide +kernel
theorem dX8_takeQuota_0 : decode cX8_takeQuota 0 = .ok (.aload_n 0, 1) := by decide +kernel
theorem dX8_takeQuota_1 : decode cX8_takeQuota 1 = .ok (.iload_n 1, 1) := by decide +kernel
theorem dX8_takeQuota_2 : decode cX8_takeQuota 2 = .ok (.putfield 87, 3) := by decide +kernel
theorem dX8_takeQuota_5 : decode cX8_takeQuota 5 = .ok (.aload_n 0, 1) := by decide +kernel
theorem dX8_takeQuota_6 : decode cX8_takeQuota 6 = .ok (.iload_n 1, 1) := by decide +kernel
theorem dX8_takeQuota_7 : decode cX8_takeQuota 7 = .ok (.ifCond .le 7, 3) := by decide +kernel
theorem dX8_takeQuota_10 : decode cX8_takeQuota 10 = .ok (.iload_n 2, 1) := by decide +kernel
theorem dX8_takeQuota_11 : decode cX8_takeQuota 11 = .ok (.goto 4, 3) := by decide +kernel
theorem dX8_takeQuota_14 : decode cX8_takeQuota 14 = .ok (.iconst 0, 1) := by decide +kernel
theorem dX8_takeQuota_15 : decode cX8_takeQuota 15 = .ok (.putfield 90, 3) := by decide +kernel
theorem dX8_takeQuota_18 : decode cX8_takeQuota 18 = .ok (.aload_n 0, 1) := by decide +kernel
theorem dX8_takeQuota_19 : decode cX8_takeQuota 19 = .ok (.iload_n 1, 1) := by decide +kernel
theorem dX8_takeQuota_20 : decode cX8_takeQuota 20 = .ok (.ifCond .le 7, 3) := by decide +kernel
theorem dX8_takeQuota_23 : decode cX8_takeQuota 23 = .ok (.iload_n 1, 1) := by decide +kernel
theorem dX8_takeQuota_24 : decode cX8_takeQuota 24 = .ok (.goto 4, 3) := by decide +kernel
theorem dX8_takeQuota_27 : decode cX8_takeQuota 27 = .ok (.iconst (-1), 1) := by decide +kernel
theorem dX8_takeQuota_28 : decode cX8_takeQuota 28 = .ok (.putfield 84, 3) := by decide +kernel
theorem dX8_takeQuota_31 : decode cX8_takeQuota 31 = .ok (.return_, 1) := by decide +kernel
theorem dX8_refillAt_0 : decode cX8_refillAt 0 = .ok (.aload_n 0, 1) := by decide +kernel
theorem dX8_refillAt_1 : decode cX8_refillAt 1 = .ok (.getfield 87, 3) := by decide +kernel
theorem dX8_refillAt_4 : decode cX8_refillAt 4 = .ok (.ifCond .le 27, 3) := by decide +kernel
theorem dX8_refillAt_7 : decode cX8_refillAt 7 = .ok (.aload_n 0, 1) := by decide +kernel
theorem dX8_refillAt_8 : decode cX8_refillAt 8 = .ok (.getfield 90, 3) := by decide +kernel
theorem dX8_refillAt_11 : decode cX8_refillAt 11 = .ok (.ifCond .le 20, 3) := by decide +kernel
theorem dX8_refillAt_14 : decode cX8_refillAt 14 = .ok (.iload_n 1, 1) := by decide +kernel
theorem dX8_refillAt_15 : decode cX8_refillAt 15 = .ok (.aload_n 0, 1) := by decide +kernel
theorem dX8_refillAt_16 : decode cX8_refillAt 16 = .ok (.getfield 90, 3) := by decide +kernel
theorem dX8_refillAt_19 : decode cX8_refillAt 19 = .ok (.irem, 1) := by decide +kernel
theorem dX8_refillAt_20 : decode cX8_refillAt 20 = .ok (.ifCond .ne 11, 3) := by decide +kernel
theorem dX8_refillAt_23 : decode cX8_refillAt 23 = .ok (.aload_n 0, 1) := by decide +kernel
theorem dX8_refillAt_24 : decode cX8_refillAt 24 = .ok (.aload_n 0, 1) := by decide +kernel
theorem dX8_refillAt_25 : decode cX8_refillAt 25 = .ok (.getfield 87, 3) := by decide +kernel
theorem dX8_refillAt_28 : decode cX8_refillAt 28 = .ok (.putfield 84, 3) := by decide +kernel
theorem dX8_refillAt_31 : decode cX8_refillAt 31 = .ok (.return_, 1) := by decide +kernel
theorem dX8_waitOneMore_0 : decode cX8_waitOneMore 0 = .ok (.aload_n 0, 1) := by decide +kernel
theorem dX8_waitOneMore_1 : decode cX8_waitOneMore 1 = .ok (.sipush 999, 3) := by decide +kernel
theorem dX8_waitOneMore_4 : decode cX8_waitOneMore 4 = .ok (.aload_n 0, 1) := by decide +kernel
theorem dX8_waitOneMore_5 : decode cX8_waitOneMore 5 = .ok (.getfield 64, 3) := by decide +kernel
theorem dX8_waitOneMore_8 : decode cX8_waitOneMore 8 = .ok (.iconst 1, 1) := by decide +kernel
theorem dX8_waitOneMore_9 : decode cX8_waitOneMore 9 = .ok (.iadd, 1) := by decide +kernel
theorem dX8_waitOneMore_10 : decode cX8_waitOneMore 10 = .ok (.invokestatic 97, 3) := by decide +kernel
theorem dX8_waitOneMore_13 : decode cX8_waitOneMore 13 = .ok (.putfield 64, 3) := by decide +kernel
theorem dX8_waitOneMore_16 : decode cX8_waitOneMore 16 = .ok (.aload_n 0, 1) := by decide +kernel
theorem dX8_waitOneMore_17 : decode cX8_waitOneMore 17 = .ok (.aload_n 0, 1) := by decide +kernel
theorem dX8_waitOneMore_18 : decode cX8_waitOneMore 18 = .ok (.getfield 67, 3) := by decide +kernel
theorem dX8_waitOneMore_21 : decode cX8_waitOneMore 21 = .ok (.aload_n 0, 1) := by decide +kernel
theorem dX8_waitOneMore_22 : decode cX8_waitOneMore 22 = .ok (.getfield 64, 3) := by decide +kernel
theorem dX8_waitOneMore_25 : decode cX8_waitOneMore 25 = .ok (.invokestatic 103, 3) := by decide +kernel
theorem dX8_waitOneMore_28 : decode cX8_waitOneMore 28 = .ok (.putfield 67, 3) := by decide +kernel
theorem dX8_waitOneMore_31 : decode cX8_waitOneMore 31 = .ok (.return_, 1) := by decide +kernel
theorem dX8_putCarried_0 : decode cX8_putCarried 0 = .ok (.aload_n 2, 1) := by decide +kernel
theorem dX8_putCarried_1 : decode cX8_putCarried 1 = .ok (.aload_n 0, 1) := by decide +kernel
theorem dX8_putCarried_2 : decode cX8_putCarried 2 = .ok (.getfield 21, 3) := by decide +kernel
theorem dX8_putCarried_5 : decode cX8_putCarried 5 = .ok (.invokevirtual 81, 3) := by decide +kernel
theorem dX8_putCarried_8 : decode cX8_putCarried 8 = .ok (.iload_n 1, 1) := by decide +kernel
theorem dX8_putCarried_9 : decode cX8_putCarried 9 = .ok (.ifCond .eq 19, 3) := by decide +kernel
theorem dX8_putCarried_12 : decode cX8_putCarried 12 = .ok (.iload_n 1, 1) := by decide +kernel
theorem dX8_putCarried_13 : decode cX8_putCarried 13 = .ok (.iconst 3, 1) := by decide +kernel
theorem dX8_putCarried_14 : decode cX8_putCarried 14 = .ok (.if_icmp .ne 22, 3) := by decide +kernel
theorem dX8_putCarried_17 : decode cX8_putCarried 17 = .ok (.aload_n 0, 1) := by decide +kernel
theorem dX8_putCarried_18 : decode cX8_putCarried 18 = .ok (.getfield 21, 3) := by decide +kernel
theorem dX8_putCarried_21 : decode cX8_putCarried 21 = .ok (.lconst 0, 1) := by decide +kernel
theorem dX8_putCarried_22 : decode cX8_putCarried 22 = .ok (.invokevirtual 106, 3) := by decide +kernel
theorem dX8_putCarried_25 : decode cX8_putCarried 25 = .ok (.ifCond .eq 11, 3) := by decide +kernel
theorem dX8_putCarried_28 : decode cX8_putCarried 28 = .ok (.aload_n 2, 1) := by decide +kernel
theorem dX8_putCarried_29 : decode cX8_putCarried 29 = .ok (.lconst 0, 1) := by decide +kernel
theorem dX8_putCarried_30 : decode cX8_putCarried 30 = .ok (.invokevirtual 48, 3) := by decide +kernel
theorem dX8_putCarried_33 : decode cX8_putCarried 33 = .ok (.goto 27, 3) := by decide +kernel
theorem dX8_putCarried_36 : decode cX8_putCarried 36 = .ok (.iload_n 1, 1) := by decide +kernel
theorem dX8_putCarried_37 : decode cX8_putCarried 37 = .ok (.iconst 2, 1) := by decide +kernel
theorem dX8_putCarried_38 : decode cX8_putCarried 38 = .ok (.if_icmp .ne 22, 3) := by decide +kernel
theorem dX8_putCarried_41 : decode cX8_putCarried 41 = .ok (.aload_n 2, 1) := by decide +kernel
theorem dX8_putCarried_42 : decode cX8_putCarried 42 = .ok (.aload_n 0, 1) := by decide +kernel
theorem dX8_putCarried_43 : decode cX8_putCarried 43 = .ok (.getfield 35, 3) := by decide +kernel
theorem dX8_putCarried_46 : decode cX8_putCarried 46 = .ok (.i2l, 1) := by decide +kernel
theorem dX8_putCarried_47 : decode cX8_putCarried 47 = .ok (.ldc2_w 110, 3) := by decide +kernel
theorem dX8_putCarried_50 : decode cX8_putCarried 50 = .ok (.lmul, 1) := by decide +kernel
theorem dX8_putCarried_51 : decode cX8_putCarried 51 = .ok (.aload_n 0, 1) := by decide +kernel
theorem dX8_putCarried_52 : decode cX8_putCarried 52 = .ok (.getfield 52, 3) := by decide +kernel
theorem dX8_putCarried_55 : decode cX8_putCarried 55 = .ok (.i2l, 1) := by decide +kernel
theorem dX8_putCarried_56 : decode cX8_putCarried 56 = .ok (.lmul, 1) := by decide +kernel
theorem dX8_putCarried_57 : decode cX8_putCarried 57 = .ok (.invokevirtual 112, 3) := by decide +kernel
theorem dX8_putCarried_60 : decode cX8_putCarried 60 = .ok (.return_, 1) := by decide +kernel
theorem dX8_comesBefore_0 : decode cX8_comesBefore 0 = .ok (.aload_n 0, 1) := by decide +kernel
theorem dX8_comesBefore_1 : decode cX8_comesBefore 1 = .ok (.invokevirtual 115, 3) := by decide +kernel
theorem dX8_comesBefore_4 : decode cX8_comesBefore 4 = .ok (.lstore_n 2, 1) := by decide +kernel
theorem dX8_comesBefore_5 : decode cX8_comesBefore 5 = .ok (.aload_n 1, 1) := by decide +kernel
theorem dX8_comesBefore_6 : decode cX8_comesBefore 6 = .ok (.invokevirtual 115, 3) := by decide +kernel
theorem dX8_comesBefore_9 : decode cX8_comesBefore 9 = .ok (.lstore 4, 2) := by decide +kernel
theorem dX8_comesBefore_11 : decode cX8_comesBefore 11 = .ok (.lload_n 2, 1) := by decide +kernel
theorem dX8_comesBefore_12 : decode cX8_comesBefore 12 = .ok (.aload_n 0, 1) := by decide +kernel
theorem dX8_comesBefore_13 : decode cX8_comesBefore 13 = .ok (.getfield 41, 3) := by decide +kernel
theorem dX8_comesBefore_16 : decode cX8_comesBefore 16 = .ok (.lcmp, 1) := by decide +kernel
theorem dX8_comesBefore_17 : decode cX8_comesBefore 17 = .ok (.ifCond .ge 7, 3) := by decide +kernel
theorem dX8_comesBefore_20 : decode cX8_comesBefore 20 = .ok (.iconst 1, 1) := by decide +kernel
theorem dX8_comesBefore_21 : decode cX8_comesBefore 21 = .ok (.goto 4, 3) := by decide +kernel
theorem dX8_comesBefore_24 : decode cX8_comesBefore 24 = .ok (.iconst 0, 1) := by decide +kernel
theorem dX8_comesBefore_25 : decode cX8_comesBefore 25 = .ok (.istore 6, 2) := by decide +kernel
theorem dX8_comesBefore_27 : decode cX8_comesBefore 27 = .ok (.lload 4, 2) := by decide +kernel
theorem dX8_comesBefore_29 : decode cX8_comesBefore 29 = .ok (.aload_n 1, 1) := by decide +kernel
theorem dX8_comesBefore_30 : decode cX8_comesBefore 30 = .ok (.getfield 41, 3) := by decide +kernel
theorem dX8_comesBefore_33 : decode cX8_comesBefore 33 = .ok (.lcmp, 1) := by decide +kernel
theorem dX8_comesBefore_34 : decode cX8_comesBefore 34 = .ok (.ifCond .ge 7, 3) := by decide +kernel
theorem dX8_comesBefore_37 : decode cX8_comesBefore 37 = .ok (.iconst 1, 1) := by decide +kernel
theorem dX8_comesBefore_38 : decode cX8_comesBefore 38 = .ok (.goto 4, 3) := by decide +kernel
theorem dX8_comesBefore_41 : decode cX8_comesBefore 41 = .ok (.iconst 0, 1) := by decide +kernel
theorem dX8_comesBefore_42 : decode cX8_comesBefore 42 = .ok (.istore 7, 2) := by decide +kernel
theorem dX8_comesBefore_44 : decode cX8_comesBefore 44 = .ok (.iload 6, 2) := by decide +kernel
theorem dX8_comesBefore_46 : decode cX8_comesBefore 46 = .ok (.iload 7, 2) := by decide +kernel
theorem dX8_comesBefore_48 : decode cX8_comesBefore 48 = .ok (.if_icmp .eq 6, 3) := by decide +kernel
theorem dX8_comesBefore_51 : decode cX8_comesBefore 51 = .ok (.iload 7, 2) := by decide +kernel
theorem dX8_comesBefore_53 : decode cX8_comesBefore 53 = .ok (.ireturn, 1) := by decide +kernel
theorem dX8_comesBefore_54 : decode cX8_comesBefore 54 = .ok (.lload_n 2, 1) := by decide +kernel
theorem dX8_comesBefore_55 : decode cX8_comesBefore 55 = .ok (.lload 4, 2) := by decide +kernel
theorem dX8_comesBefore_57 : decode cX8_comesBefore 57 = .ok (.lcmp, 1) := by decide +kernel
theorem dX8_comesBefore_58 : decode cX8_comesBefore 58 = .ok (.ifCond .lt 21, 3) := by decide +kernel
theorem dX8_comesBefore_61 : decode cX8_comesBefore 61 = .ok (.lload_n 2, 1) := by decide +kernel
theorem dX8_comesBefore_62 : decode cX8_comesBefore 62 = .ok (.lload 4, 2) := by decide +kernel
theorem dX8_comesBefore_64 : decode cX8_comesBefore 64 = .ok (.lcmp, 1) := by decide +kernel
theorem dX8_comesBefore_65 : decode cX8_comesBefore 65 = .ok (.ifCond .ne 18, 3) := by decide +kernel
theorem dX8_comesBefore_68 : decode cX8_comesBefore 68 = .ok (.aload_n 0, 1) := by decide +kernel
theorem dX8_comesBefore_69 : decode cX8_comesBefore 69 = .ok (.getfield 25, 3) := by decide +kernel
theorem dX8_comesBefore_72 : decode cX8_comesBefore 72 = .ok (.aload_n 1, 1) := by decide +kernel
theorem dX8_comesBefore_73 : decode cX8_comesBefore 73 = .ok (.getfield 25, 3) := by decide +kernel
theorem dX8_comesBefore_76 : decode cX8_comesBefore 76 = .ok (.if_icmp .ge 7, 3) := by decide +kernel
theorem dX8_comesBefore_79 : decode cX8_comesBefore 79 = .ok (.iconst 1, 1) := by decide +kernel
theorem dX8_comesBefore_80 : decode cX8_comesBefore 80 = .ok (.goto 4, 3) := by decide +kernel
theorem dX8_comesBefore_83 : decode cX8_comesBefore 83 = .ok (.iconst 0, 1) := by decide +kernel
theorem dX8_comesBefore_84 : decode cX8_comesBefore 84 = .ok (.ireturn, 1) := by decide +kernel
theorem dX8_tell_0 : decode cX8_tell 0 = .ok (.iload_n 1, 1) := by decide +kernel
theorem dX8_tell_1 : decode cX8_tell 1 = .ok (.tableswitch 218 0 14 #[75, 80, 85, 90, 106, 111, 116, 121, 137, 142, 159, 181, 203, 208, 213], 75) := by decide +kernel
theorem dX8_tell_76 : decode cX8_tell 76 = .ok (.aload_n 0, 1) := by decide +kernel
theorem dX8_tell_77 : decode cX8_tell 77 = .ok (.getfield 32, 3) := by decide +kernel
theorem dX8_tell_80 : decode cX8_tell 80 = .ok (.ireturn, 1) := by decide +kernel
theorem dX8_tell_81 : decode cX8_tell 81 = .ok (.aload_n 0, 1) := by decide +kernel
theorem dX8_tell_82 : decode cX8_tell 82 = .ok (.getfield 35, 3) := by decide +kernel
theorem dX8_tell_85 : decode cX8_tell 85 = .ok (.ireturn, 1) := by decide +kernel
theorem dX8_tell_86 : decode cX8_tell 86 = .ok (.aload_n 0, 1) := by decide +kernel
theorem dX8_tell_87 : decode cX8_tell 87 = .ok (.getfield 38, 3) := by decide +kernel
theorem dX8_tell_90 : decode cX8_tell 90 = .ok (.ireturn, 1) := by decide +kernel
theorem dX8_tell_91 : decode cX8_tell 91 = .ok (.aload_n 0, 1) := by decide +kernel
theorem dX8_tell_92 : decode cX8_tell 92 = .ok (.invokevirtual 119, 3) := by decide +kernel
theorem dX8_tell_95 : decode cX8_tell 95 = .ok (.ifCond .eq 10, 3) := by decide +kernel
theorem dX8_tell_98 : decode cX8_tell 98 = .ok (.aload_n 0, 1) := by decide +kernel
theorem dX8_tell_99 : decode cX8_tell 99 = .ok (.getfield 45, 3) := by decide +kernel
theorem dX8_tell_102 : decode cX8_tell 102 = .ok (.goto 4, 3) := by decide +kernel
theorem dX8_tell_105 : decode cX8_tell 105 = .ok (.iconst (-1), 1) := by decide +kernel
theorem dX8_tell_106 : decode cX8_tell 106 = .ok (.ireturn, 1) := by decide +kernel
theorem dX8_tell_107 : decode cX8_tell 107 = .ok (.aload_n 0, 1) := by decide +kernel
theorem dX8_tell_108 : decode cX8_tell 108 = .ok (.getfield 55, 3) := by decide +kernel
theorem dX8_tell_111 : decode cX8_tell 111 = .ok (.ireturn, 1) := by decide +kernel
theorem dX8_tell_112 : decode cX8_tell 112 = .ok (.aload_n 0, 1) := by decide +kernel
theorem dX8_tell_113 : decode cX8_tell 113 = .ok (.getfield 58, 3) := by decide +kernel
theorem dX8_tell_116 : decode cX8_tell 116 = .ok (.ireturn, 1) := by decide +kernel
theorem dX8_tell_117 : decode cX8_tell 117 = .ok (.aload_n 0, 1) := by decide +kernel
theorem dX8_tell_118 : decode cX8_tell 118 = .ok (.getfield 61, 3) := by decide +kernel
theorem dX8_tell_121 : decode cX8_tell 121 = .ok (.ireturn, 1) := by decide +kernel
theorem dX8_tell_122 : decode cX8_tell 122 = .ok (.aload_n 0, 1) := by decide +kernel
theorem dX8_tell_123 : decode cX8_tell 123 = .ok (.invokevirtual 119, 3) := by decide +kernel
theorem dX8_tell_126 : decode cX8_tell 126 = .ok (.ifCond .eq 10, 3) := by decide +kernel
theorem dX8_tell_129 : decode cX8_tell 129 = .ok (.aload_n 0, 1) := by decide +kernel
theorem dX8_tell_130 : decode cX8_tell 130 = .ok (.getfield 64, 3) := by decide +kernel
theorem dX8_tell_133 : decode cX8_tell 133 = .ok (.goto 4, 3) := by decide +kernel
theorem dX8_tell_136 : decode cX8_tell 136 = .ok (.iconst (-1), 1) := by decide +kernel
theorem dX8_tell_137 : decode cX8_tell 137 = .ok (.ireturn, 1) := by decide +kernel
theorem dX8_tell_138 : decode cX8_tell 138 = .ok (.aload_n 0, 1) := by decide +kernel
theorem dX8_tell_139 : decode cX8_tell 139 = .ok (.getfield 67, 3) := by decide +kernel
theorem dX8_tell_142 : decode cX8_tell 142 = .ok (.ireturn, 1) := by decide +kernel
theorem dX8_tell_143 : decode cX8_tell 143 = .ok (.aload_n 0, 1) := by decide +kernel
theorem dX8_tell_144 : decode cX8_tell 144 = .ok (.getfield 38, 3) := by decide +kernel
theorem dX8_tell_147 : decode cX8_tell 147 = .ok (.iconst 2, 1) := by decide +kernel
theorem dX8_tell_148 : decode cX8_tell 148 = .ok (.if_icmp .ne 10, 3) := by decide +kernel
theorem dX8_tell_151 : decode cX8_tell 151 = .ok (.aload_n 0, 1) := by decide +kernel
theorem dX8_tell_152 : decode cX8_tell 152 = .ok (.getfield 70, 3) := by decide +kernel
theorem dX8_tell_155 : decode cX8_tell 155 = .ok (.goto 4, 3) := by decide +kernel
theorem dX8_tell_158 : decode cX8_tell 158 = .ok (.iconst (-1), 1) := by decide +kernel
theorem dX8_tell_159 : decode cX8_tell 159 = .ok (.ireturn, 1) := by decide +kernel
theorem dX8_tell_160 : decode cX8_tell 160 = .ok (.aload_n 0, 1) := by decide +kernel
theorem dX8_tell_161 : decode cX8_tell 161 = .ok (.getfield 12, 3) := by decide +kernel
theorem dX8_tell_164 : decode cX8_tell 164 = .ok (.invokevirtual 123, 3) := by decide +kernel
theorem dX8_tell_167 : decode cX8_tell 167 = .ok (.ifCond .eq 13, 3) := by decide +kernel
theorem dX8_tell_170 : decode cX8_tell 170 = .ok (.aload_n 0, 1) := by decide +kernel
theorem dX8_tell_171 : decode cX8_tell 171 = .ok (.getfield 12, 3) := by decide +kernel
theorem dX8_tell_174 : decode cX8_tell 174 = .ok (.getfield 126, 3) := by decide +kernel
theorem dX8_tell_177 : decode cX8_tell 177 = .ok (.goto 4, 3) := by decide +kernel
theorem dX8_tell_180 : decode cX8_tell 180 = .ok (.iconst (-1), 1) := by decide +kernel
theorem dX8_tell_181 : decode cX8_tell 181 = .ok (.ireturn, 1) := by decide +kernel
theorem dX8_tell_182 : decode cX8_tell 182 = .ok (.aload_n 0, 1) := by decide +kernel
theorem dX8_tell_183 : decode cX8_tell 183 = .ok (.getfield 12, 3) := by decide +kernel
theorem dX8_tell_186 : decode cX8_tell 186 = .ok (.invokevirtual 129, 3) := by decide +kernel
theorem dX8_tell_189 : decode cX8_tell 189 = .ok (.ifCond .eq 13, 3) := by decide +kernel
theorem dX8_tell_192 : decode cX8_tell 192 = .ok (.aload_n 0, 1) := by decide +kernel
theorem dX8_tell_193 : decode cX8_tell 193 = .ok (.getfield 12, 3) := by decide +kernel
theorem dX8_tell_196 : decode cX8_tell 196 = .ok (.getfield 132, 3) := by decide +kernel
theorem dX8_tell_199 : decode cX8_tell 199 = .ok (.goto 4, 3) := by decide +kernel
theorem dX8_tell_202 : decode cX8_tell 202 = .ok (.iconst (-1), 1) := by decide +kernel
theorem dX8_tell_203 : decode cX8_tell 203 = .ok (.ireturn, 1) := by decide +kernel
theorem dX8_tell_204 : decode cX8_tell 204 = .ok (.aload_n 0, 1) := by decide +kernel
theorem dX8_tell_205 : decode cX8_tell 205 = .ok (.getfield 84, 3) := by decide +kernel
theorem dX8_tell_208 : decode cX8_tell 208 = .ok (.ireturn, 1) := by decide +kernel
theorem dX8_tell_209 : decode cX8_tell 209 = .ok (.aload_n 0, 1) := by decide +kernel
theorem dX8_tell_210 : decode cX8_tell 210 = .ok (.getfield 87, 3) := by decide +kernel
theorem dX8_tell_213 : decode cX8_tell 213 = .ok (.ireturn, 1) := by decide +kernel
theorem dX8_tell_214 : decode cX8_tell 214 = .ok (.aload_n 0, 1) := by decide +kernel
theorem dX8_tell_215 : decode cX8_tell 215 = .ok (.getfield 90, 3) := by decide +kernel
theorem dX8_tell_218 : decode cX8_tell 218 = .ok (.ireturn, 1) := by decide +kernel
theorem dX8_tell_219 : decode cX8_tell 219 = .ok (.iconst (-1), 1) := by decide +kernel
theorem dX8_tell_220 : decode cX8_tell 220 = .ok (.ireturn, 1) := by decide +kernel
theorem dX9_init_0 : decode cX9_init 0 = .ok (.aload_n 0, 1) := by decide +kernel
theorem dX9_init_1 : decode cX9_init 1 = .ok (.invokespecial 1, 3) := by decide +kernel
theorem dX9_init_4 : decode cX9_init 4 = .ok (.aload_n 0, 1) := by decide +kernel
theorem dX9_init_5 : decode cX9_init 5 = .ok (.iconst 1, 1) := by decide +kernel
theorem dX9_init_6 : decode cX9_init 6 = .ok (.putfield 7, 3) := by decide +kernel
theorem dX9_init_9 : decode cX9_init 9 = .ok (.aload_n 0, 1) := by decide +kernel
theorem dX9_init_10 : decode cX9_init 10 = .ok (.iconst 1, 1) := by decide +kernel
theorem dX9_init_11 : decode cX9_init 11 = .ok (.putfield 13, 3) := by decide +kernel
theorem dX9_init_14 : decode cX9_init 14 = .ok (.return_, 1) := by decide +kernel
theorem dX9_allows_0 : decode cX9_allows 0 = .ok (.iload_n 1, 1) := by decide +kernel
theorem dX9_allows_1 : decode cX9_allows 1 = .ok (.tableswitch 73 0 2 #[27, 42, 57], 27) := by decide +kernel
theorem dX9_allows_28 : decode cX9_allows 28 = .ok (.iload_n 2, 1) := by decide +kernel
theorem dX9_allows_29 : decode cX9_allows 29 = .ok (.ifCond .lt 12, 3) := by decide +kernel
theorem dX9_allows_32 : decode cX9_allows 32 = .ok (.iload_n 2, 1) := by decide +kernel
theorem dX9_allows_33 : decode cX9_allows 33 = .ok (.iconst 1, 1) := by decide +kernel
theorem dX9_allows_34 : decode cX9_allows 34 = .ok (.if_icmp .gt 7, 3) := by decide +kernel
theorem dX9_allows_37 : decode cX9_allows 37 = .ok (.iconst 1, 1) := by decide +kernel
theorem dX9_allows_38 : decode cX9_allows 38 = .ok (.goto 4, 3) := by decide +kernel
theorem dX9_allows_41 : decode cX9_allows 41 = .ok (.iconst 0, 1) := by decide +kernel
theorem dX9_allows_42 : decode cX9_allows 42 = .ok (.ireturn, 1) := by decide +kernel
theorem dX9_allows_43 : decode cX9_allows 43 = .ok (.iload_n 2, 1) := by decide +kernel
theorem dX9_allows_44 : decode cX9_allows 44 = .ok (.ifCond .lt 12, 3) := by decide +kernel
theorem dX9_allows_47 : decode cX9_allows 47 = .ok (.iload_n 2, 1) := by decide +kernel
theorem dX9_allows_48 : decode cX9_allows 48 = .ok (.iconst 3, 1) := by decide +kernel
theorem dX9_allows_49 : decode cX9_allows 49 = .ok (.if_icmp .gt 7, 3) := by decide +kernel
theorem dX9_allows_52 : decode cX9_allows 52 = .ok (.iconst 1, 1) := by decide +kernel
theorem dX9_allows_53 : decode cX9_allows 53 = .ok (.goto 4, 3) := by decide +kernel
theorem dX9_allows_56 : decode cX9_allows 56 = .ok (.iconst 0, 1) := by decide +kernel
theorem dX9_allows_57 : decode cX9_allows 57 = .ok (.ireturn, 1) := by decide +kernel
theorem dX9_allows_58 : decode cX9_allows 58 = .ok (.iload_n 2, 1) := by decide +kernel
theorem dX9_allows_59 : decode cX9_allows 59 = .ok (.ifCond .lt 13, 3) := by decide +kernel
theorem dX9_allows_62 : decode cX9_allows 62 = .ok (.iload_n 2, 1) := by decide +kernel
theorem dX9_allows_63 : decode cX9_allows 63 = .ok (.ldc 16, 2) := by decide +kernel
theorem dX9_allows_65 : decode cX9_allows 65 = .ok (.if_icmp .gt 7, 3) := by decide +kernel
theorem dX9_allows_68 : decode cX9_allows 68 = .ok (.iconst 1, 1) := by decide +kernel
theorem dX9_allows_69 : decode cX9_allows 69 = .ok (.goto 4, 3) := by decide +kernel
theorem dX9_allows_72 : decode cX9_allows 72 = .ok (.iconst 0, 1) := by decide +kernel
theorem dX9_allows_73 : decode cX9_allows 73 = .ok (.ireturn, 1) := by decide +kernel
theorem dX9_allows_74 : decode cX9_allows 74 = .ok (.iconst 0, 1) := by decide +kernel
theorem dX9_allows_75 : decode cX9_allows 75 = .ok (.ireturn, 1) := by decide +kernel
theorem dX9_get_0 : decode cX9_get 0 = .ok (.iload_n 1, 1) := by decide +kernel
theorem dX9_get_1 : decode cX9_get 1 = .ok (.lookupswitch 37 #[(0, 27), (1, 32)], 27) := by decide +kernel
theorem dX9_get_28 : decode cX9_get 28 = .ok (.aload_n 0, 1) := by decide +kernel
theorem dX9_get_29 : decode cX9_get 29 = .ok (.getfield 17, 3) := by decide +kernel
theorem dX9_get_32 : decode cX9_get 32 = .ok (.ireturn, 1) := by decide +kernel
theorem dX9_get_33 : decode cX9_get 33 = .ok (.aload_n 0, 1) := by decide +kernel
theorem dX9_get_34 : decode cX9_get 34 = .ok (.getfield 7, 3) := by decide +kernel
theorem dX9_get_37 : decode cX9_get 37 = .ok (.ireturn, 1) := by decide +kernel
theorem dX9_get_38 : decode cX9_get 38 = .ok (.aload_n 0, 1) := by decide +kernel
theorem dX9_get_39 : decode cX9_get 39 = .ok (.getfield 13, 3) := by decide +kernel
theorem dX9_get_42 : decode cX9_get 42 = .ok (.ireturn, 1) := by decide +kernel
theorem dX9_set_0 : decode cX9_set 0 = .ok (.iload_n 1, 1) := by decide +kernel
theorem dX9_set_1 : decode cX9_set 1 = .ok (.lookupswitch 43 #[(0, 27), (1, 35)], 27) := by decide +kernel
theorem dX9_set_28 : decode cX9_set 28 = .ok (.aload_n 0, 1) := by decide +kernel
theorem dX9_set_29 : decode cX9_set 29 = .ok (.iload_n 2, 1) := by decide +kernel
theorem dX9_set_30 : decode cX9_set 30 = .ok (.putfield 17, 3) := by decide +kernel
theorem dX9_set_33 : decode cX9_set 33 = .ok (.goto 16, 3) := by decide +kernel
theorem dX9_set_36 : decode cX9_set 36 = .ok (.aload_n 0, 1) := by decide +kernel
theorem dX9_set_37 : decode cX9_set 37 = .ok (.iload_n 2, 1) := by decide +kernel
theorem dX9_set_38 : decode cX9_set 38 = .ok (.putfield 7, 3) := by decide +kernel
theorem dX9_set_41 : decode cX9_set 41 = .ok (.goto 8, 3) := by decide +kernel
theorem dX9_set_44 : decode cX9_set 44 = .ok (.aload_n 0, 1) := by decide +kernel
theorem dX9_set_45 : decode cX9_set 45 = .ok (.iload_n 2, 1) := by decide +kernel

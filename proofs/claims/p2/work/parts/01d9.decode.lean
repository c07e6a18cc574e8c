theorem dX12_service_2 : decode cX12_service 2 = .ok (.putfield 67, 3) := by decide +kernel
theorem dX12_service_5 : decode cX12_service 5 = .ok (.aload_n 0, 1) := by decide +kernel
theorem dX12_service_6 : decode cX12_service 6 = .ok (.iload_n 1, 1) := by decide +kernel
theorem dX12_service_7 : decode cX12_service 7 = .ok (.invokevirtual 142, 3) := by decide +kernel
theorem dX12_service_10 : decode cX12_service 10 = .ok (.ifCond .eq 12, 3) := by decide +kernel
theorem dX12_service_13 : decode cX12_service 13 = .ok (.aload_n 0, 1) := by decide +kernel
theorem dX12_service_14 : decode cX12_service 14 = .ok (.iload_n 2, 1) := by decide +kernel
theorem dX12_service_15 : decode cX12_service 15 = .ok (.iload_n 3, 1) := by decide +kernel
theorem dX12_service_16 : decode cX12_service 16 = .ok (.invokevirtual 300, 3) := by decide +kernel
theorem dX12_service_19 : decode cX12_service 19 = .ok (.ifCond .ne 5, 3) := by decide +kernel
theorem dX12_service_22 : decode cX12_service 22 = .ok (.iconst (-1), 1) := by decide +kernel
theorem dX12_service_23 : decode cX12_service 23 = .ok (.ireturn, 1) := by decide +kernel
theorem dX12_service_24 : decode cX12_service 24 = .ok (.iconst 0, 1) := by decide +kernel
theorem dX12_service_25 : decode cX12_service 25 = .ok (.istore 4, 2) := by decide +kernel
theorem dX12_service_27 : decode cX12_service 27 = .ok (.iload_n 2, 1) := by decide +kernel
theorem dX12_service_28 : decode cX12_service 28 = .ok (.i2l, 1) := by decide +kernel
theorem dX12_service_29 : decode cX12_service 29 = .ok (.lstore 5, 2) := by decide +kernel
theorem dX12_service_31 : decode cX12_service 31 = .ok (.lload 5, 2) := by decide +kernel
theorem dX12_service_33 : decode cX12_service 33 = .ok (.iload_n 3, 1) := by decide +kernel
theorem dX12_service_34 : decode cX12_service 34 = .ok (.i2l, 1) := by decide +kernel
theorem dX12_service_35 : decode cX12_service 35 = .ok (.lcmp, 1) := by decide +kernel
theorem dX12_service_36 : decode cX12_service 36 = .ok (.ifCond .ge 39, 3) := by decide +kernel
theorem dX12_service_39 : decode cX12_service 39 = .ok (.iload 4, 2) := by decide +kernel
theorem dX12_service_41 : decode cX12_service 41 = .ok (.aload_n 0, 1) := by decide +kernel
theorem dX12_service_42 : decode cX12_service 42 = .ok (.getfield 16, 3) := by decide +kernel
theorem dX12_service_45 : decode cX12_service 45 = .ok (.aload_n 0, 1) := by decide +kernel
theorem dX12_service_46 : decode cX12_service 46 = .ok (.lload 5, 2) := by decide +kernel
theorem dX12_service_48 : decode cX12_service 48 = .ok (.invokevirtual 296, 3) := by decide +kernel
theorem dX12_service_51 : decode cX12_service 51 = .ok (.laload, 1) := by decide +kernel
theorem dX12_service_52 : decode cX12_service 52 = .ok (.iload_n 1, 1) := by decide +kernel
theorem dX12_service_53 : decode cX12_service 53 = .ok (.i2l, 1) := by decide +kernel
theorem dX12_service_54 : decode cX12_service 54 = .ok (.lcmp, 1) := by decide +kernel
theorem dX12_service_55 : decode cX12_service 55 = .ok (.ifCond .ne 7, 3) := by decide +kernel
theorem dX12_service_58 : decode cX12_service 58 = .ok (.iconst 1, 1) := by decide +kernel
theorem dX12_service_59 : decode cX12_service 59 = .ok (.goto 4, 3) := by decide +kernel
theorem dX12_service_62 : decode cX12_service 62 = .ok (.iconst 0, 1) := by decide +kernel
theorem dX12_service_63 : decode cX12_service 63 = .ok (.iadd, 1) := by decide +kernel
theorem dX12_service_64 : decode cX12_service 64 = .ok (.istore 4, 2) := by decide +kernel
theorem dX12_service_66 : decode cX12_service 66 = .ok (.lload 5, 2) := by decide +kernel
theorem dX12_service_68 : decode cX12_service 68 = .ok (.lconst 1, 1) := by decide +kernel
theorem dX12_service_69 : decode cX12_service 69 = .ok (.ladd, 1) := by decide +kernel
theorem dX12_service_70 : decode cX12_service 70 = .ok (.lstore 5, 2) := by decide +kernel
theorem dX12_service_72 : decode cX12_service 72 = .ok (.goto (-41), 3) := by decide +kernel
theorem dX12_service_75 : decode cX12_service 75 = .ok (.iload 4, 2) := by decide +kernel
theorem dX12_service_77 : decode cX12_service 77 = .ok (.ireturn, 1) := by decide +kernel
theorem dX12_shareAt_0 : decode cX12_shareAt 0 = .ok (.aload_n 0, 1) := by decide +kernel
theorem dX12_shareAt_1 : decode cX12_shareAt 1 = .ok (.getfield 16, 3) := by decide +kernel
theorem dX12_shareAt_4 : decode cX12_shareAt 4 = .ok (.iload_n 2, 1) := by decide +kernel
theorem dX12_shareAt_5 : decode cX12_shareAt 5 = .ok (.iconst 2, 1) := by decide +kernel
theorem dX12_shareAt_6 : decode cX12_shareAt 6 = .ok (.iadd, 1) := by decide +kernel
theorem dX12_shareAt_7 : decode cX12_shareAt 7 = .ok (.laload, 1) := by decide +kernel
theorem dX12_shareAt_8 : decode cX12_shareAt 8 = .ok (.iconst 4, 1) := by decide +kernel
theorem dX12_shareAt_9 : decode cX12_shareAt 9 = .ok (.iload_n 1, 1) := by decide +kernel
theorem dX12_shareAt_10 : decode cX12_shareAt 10 = .ok (.imul, 1) := by decide +kernel
theorem dX12_shareAt_11 : decode cX12_shareAt 11 = .ok (.lshr, 1) := by decide +kernel
theorem dX12_shareAt_12 : decode cX12_shareAt 12 = .ok (.ldc2_w 304, 3) := by decide +kernel
theorem dX12_shareAt_15 : decode cX12_shareAt 15 = .ok (.land, 1) := by decide +kernel
theorem dX12_shareAt_16 : decode cX12_shareAt 16 = .ok (.lstore_n 3, 1) := by decide +kernel
theorem dX12_shareAt_17 : decode cX12_shareAt 17 = .ok (.lload_n 3, 1) := by decide +kernel
theorem dX12_shareAt_18 : decode cX12_shareAt 18 = .ok (.lconst 0, 1) := by decide +kernel
theorem dX12_shareAt_19 : decode cX12_shareAt 19 = .ok (.lcmp, 1) := by decide +kernel
theorem dX12_shareAt_20 : decode cX12_shareAt 20 = .ok (.ifCond .ne 7, 3) := by decide +kernel
theorem dX12_shareAt_23 : decode cX12_shareAt 23 = .ok (.lconst 0, 1) := by decide +kernel
theorem dX12_shareAt_24 : decode cX12_shareAt 24 = .ok (.goto 17, 3) := by decide +kernel
theorem dX12_shareAt_27 : decode cX12_shareAt 27 = .ok (.ldc2_w 108, 3) := by decide +kernel
theorem dX12_shareAt_30 : decode cX12_shareAt 30 = .ok (.aload_n 0, 1) := by decide +kernel
theorem dX12_shareAt_31 : decode cX12_shareAt 31 = .ok (.getfield 16, 3) := by decide +kernel
theorem dX12_shareAt_34 : decode cX12_shareAt 34 = .ok (.iload_n 2, 1) := by decide +kernel
theorem dX12_shareAt_35 : decode cX12_shareAt 35 = .ok (.iconst 1, 1) := by decide +kernel
theorem dX12_shareAt_36 : decode cX12_shareAt 36 = .ok (.iadd, 1) := by decide +kernel
theorem dX12_shareAt_37 : decode cX12_shareAt 37 = .ok (.laload, 1) := by decide +kernel
theorem dX12_shareAt_38 : decode cX12_shareAt 38 = .ok (.ldiv, 1) := by decide +kernel
theorem dX12_shareAt_39 : decode cX12_shareAt 39 = .ok (.lload_n 3, 1) := by decide +kernel
theorem dX12_shareAt_40 : decode cX12_shareAt 40 = .ok (.lmul, 1) := by decide +kernel
theorem dX12_shareAt_41 : decode cX12_shareAt 41 = .ok (.lreturn, 1) := by decide +kernel
theorem dX12_share_0 : decode cX12_share 0 = .ok (.aload_n 0, 1) := by decide +kernel
theorem dX12_share_1 : decode cX12_share 1 = .ok (.iconst 0, 1) := by decide +kernel
theorem dX12_share_2 : decode cX12_share 2 = .ok (.putfield 67, 3) := by decide +kernel
theorem dX12_share_5 : decode cX12_share 5 = .ok (.aload_n 0, 1) := by decide +kernel
theorem dX12_share_6 : decode cX12_share 6 = .ok (.iload_n 1, 1) := by decide +kernel
theorem dX12_share_7 : decode cX12_share 7 = .ok (.invokevirtual 142, 3) := by decide +kernel
theorem dX12_share_10 : decode cX12_share 10 = .ok (.ifCond .eq 12, 3) := by decide +kernel
theorem dX12_share_13 : decode cX12_share 13 = .ok (.aload_n 0, 1) := by decide +kernel
theorem dX12_share_14 : decode cX12_share 14 = .ok (.iload_n 2, 1) := by decide +kernel
theorem dX12_share_15 : decode cX12_share 15 = .ok (.iload_n 3, 1) := by decide +kernel
theorem dX12_share_16 : decode cX12_share 16 = .ok (.invokevirtual 300, 3) := by decide +kernel
theorem dX12_share_19 : decode cX12_share 19 = .ok (.ifCond .ne 7, 3) := by decide +kernel
theorem dX12_share_22 : decode cX12_share 22 = .ok (.ldc2_w 291, 3) := by decide +kernel
theorem dX12_share_25 : decode cX12_share 25 = .ok (.lreturn, 1) := by decide +kernel
theorem dX12_share_26 : decode cX12_share 26 = .ok (.lconst 0, 1) := by decide +kernel
theorem dX12_share_27 : decode cX12_share 27 = .ok (.lstore 4, 2) := by decide +kernel
theorem dX12_share_29 : decode cX12_share 29 = .ok (.iload_n 2, 1) := by decide +kernel
theorem dX12_share_30 : decode cX12_share 30 = .ok (.i2l, 1) := by decide +kernel
theorem dX12_share_31 : decode cX12_share 31 = .ok (.lstore 6, 2) := by decide +kernel
theorem dX12_share_33 : decode cX12_share 33 = .ok (.lload 6, 2) := by decide +kernel
theorem dX12_share_35 : decode cX12_share 35 = .ok (.iload_n 3, 1) := by decide +kernel
theorem dX12_share_36 : decode cX12_share 36 = .ok (.i2l, 1) := by decide +kernel
theorem dX12_share_37 : decode cX12_share 37 = .ok (.lcmp, 1) := by decide +kernel
theorem dX12_share_38 : decode cX12_share 38 = .ok (.ifCond .ge 28, 3) := by decide +kernel
theorem dX12_share_41 : decode cX12_share 41 = .ok (.lload 4, 2) := by decide +kernel
theorem dX12_share_43 : decode cX12_share 43 = .ok (.aload_n 0, 1) := by decide +kernel
theorem dX12_share_44 : decode cX12_share 44 = .ok (.iload_n 1, 1) := by decide +kernel
theorem dX12_share_45 : decode cX12_share 45 = .ok (.aload_n 0, 1) := by decide +kernel
theorem dX12_share_46 : decode cX12_share 46 = .ok (.lload 6, 2) := by decide +kernel
theorem dX12_share_48 : decode cX12_share 48 = .ok (.invokevirtual 296, 3) := by decide +kernel
theorem dX12_share_51 : decode cX12_share 51 = .ok (.invokevirtual 306, 3) := by decide +kernel
theorem dX12_share_54 : decode cX12_share 54 = .ok (.ladd, 1) := by decide +kernel
theorem dX12_share_55 : decode cX12_share 55 = .ok (.lstore 4, 2) := by decide +kernel
theorem dX12_share_57 : decode cX12_share 57 = .ok (.lload 6, 2) := by decide +kernel
theorem dX12_share_59 : decode cX12_share 59 = .ok (.lconst 1, 1) := by decide +kernel
theorem dX12_share_60 : decode cX12_share 60 = .ok (.ladd, 1) := by decide +kernel
theorem dX12_share_61 : decode cX12_share 61 = .ok (.lstore 6, 2) := by decide +kernel
theorem dX12_share_63 : decode cX12_share 63 = .ok (.goto (-30), 3) := by decide +kernel
theorem dX12_share_66 : decode cX12_share 66 = .ok (.lload 4, 2) := by decide +kernel
theorem dX12_share_68 : decode cX12_share 68 = .ok (.lreturn, 1) := by decide +kernel
theorem dX12_worst_0 : decode cX12_worst 0 = .ok (.aload_n 0, 1) := by decide +kernel
theorem dX12_worst_1 : decode cX12_worst 1 = .ok (.iconst 0, 1) := by decide +kernel
theorem dX12_worst_2 : decode cX12_worst 2 = .ok (.putfield 67, 3) := by decide +kernel
theorem dX12_worst_5 : decode cX12_worst 5 = .ok (.aload_n 0, 1) := by decide +kernel
theorem dX12_worst_6 : decode cX12_worst 6 = .ok (.iload_n 1, 1) := by decide +kernel
theorem dX12_worst_7 : decode cX12_worst 7 = .ok (.invokevirtual 142, 3) := by decide +kernel
theorem dX12_worst_10 : decode cX12_worst 10 = .ok (.ifCond .eq 13, 3) := by decide +kernel
theorem dX12_worst_13 : decode cX12_worst 13 = .ok (.iload_n 2, 1) := by decide +kernel
theorem dX12_worst_14 : decode cX12_worst 14 = .ok (.i2l, 1) := by decide +kernel
theorem dX12_worst_15 : decode cX12_worst 15 = .ok (.lconst 0, 1) := by decide +kernel
theorem dX12_worst_16 : decode cX12_worst 16 = .ok (.lconst 1, 1) := by decide +kernel
theorem dX12_worst_17 : decode cX12_worst 17 = .ok (.invokestatic 83, 3) := by decide +kernel
theorem dX12_worst_20 : decode cX12_worst 20 = .ok (.ifCond .ne 7, 3) := by decide +kernel
theorem dX12_worst_23 : decode cX12_worst 23 = .ok (.ldc2_w 291, 3) := by decide +kernel
theorem dX12_worst_26 : decode cX12_worst 26 = .ok (.lreturn, 1) := by decide +kernel
theorem dX12_worst_27 : decode cX12_worst 27 = .ok (.ldc2_w 291, 3) := by decide +kernel
theorem dX12_worst_30 : decode cX12_worst 30 = .ok (.lstore_n 3, 1) := by decide +kernel
theorem dX12_worst_31 : decode cX12_worst 31 = .ok (.iconst 0, 1) := by decide +kernel
theorem dX12_worst_32 : decode cX12_worst 32 = .ok (.istore 5, 2) := by decide +kernel
theorem dX12_worst_34 : decode cX12_worst 34 = .ok (.iload 5, 2) := by decide +kernel
theorem dX12_worst_36 : decode cX12_worst 36 = .ok (.i2l, 1) := by decide +kernel
theorem dX12_worst_37 : decode cX12_worst 37 = .ok (.aload_n 0, 1) := by decide +kernel
theorem dX12_worst_38 : decode cX12_worst 38 = .ok (.getfield 16, 3) := by decide +kernel
theorem dX12_worst_41 : decode cX12_worst 41 = .ok (.iconst 5, 1) := by decide +kernel
theorem dX12_worst_42 : decode cX12_worst 42 = .ok (.laload, 1) := by decide +kernel
theorem dX12_worst_43 : decode cX12_worst 43 = .ok (.lcmp, 1) := by decide +kernel
theorem dX12_worst_44 : decode cX12_worst 44 = .ok (.ifCond .ge 132, 3) := by decide +kernel
theorem dX12_worst_47 : decode cX12_worst 47 = .ok (.lconst 0, 1) := by decide +kernel
theorem dX12_worst_48 : decode cX12_worst 48 = .ok (.lstore 6, 2) := by decide +kernel
theorem dX12_worst_50 : decode cX12_worst 50 = .ok (.iload 5, 2) := by decide +kernel
theorem dX12_worst_52 : decode cX12_worst 52 = .ok (.istore 8, 2) := by decide +kernel
theorem dX12_worst_54 : decode cX12_worst 54 = .ok (.iload 8, 2) := by decide +kernel
theorem dX12_worst_56 : decode cX12_worst 56 = .ok (.i2l, 1) := by decide +kernel
theorem dX12_worst_57 : decode cX12_worst 57 = .ok (.aload_n 0, 1) := by decide +kernel
theorem dX12_worst_58 : decode cX12_worst 58 = .ok (.getfield 16, 3) := by decide +kernel
theorem dX12_worst_61 : decode cX12_worst 61 = .ok (.iconst 5, 1) := by decide +kernel
theorem dX12_worst_62 : decode cX12_worst 62 = .ok (.laload, 1) := by decide +kernel
theorem dX12_worst_63 : decode cX12_worst 63 = .ok (.lcmp, 1) := by decide +kernel
theorem dX12_worst_64 : decode cX12_worst 64 = .ok (.ifCond .ge 106, 3) := by decide +kernel
theorem dX12_worst_67 : decode cX12_worst 67 = .ok (.aload_n 0, 1) := by decide +kernel
theorem dX12_worst_68 : decode cX12_worst 68 = .ok (.iload_n 1, 1) := by decide +kernel
theorem dX12_worst_69 : decode cX12_worst 69 = .ok (.sipush 522, 3) := by decide +kernel
theorem dX12_worst_72 : decode cX12_worst 72 = .ok (.iconst 3, 1) := by decide +kernel
theorem dX12_worst_73 : decode cX12_worst 73 = .ok (.iload 8, 2) := by decide +kernel
theorem dX12_worst_75 : decode cX12_worst 75 = .ok (.imul, 1) := by decide +kernel
theorem dX12_worst_76 : decode cX12_worst 76 = .ok (.iadd, 1) := by decide +kernel
theorem dX12_worst_77 : decode cX12_worst 77 = .ok (.invokevirtual 306, 3) := by decide +kernel
theorem dX12_worst_80 : decode cX12_worst 80 = .ok (.lconst 0, 1) := by decide +kernel
theorem dX12_worst_81 : decode cX12_worst 81 = .ok (.lcmp, 1) := by decide +kernel
theorem dX12_worst_82 : decode cX12_worst 82 = .ok (.ifCond .le 88, 3) := by decide +kernel
theorem dX12_worst_85 : decode cX12_worst 85 = .ok (.sipush 522, 3) := by decide +kernel
theorem dX12_worst_88 : decode cX12_worst 88 = .ok (.iconst 3, 1) := by decide +kernel
theorem dX12_worst_89 : decode cX12_worst 89 = .ok (.iload 8, 2) := by decide +kernel
theorem dX12_worst_91 : decode cX12_worst 91 = .ok (.imul, 1) := by decide +kernel
theorem dX12_worst_92 : decode cX12_worst 92 = .ok (.iadd, 1) := by decide +kernel
theorem dX12_worst_93 : decode cX12_worst 93 = .ok (.istore 9, 2) := by decide +kernel
theorem dX12_worst_95 : decode cX12_worst 95 = .ok (.lload 6, 2) := by decide +kernel
theorem dX12_worst_97 : decode cX12_worst 97 = .ok (.aload_n 0, 1) := by decide +kernel
theorem dX12_worst_98 : decode cX12_worst 98 = .ok (.getfield 16, 3) := by decide +kernel
theorem dX12_worst_101 : decode cX12_worst 101 = .ok (.iload 9, 2) := by decide +kernel
theorem dX12_worst_103 : decode cX12_worst 103 = .ok (.laload, 1) := by decide +kernel
theorem dX12_worst_104 : decode cX12_worst 104 = .ok (.iload_n 1, 1) := by decide +kernel
theorem dX12_worst_105 : decode cX12_worst 105 = .ok (.i2l, 1) := by decide +kernel
theorem dX12_worst_106 : decode cX12_worst 106 = .ok (.lcmp, 1) := by decide +kernel
theorem dX12_worst_107 : decode cX12_worst 107 = .ok (.ifCond .ne 9, 3) := by decide +kernel
theorem dX12_worst_110 : decode cX12_worst 110 = .ok (.ldc2_w 108, 3) := by decide +kernel
theorem dX12_worst_113 : decode cX12_worst 113 = .ok (.goto 4, 3) := by decide +kernel
theorem dX12_worst_116 : decode cX12_worst 116 = .ok (.lconst 0, 1) := by decide +kernel
theorem dX12_worst_117 : decode cX12_worst 117 = .ok (.aload_n 0, 1) := by decide +kernel
theorem dX12_worst_118 : decode cX12_worst 118 = .ok (.iload_n 1, 1) := by decide +kernel
theorem dX12_worst_119 : decode cX12_worst 119 = .ok (.iload 9, 2) := by decide +kernel
theorem dX12_worst_121 : decode cX12_worst 121 = .ok (.invokevirtual 306, 3) := by decide +kernel
theorem dX12_worst_124 : decode cX12_worst 124 = .ok (.lsub, 1) := by decide +kernel
theorem dX12_worst_125 : decode cX12_worst 125 = .ok (.ladd, 1) := by decide +kernel
theorem dX12_worst_126 : decode cX12_worst 126 = .ok (.lstore 6, 2) := by decide +kernel
theorem dX12_worst_128 : decode cX12_worst 128 = .ok (.lload_n 3, 1) := by decide +kernel
theorem dX12_worst_129 : decode cX12_worst 129 = .ok (.ldc2_w 291, 3) := by decide +kernel
theorem dX12_worst_132 : decode cX12_worst 132 = .ok (.lcmp, 1) := by decide +kernel
theorem dX12_worst_133 : decode cX12_worst 133 = .ok (.ifCond .eq 24, 3) := by decide +kernel
theorem dX12_worst_136 : decode cX12_worst 136 = .ok (.iload_n 2, 1) := by decide +kernel
theorem dX12_worst_137 : decode cX12_worst 137 = .ok (.ifCond .ne 13, 3) := by decide +kernel
theorem dX12_worst_140 : decode cX12_worst 140 = .ok (.lload 6, 2) := by decide +kernel
theorem dX12_worst_142 : decode cX12_worst 142 = .ok (.lload_n 3, 1) := by decide +kernel
theorem dX12_worst_143 : decode cX12_worst 143 = .ok (.lcmp, 1) := by decide +kernel
theorem dX12_worst_144 : decode cX12_worst 144 = .ok (.ifCond .le 18, 3) := by decide +kernel
theorem dX12_worst_147 : decode cX12_worst 147 = .ok (.goto 10, 3) := by decide +kernel
theorem dX12_worst_150 : decode cX12_worst 150 = .ok (.lload 6, 2) := by decide +kernel
theorem dX12_worst_152 : decode cX12_worst 152 = .ok (.lload_n 3, 1) := by decide +kernel
theorem dX12_worst_153 : decode cX12_worst 153 = .ok (.lcmp, 1) := by decide +kernel
theorem dX12_worst_154 : decode cX12_worst 154 = .ok (.ifCond .ge 8, 3) := by decide +kernel
theorem dX12_worst_157 : decode cX12_worst 157 = .ok (.lload 6, 2) := by decide +kernel
theorem dX12_worst_159 : decode cX12_worst 159 = .ok (.goto 4, 3) := by decide +kernel
theorem dX12_worst_162 : decode cX12_worst 162 = .ok (.lload_n 3, 1) := by decide +kernel
theorem dX12_worst_163 : decode cX12_worst 163 = .ok (.lstore_n 3, 1) := by decide +kernel
theorem dX12_worst_164 : decode cX12_worst 164 = .ok (.iinc 8 1, 3) := by decide +kernel
theorem dX12_worst_167 : decode cX12_worst 167 = .ok (.goto (-113), 3) := by decide +kernel
theorem dX12_worst_170 : decode cX12_worst 170 = .ok (.iinc 5 1, 3) := by decide +kernel
theorem dX12_worst_173 : decode cX12_worst 173 = .ok (.goto (-139), 3) := by decide +kernel
theorem dX12_worst_176 : decode cX12_worst 176 = .ok (.lload_n 3, 1) := by decide +kernel
theorem dX12_worst_177 : decode cX12_worst 177 = .ok (.lreturn, 1) := by decide +kernel
theorem dX12_ahead_0 : decode cX12_ahead 0 = .ok (.aload_n 0, 1) := by decide +kernel
theorem dX12_ahead_1 : decode cX12_ahead 1 = .ok (.iconst 0, 1) := by decide +kernel
theorem dX12_ahead_2 : decode cX12_ahead 2 = .ok (.putfield 67, 3) := by decide +kernel
theorem dX12_ahead_5 : decode cX12_ahead 5 = .ok (.iload_n 1, 1) := by decide +kernel
theorem dX12_ahead_6 : decode cX12_ahead 6 = .ok (.i2l, 1) := by decide +kernel
theorem dX12_ahead_7 : decode cX12_ahead 7 = .ok (.lconst 1, 1) := by decide +kernel
theorem dX12_ahead_8 : decode cX12_ahead 8 = .ok (.ldc2_w 172, 3) := by decide +kernel
theorem dX12_ahead_11 : decode cX12_ahead 11 = .ok (.invokestatic 83, 3) := by decide +kernel
theorem dX12_ahead_14 : decode cX12_ahead 14 = .ok (.ifCond .eq 19, 3) := by decide +kernel
theorem dX12_ahead_17 : decode cX12_ahead 17 = .ok (.aload_n 0, 1) := by decide +kernel
theorem dX12_ahead_18 : decode cX12_ahead 18 = .ok (.getfield 16, 3) := by decide +kernel
theorem dX12_ahead_21 : decode cX12_ahead 21 = .ok (.iconst 1, 1) := by decide +kernel
theorem dX12_ahead_22 : decode cX12_ahead 22 = .ok (.laload, 1) := by decide +kernel
theorem dX12_ahead_23 : decode cX12_ahead 23 = .ok (.iload_n 1, 1) := by decide +kernel
theorem dX12_ahead_24 : decode cX12_ahead 24 = .ok (.i2l, 1) := by decide +kernel
theorem dX12_ahead_25 : decode cX12_ahead 25 = .ok (.ladd, 1) := by decide +kernel
theorem dX12_ahead_26 : decode cX12_ahead 26 = .ok (.ldc2_w 286, 3) := by decide +kernel
theorem dX12_ahead_29 : decode cX12_ahead 29 = .ok (.lcmp, 1) := by decide +kernel
theorem dX12_ahead_30 : decode cX12_ahead 30 = .ok (.ifCond .le 5, 3) := by decide +kernel
theorem dX12_ahead_33 : decode cX12_ahead 33 = .ok (.iconst (-1), 1) := by decide +kernel
theorem dX12_ahead_34 : decode cX12_ahead 34 = .ok (.ireturn, 1) := by decide +kernel
theorem dX12_ahead_35 : decode cX12_ahead 35 = .ok (.aload_n 0, 1) := by decide +kernel
theorem dX12_ahead_36 : decode cX12_ahead 36 = .ok (.invokevirtual 310, 3) := by decide +kernel
theorem dX12_ahead_39 : decode cX12_ahead 39 = .ok (.iconst (-1), 1) := by decide +kernel
theorem dX12_ahead_40 : decode cX12_ahead 40 = .ok (.istore_n 2, 1) := by decide +kernel
theorem dX12_ahead_41 : decode cX12_ahead 41 = .ok (.iconst 0, 1) := by decide +kernel
theorem dX12_ahead_42 : decode cX12_ahead 42 = .ok (.istore_n 3, 1) := by decide +kernel
theorem dX12_ahead_43 : decode cX12_ahead 43 = .ok (.iload_n 3, 1) := by decide +kernel
theorem dX12_ahead_44 : decode cX12_ahead 44 = .ok (.iload_n 1, 1) := by decide +kernel
theorem dX12_ahead_45 : decode cX12_ahead 45 = .ok (.if_icmp .ge 15, 3) := by decide +kernel
theorem dX12_ahead_48 : decode cX12_ahead 48 = .ok (.aload_n 0, 1) := by decide +kernel
theorem dX12_ahead_49 : decode cX12_ahead 49 = .ok (.iconst 0, 1) := by decide +kernel
theorem dX12_ahead_50 : decode cX12_ahead 50 = .ok (.invokevirtual 288, 3) := by decide +kernel
theorem dX12_ahead_53 : decode cX12_ahead 53 = .ok (.istore_n 2, 1) := by decide +kernel
theorem dX12_ahead_54 : decode cX12_ahead 54 = .ok (.iinc 3 1, 3) := by decide +kernel
theorem dX12_ahead_57 : decode cX12_ahead 57 = .ok (.goto (-14), 3) := by decide +kernel
theorem dX12_ahead_60 : decode cX12_ahead 60 = .ok (.aload_n 0, 1) := by decide +kernel
theorem dX12_ahead_61 : decode cX12_ahead 61 = .ok (.invokevirtual 313, 3) := by decide +kernel
theorem dX12_ahead_64 : decode cX12_ahead 64 = .ok (.iload_n 2, 1) := by decide +kernel
theorem dX12_ahead_65 : decode cX12_ahead 65 = .ok (.ireturn, 1) := by decide +kernel
theorem dX12_finish_0 : decode cX12_finish 0 = .ok (.aload_n 0, 1) := by decide +kernel
theorem dX12_finish_1 : decode cX12_finish 1 = .ok (.iconst 0, 1) := by decide +kernel
theorem dX12_finish_2 : decode cX12_finish 2 = .ok (.putfield 67, 3) := by decide +kernel
theorem dX12_finish_5 : decode cX12_finish 5 = .ok (.aload_n 0, 1) := by decide +kernel
theorem dX12_finish_6 : decode cX12_finish 6 = .ok (.iload_n 1, 1) := by decide +kernel
theorem dX12_finish_7 : decode cX12_finish 7 = .ok (.invokevirtual 142, 3) := by decide +kernel
theorem dX12_finish_10 : decode cX12_finish 10 = .ok (.ifCond .eq 20, 3) := by decide +kernel
theorem dX12_finish_13 : decode cX12_finish 13 = .ok (.aload_n 0, 1) := by decide +kernel
theorem dX12_finish_14 : decode cX12_finish 14 = .ok (.getfield 16, 3) := by decide +kernel
theorem dX12_finish_17 : decode cX12_finish 17 = .ok (.iload_n 1, 1) := by decide +kernel
theorem dX12_finish_18 : decode cX12_finish 18 = .ok (.invokestatic 87, 3) := by decide +kernel
theorem dX12_finish_21 : decode cX12_finish 21 = .ok (.bipush 13, 2) := by decide +kernel
theorem dX12_finish_23 : decode cX12_finish 23 = .ok (.iadd, 1) := by decide +kernel
theorem dX12_finish_24 : decode cX12_finish 24 = .ok (.laload, 1) := by decide +kernel
theorem dX12_finish_25 : decode cX12_finish 25 = .ok (.lconst 0, 1) := by decide +kernel
theorem dX12_finish_26 : decode cX12_finish 26 = .ok (.lcmp, 1) := by decide +kernel
theorem dX12_finish_27 : decode cX12_finish 27 = .ok (.ifCond .ne 5, 3) := by decide +kernel
theorem dX12_finish_30 : decode cX12_finish 30 = .ok (.iconst (-1), 1) := by decide +kernel
theorem dX12_finish_31 : decode cX12_finish 31 = .ok (.ireturn, 1) := by decide +kernel
theorem dX12_finish_32 : decode cX12_finish 32 = .ok (.aload_n 0, 1) := by decide +kernel
theorem dX12_finish_33 : decode cX12_finish 33 = .ok (.invokevirtual 310, 3) := by decide +kernel
theorem dX12_finish_36 : decode cX12_finish 36 = .ok (.iconst 0, 1) := by decide +kernel
theorem dX12_finish_37 : decode cX12_finish 37 = .ok (.istore_n 2, 1) := by decide +kernel
theorem dX12_finish_38 : decode cX12_finish 38 = .ok (.iload_n 2, 1) := by decide +kernel
theorem dX12_finish_39 : decode cX12_finish 39 = .ok (.sipush 500, 3) := by decide +kernel
theorem dX12_finish_42 : decode cX12_finish 42 = .ok (.if_icmp .ge 45, 3) := by decide +kernel
theorem dX12_finish_45 : decode cX12_finish 45 = .ok (.aload_n 0, 1) := by decide +kernel
theorem dX12_finish_46 : decode cX12_finish 46 = .ok (.getfield 16, 3) := by decide +kernel
theorem dX12_finish_49 : decode cX12_finish 49 = .ok (.iconst 1, 1) := by decide +kernel
theorem dX12_finish_50 : decode cX12_finish 50 = .ok (.laload, 1) := by decide +kernel
theorem dX12_finish_51 : decode cX12_finish 51 = .ok (.ldc2_w 286, 3) := by decide +kernel
theorem dX12_finish_54 : decode cX12_finish 54 = .ok (.lcmp, 1) := by decide +kernel
theorem dX12_finish_55 : decode cX12_finish 55 = .ok (.ifCond .ge 32, 3) := by decide +kernel
theorem dX12_finish_58 : decode cX12_finish 58 = .ok (.aload_n 0, 1) := by decide +kernel
theorem dX12_finish_59 : decode cX12_finish 59 = .ok (.getfield 16, 3) := by decide +kernel
theorem dX12_finish_62 : decode cX12_finish 62 = .ok (.iload_n 1, 1) := by decide +kernel
theorem dX12_finish_63 : decode cX12_finish 63 = .ok (.invokestatic 87, 3) := by decide +kernel
theorem dX12_finish_66 : decode cX12_finish 66 = .ok (.bipush 13, 2) := by decide +kernel
theorem dX12_finish_68 : decode cX12_finish 68 = .ok (.iadd, 1) := by decide +kernel
theorem dX12_finish_69 : decode cX12_finish 69 = .ok (.laload, 1) := by decide +kernel
theorem dX12_finish_70 : decode cX12_finish 70 = .ok (.lconst 0, 1) := by decide +kernel
theorem dX12_finish_71 : decode cX12_finish 71 = .ok (.lcmp, 1) := by decide +kernel
theorem dX12_finish_72 : decode cX12_finish 72 = .ok (.ifCond .le 15, 3) := by decide +kernel
theorem dX12_finish_75 : decode cX12_finish 75 = .ok (.aload_n 0, 1) := by decide +kernel
theorem dX12_finish_76 : decode cX12_finish 76 = .ok (.iconst 0, 1) := by decide +kernel
theorem dX12_finish_77 : decode cX12_finish 77 = .ok (.invokevirtual 288, 3) := by decide +kernel
theorem dX12_finish_80 : decode cX12_finish 80 = .ok (.pop, 1) := by decide +kernel
theorem dX12_finish_81 : decode cX12_finish 81 = .ok (.iinc 2 1, 3) := by decide +kernel
theorem dX12_finish_84 : decode cX12_finish 84 = .ok (.goto (-46), 3) := by decide +kernel
theorem dX12_finish_87 : decode cX12_finish 87 = .ok (.aload_n 0, 1) := by decide +kernel
theorem dX12_finish_88 : decode cX12_finish 88 = .ok (.getfield 16, 3) := by decide +kernel
theorem dX12_finish_91 : decode cX12_finish 91 = .ok (.iload_n 1, 1) := by decide +kernel
theorem dX12_finish_92 : decode cX12_finish 92 = .ok (.invokestatic 87, 3) := by decide +kernel
theorem dX12_finish_95 : decode cX12_finish 95 = .ok (.bipush 13, 2) := by decide +kernel
theorem dX12_finish_97 : decode cX12_finish 97 = .ok (.iadd, 1) := by decide +kernel
theorem dX12_finish_98 : decode cX12_finish 98 = .ok (.laload, 1) := by decide +kernel
theorem dX12_finish_99 : decode cX12_finish 99 = .ok (.lconst 0, 1) := by decide +kernel
theorem dX12_finish_100 : decode cX12_finish 100 = .ok (.lcmp, 1) := by decide +kernel
theorem dX12_finish_101 : decode cX12_finish 101 = .ok (.ifCond .le 7, 3) := by decide +kernel
theorem dX12_finish_104 : decode cX12_finish 104 = .ok (.iconst (-1), 1) := by decide +kernel
theorem dX12_finish_105 : decode cX12_finish 105 = .ok (.goto 4, 3) := by decide +kernel
theorem dX12_finish_108 : decode cX12_finish 108 = .ok (.iload_n 2, 1) := by decide +kernel
theorem dX12_finish_109 : decode cX12_finish 109 = .ok (.istore_n 3, 1) := by decide +kernel
theorem dX12_finish_110 : decode cX12_finish 110 = .ok (.aload_n 0, 1) := by decide +kernel
theorem dX12_finish_111 : decode cX12_finish 111 = .ok (.invokevirtual 313, 3) := by decide +kernel
theorem dX12_finish_114 : decode cX12_finish 114 = .ok (.iload_n 3, 1) := by decide +kernel
theorem dX12_finish_115 : decode cX12_finish 115 = .ok (.ireturn, 1) := by decide +kernel
theorem dX12_due_0 : decode cX12_due 0 = .ok (.aload_n 0, 1) := by decide +kernel
theorem dX12_due_1 : decode cX12_due 1 = .ok (.iconst 0, 1) := by decide +kernel
theorem dX12_due_2 : decode cX12_due 2 = .ok (.putfield 67, 3) := by decide +kernel
theorem dX12_due_5 : decode cX12_due 5 = .ok (.aload_n 0, 1) := by decide +kernel
theorem dX12_due_6 : decode cX12_due 6 = .ok (.iload_n 1, 1) := by decide +kernel
theorem dX12_due_7 : decode cX12_due 7 = .ok (.invokevirtual 142, 3) := by decide +kernel
theorem dX12_due_10 : decode cX12_due 10 = .ok (.ifCond .ne 5, 3) := by decide +kernel
theorem dX12_due_13 : decode cX12_due 13 = .ok (.iconst (-1), 1) := by decide +kernel
theorem dX12_due_14 : decode cX12_due 14 = .ok (.ireturn, 1) := by decide +kernel
theorem dX12_due_15 : decode cX12_due 15 = .ok (.aload_n 0, 1) := by decide +kernel
theorem dX12_due_16 : decode cX12_due 16 = .ok (.invokevirtual 310, 3) := by decide +kernel
theorem dX12_due_19 : decode cX12_due 19 = .ok (.aload_n 0, 1) := by decide +kernel
theorem dX12_due_20 : decode cX12_due 20 = .ok (.getfield 16, 3) := by decide +kernel
theorem dX12_due_23 : decode cX12_due 23 = .ok (.iload_n 1, 1) := by decide +kernel
theorem dX12_due_24 : decode cX12_due 24 = .ok (.invokestatic 87, 3) := by decide +kernel
theorem dX12_due_27 : decode cX12_due 27 = .ok (.iconst 5, 1) := by decide +kernel
theorem dX12_due_28 : decode cX12_due 28 = .ok (.iadd, 1) := by decide +kernel
theorem dX12_due_29 : decode cX12_due 29 = .ok (.laload, 1) := by decide +kernel
theorem dX12_due_30 : decode cX12_due 30 = .ok (.lstore_n 2, 1) := by decide +kernel
theorem dX12_due_31 : decode cX12_due 31 = .ok (.iconst 0, 1) := by decide +kernel
theorem dX12_due_32 : decode cX12_due 32 = .ok (.istore 4, 2) := by decide +kernel
theorem dX12_due_34 : decode cX12_due 34 = .ok (.iload 4, 2) := by decide +kernel
theorem dX12_due_36 : decode cX12_due 36 = .ok (.sipush 500, 3) := by decide +kernel
theorem dX12_due_39 : decode cX12_due 39 = .ok (.if_icmp .ge 44, 3) := by decide +kernel
theorem dX12_due_42 : decode cX12_due 42 = .ok (.aload_n 0, 1) := by decide +kernel
theorem dX12_due_43 : decode cX12_due 43 = .ok (.getfield 16, 3) := by decide +kernel
theorem dX12_due_46 : decode cX12_due 46 = .ok (.iconst 1, 1) := by decide +kernel
theorem dX12_due_47 : decode cX12_due 47 = .ok (.laload, 1) := by decide +kernel
theorem dX12_due_48 : decode cX12_due 48 = .ok (.ldc2_w 286, 3) := by decide +kernel
theorem dX12_due_51 : decode cX12_due 51 = .ok (.lcmp, 1) := by decide +kernel
theorem dX12_due_52 : decode cX12_due 52 = .ok (.ifCond .ge 31, 3) := by decide +kernel
theorem dX12_due_55 : decode cX12_due 55 = .ok (.aload_n 0, 1) := by decide +kernel
theorem dX12_due_56 : decode cX12_due 56 = .ok (.getfield 16, 3) := by decide +kernel
theorem dX12_due_59 : decode cX12_due 59 = .ok (.iload_n 1, 1) := by decide +kernel
theorem dX12_due_60 : decode cX12_due 60 = .ok (.invokestatic 87, 3) := by decide +kernel
theorem dX12_due_63 : decode cX12_due 63 = .ok (.iconst 5, 1) := by decide +kernel
theorem dX12_due_64 : decode cX12_due 64 = .ok (.iadd, 1) := by decide +kernel
theorem dX12_due_65 : decode cX12_due 65 = .ok (.laload, 1) := by decide +kernel
theorem dX12_due_66 : decode cX12_due 66 = .ok (.lload_n 2, 1) := by decide +kernel
theorem dX12_due_67 : decode cX12_due 67 = .ok (.lcmp, 1) := by decide +kernel
theorem dX12_due_68 : decode cX12_due 68 = .ok (.ifCond .ne 15, 3) := by decide +kernel
theorem dX12_due_71 : decode cX12_due 71 = .ok (.aload_n 0, 1) := by decide +kernel
theorem dX12_due_72 : decode cX12_due 72 = .ok (.iconst 0, 1) := by decide +kernel
theorem dX12_due_73 : decode cX12_due 73 = .ok (.invokevirtual 288, 3) := by decide +kernel
theorem dX12_due_76 : decode cX12_due 76 = .ok (.pop, 1) := by decide +kernel
theorem dX12_due_77 : decode cX12_due 77 = .ok (.iinc 4 1, 3) := by decide +kernel
theorem dX12_due_80 : decode cX12_due 80 = .ok (.goto (-46), 3) := by decide +kernel
theorem dX12_due_83 : decode cX12_due 83 = .ok (.aload_n 0, 1) := by decide +kernel
theorem dX12_due_84 : decode cX12_due 84 = .ok (.getfield 16, 3) := by decide +kernel
theorem dX12_due_87 : decode cX12_due 87 = .ok (.iload_n 1, 1) := by decide +kernel
theorem dX12_due_88 : decode cX12_due 88 = .ok (.invokestatic 87, 3) := by decide +kernel
theorem dX12_due_91 : decode cX12_due 91 = .ok (.iconst 5, 1) := by decide +kernel
theorem dX12_due_92 : decode cX12_due 92 = .ok (.iadd, 1) := by decide +kernel
theorem dX12_due_93 : decode cX12_due 93 = .ok (.laload, 1) := by decide +kernel
theorem dX12_due_94 : decode cX12_due 94 = .ok (.lload_n 2, 1) := by decide +kernel
theorem dX12_due_95 : decode cX12_due 95 = .ok (.lcmp, 1) := by decide +kernel
theorem dX12_due_96 : decode cX12_due 96 = .ok (.ifCond .ne 7, 3) := by decide +kernel
theorem dX12_due_99 : decode cX12_due 99 = .ok (.iconst (-1), 1) := by decide +kernel
theorem dX12_due_100 : decode cX12_due 100 = .ok (.goto 5, 3) := by decide +kernel
theorem dX12_due_103 : decode cX12_due 103 = .ok (.iload 4, 2) := by decide +kernel
theorem dX12_due_105 : decode cX12_due 105 = .ok (.istore 5, 2) := by decide +kernel
theorem dX12_due_107 : decode cX12_due 107 = .ok (.aload_n 0, 1) := by decide +kernel
theorem dX12_due_108 : decode cX12_due 108 = .ok (.invokevirtual 313, 3) := by decide +kernel
theorem dX12_due_111 : decode cX12_due 111 = .ok (.iload 5, 2) := by decide +kernel
theorem dX12_due_113 : decode cX12_due 113 = .ok (.ireturn, 1) := by decide +kernel
theorem dX12_runsWith_0 : decode cX12_runsWith 0 = .ok (.aload_n 0, 1) := by decide +kernel
theorem dX12_runsWith_1 : decode cX12_runsWith 1 = .ok (.invokevirtual 310, 3) := by decide +kernel
theorem dX12_runsWith_4 : decode cX12_runsWith 4 = .ok (.iload_n 2, 1) := by decide +kernel
theorem dX12_runsWith_5 : decode cX12_runsWith 5 = .ok (.i2l, 1) := by decide +kernel
theorem dX12_runsWith_6 : decode cX12_runsWith 6 = .ok (.aload_n 0, 1) := by decide +kernel
theorem dX12_runsWith_7 : decode cX12_runsWith 7 = .ok (.iload_n 1, 1) := by decide +kernel
theorem dX12_runsWith_8 : decode cX12_runsWith 8 = .ok (.invokevirtual 94, 3) := by decide +kernel
theorem dX12_runsWith_11 : decode cX12_runsWith 11 = .ok (.lcmp, 1) := by decide +kernel
theorem dX12_runsWith_12 : decode cX12_runsWith 12 = .ok (.ifCond .eq 13, 3) := by decide +kernel
theorem dX12_runsWith_15 : decode cX12_runsWith 15 = .ok (.aload_n 0, 1) := by decide +kernel
theorem dX12_runsWith_16 : decode cX12_runsWith 16 = .ok (.iload_n 1, 1) := by decide +kernel
theorem dX12_runsWith_17 : decode cX12_runsWith 17 = .ok (.iload_n 2, 1) := by decide +kernel
theorem dX12_runsWith_18 : decode cX12_runsWith 18 = .ok (.i2l, 1) := by decide +kernel
theorem dX12_runsWith_19 : decode cX12_runsWith 19 = .ok (.invokevirtual 157, 3) := by decide +kernel
theorem dX12_runsWith_22 : decode cX12_runsWith 22 = .ok (.ifCond .eq 7, 3) := by decide +kernel
theorem dX12_runsWith_25 : decode cX12_runsWith 25 = .ok (.iconst 0, 1) := by decide +kernel
theorem dX12_runsWith_26 : decode cX12_runsWith 26 = .ok (.goto 4, 3) := by decide +kernel
theorem dX12_runsWith_29 : decode cX12_runsWith 29 = .ok (.iconst (-1), 1) := by decide +kernel
theorem dX12_runsWith_30 : decode cX12_runsWith 30 = .ok (.istore 4, 2) := by decide +kernel
theorem dX12_runsWith_32 : decode cX12_runsWith 32 = .ok (.iconst 0, 1) := by decide +kernel
theorem dX12_runsWith_33 : decode cX12_runsWith 33 = .ok (.istore 5, 2) := by decide +kernel
theorem dX12_runsWith_35 : decode cX12_runsWith 35 = .ok (.iload 5, 2) := by decide +kernel
theorem dX12_runsWith_37 : decode cX12_runsWith 37 = .ok (.iload_n 3, 1) := by decide +kernel
theorem dX12_runsWith_38 : decode cX12_runsWith 38 = .ok (.if_icmp .ge 34, 3) := by decide +kernel
theorem dX12_runsWith_41 : decode cX12_runsWith 41 = .ok (.iload 4, 2) := by decide +kernel
theorem dX12_runsWith_43 : decode cX12_runsWith 43 = .ok (.iconst (-1), 1) := by decide +kernel
theorem dX12_runsWith_44 : decode cX12_runsWith 44 = .ok (.if_icmp .eq 28, 3) := by decide +kernel
theorem dX12_runsWith_47 : decode cX12_runsWith 47 = .ok (.iload 4, 2) := by decide +kernel
theorem dX12_runsWith_49 : decode cX12_runsWith 49 = .ok (.aload_n 0, 1) := by decide +kernel
theorem dX12_runsWith_50 : decode cX12_runsWith 50 = .ok (.iconst 0, 1) := by decide +kernel
theorem dX12_runsWith_51 : decode cX12_runsWith 51 = .ok (.invokevirtual 288, 3) := by decide +kernel
theorem dX12_runsWith_54 : decode cX12_runsWith 54 = .ok (.iload_n 1, 1) := by decide +kernel
theorem dX12_runsWith_55 : decode cX12_runsWith 55 = .ok (.if_icmp .ne 7, 3) := by decide +kernel
theorem dX12_runsWith_58 : decode cX12_runsWith 58 = .ok (.iconst 1, 1) := by decide +kernel
theorem dX12_runsWith_59 : decode cX12_runsWith 59 = .ok (.goto 4, 3) := by decide +kernel
theorem dX12_runsWith_62 : decode cX12_runsWith 62 = .ok (.iconst 0, 1) := by decide +kernel
theorem dX12_runsWith_63 : decode cX12_runsWith 63 = .ok (.iadd, 1) := by decide +kernel
theorem dX12_runsWith_64 : decode cX12_runsWith 64 = .ok (.istore 4, 2) := by decide +kernel
theorem dX12_runsWith_66 : decode cX12_runsWith 66 = .ok (.iinc 5 1, 3) := by decide +kernel
theorem dX12_runsWith_69 : decode cX12_runsWith 69 = .ok (.goto (-34), 3) := by decide +kernel
theorem dX12_runsWith_72 : decode cX12_runsWith 72 = .ok (.aload_n 0, 1) := by decide +kernel
theorem dX12_runsWith_73 : decode cX12_runsWith 73 = .ok (.invokevirtual 313, 3) := by decide +kernel
theorem dX12_runsWith_76 : decode cX12_runsWith 76 = .ok (.iload 4, 2) := by decide +kernel
theorem dX12_runsWith_78 : decode cX12_runsWith 78 = .ok (.ireturn, 1) := by decide +kernel
theorem dX12_least_0 : decode cX12_least 0 = .ok (.aload_n 0, 1) := by decide +kernel
theorem dX12_least_1 : decode cX12_least 1 = .ok (.iconst 0, 1) := by decide +kernel
theorem dX12_least_2 : decode cX12_least 2 = .ok (.putfield 67, 3) := by decide +kernel
theorem dX12_least_5 : decode cX12_least 5 = .ok (.aload_n 0, 1) := by decide +kernel
theorem dX12_least_6 : decode cX12_least 6 = .ok (.iload_n 1, 1) := by decide +kernel
theorem dX12_least_7 : decode cX12_least 7 = .ok (.invokevirtual 142, 3) := by decide +kernel
theorem dX12_least_10 : decode cX12_least 10 = .ok (.ifCond .eq 42, 3) := by decide +kernel
theorem dX12_least_13 : decode cX12_least 13 = .ok (.iload_n 3, 1) := by decide +kernel
theorem dX12_least_14 : decode cX12_least 14 = .ok (.i2l, 1) := by decide +kernel
theorem dX12_least_15 : decode cX12_least 15 = .ok (.lconst 1, 1) := by decide +kernel
theorem dX12_least_16 : decode cX12_least 16 = .ok (.ldc2_w 172, 3) := by decide +kernel
theorem dX12_least_19 : decode cX12_least 19 = .ok (.invokestatic 83, 3) := by decide +kernel
theorem dX12_least_22 : decode cX12_least 22 = .ok (.ifCond .eq 30, 3) := by decide +kernel
theorem dX12_least_25 : decode cX12_least 25 = .ok (.iload_n 2, 1) := by decide +kernel
theorem dX12_least_26 : decode cX12_least 26 = .ok (.i2l, 1) := by decide +kernel
theorem dX12_least_27 : decode cX12_least 27 = .ok (.lconst 0, 1) := by decide +kernel
theorem dX12_least_28 : decode cX12_least 28 = .ok (.iload_n 3, 1) := by decide +kernel
theorem dX12_least_29 : decode cX12_least 29 = .ok (.i2l, 1) := by decide +kernel
theorem dX12_least_30 : decode cX12_least 30 = .ok (.invokestatic 83, 3) := by decide +kernel
theorem dX12_least_33 : decode cX12_least 33 = .ok (.ifCond .eq 19, 3) := by decide +kernel
theorem dX12_least_36 : decode cX12_least 36 = .ok (.aload_n 0, 1) := by decide +kernel
theorem dX12_least_37 : decode cX12_least 37 = .ok (.getfield 16, 3) := by decide +kernel
theorem dX12_least_40 : decode cX12_least 40 = .ok (.iconst 1, 1) := by decide +kernel
theorem dX12_least_41 : decode cX12_least 41 = .ok (.laload, 1) := by decide +kernel
theorem dX12_least_42 : decode cX12_least 42 = .ok (.iload_n 3, 1) := by decide +kernel
theorem dX12_least_43 : decode cX12_least 43 = .ok (.i2l, 1) := by decide +kernel
theorem dX12_least_44 : decode cX12_least 44 = .ok (.ladd, 1) := by decide +kernel
theorem dX12_least_45 : decode cX12_least 45 = .ok (.ldc2_w 286, 3) := by decide +kernel
theorem dX12_least_48 : decode cX12_least 48 = .ok (.lcmp, 1) := by decide +kernel
theorem dX12_least_49 : decode cX12_least 49 = .ok (.ifCond .le 5, 3) := by decide +kernel
theorem dX12_least_52 : decode cX12_least 52 = .ok (.iconst (-1), 1) := by decide +kernel
theorem dX12_least_53 : decode cX12_least 53 = .ok (.ireturn, 1) := by decide +kernel
theorem dX12_least_54 : decode cX12_least 54 = .ok (.iconst (-1), 1) := by decide +kernel
theorem dX12_least_55 : decode cX12_least 55 = .ok (.istore 4, 2) := by decide +kernel
theorem dX12_least_57 : decode cX12_least 57 = .ok (.bipush 8, 2) := by decide +kernel
theorem dX12_least_59 : decode cX12_least 59 = .ok (.istore 5, 2) := by decide +kernel
theorem dX12_least_61 : decode cX12_least 61 = .ok (.iload 5, 2) := by decide +kernel
theorem dX12_least_63 : decode cX12_least 63 = .ok (.ifCond .le 30, 3) := by decide +kernel
theorem dX12_least_66 : decode cX12_least 66 = .ok (.aload_n 0, 1) := by decide +kernel
theorem dX12_least_67 : decode cX12_least 67 = .ok (.iload_n 1, 1) := by decide +kernel
theorem dX12_least_68 : decode cX12_least 68 = .ok (.iload 5, 2) := by decide +kernel
theorem dX12_least_70 : decode cX12_least 70 = .ok (.iload_n 3, 1) := by decide +kernel
theorem dX12_least_71 : decode cX12_least 71 = .ok (.invokevirtual 316, 3) := by decide +kernel
theorem dX12_least_74 : decode cX12_least 74 = .ok (.iload_n 2, 1) := by decide +kernel
theorem dX12_least_75 : decode cX12_least 75 = .ok (.if_icmp .lt 8, 3) := by decide +kernel
theorem dX12_least_78 : decode cX12_least 78 = .ok (.iload 5, 2) := by decide +kernel
theorem dX12_least_80 : decode cX12_least 80 = .ok (.goto 5, 3) := by decide +kernel
theorem dX12_least_83 : decode cX12_least 83 = .ok (.iload 4, 2) := by decide +kernel
theorem dX12_least_85 : decode cX12_least 85 = .ok (.istore 4, 2) := by decide +kernel
theorem dX12_least_87 : decode cX12_least 87 = .ok (.iinc 5 (-1), 3) := by decide +kernel
theorem dX12_least_90 : decode cX12_least 90 = .ok (.goto (-29), 3) := by decide +kernel
theorem dX12_least_93 : decode cX12_least 93 = .ok (.iload 4, 2) := by decide +kernel
theorem dX12_least_95 : decode cX12_least 95 = .ok (.ireturn, 1) := by decide +kernel
theorem dX12_lookAtLags_0 : decode cX12_lookAtLags 0 = .ok (.iconst 0, 1) := by decide +kernel
theorem dX12_lookAtLags_1 : decode cX12_lookAtLags 1 = .ok (.istore_n 1, 1) := by decide +kernel
theorem dX12_lookAtLags_2 : decode cX12_lookAtLags 2 = .ok (.iload_n 1, 1) := by decide +kernel
theorem dX12_lookAtLags_3 : decode cX12_lookAtLags 3 = .ok (.i2l, 1) := by decide +kernel
theorem dX12_lookAtLags_4 : decode cX12_lookAtLags 4 = .ok (.aload_n 0, 1) := by decide +kernel
theorem dX12_lookAtLags_5 : decode cX12_lookAtLags 5 = .ok (.getfield 16, 3) := by decide +kernel
theorem dX12_lookAtLags_8 : decode cX12_lookAtLags 8 = .ok (.iconst 0, 1) := by decide +kernel
theorem dX12_lookAtLags_9 : decode cX12_lookAtLags 9 = .ok (.laload, 1) := by decide +kernel
theorem dX12_lookAtLags_10 : decode cX12_lookAtLags 10 = .ok (.lcmp, 1) := by decide +kernel
theorem dX12_lookAtLags_11 : decode cX12_lookAtLags 11 = .ok (.ifCond .ge 80, 3) := by decide +kernel
theorem dX12_lookAtLags_14 : decode cX12_lookAtLags 14 = .ok (.aload_n 0, 1) := by decide +kernel
theorem dX12_lookAtLags_15 : decode cX12_lookAtLags 15 = .ok (.iload_n 1, 1) := by decide +kernel
theorem dX12_lookAtLags_16 : decode cX12_lookAtLags 16 = .ok (.invokevirtual 90, 3) := by decide +kernel
theorem dX12_lookAtLags_19 : decode cX12_lookAtLags 19 = .ok (.ifCond .eq 66, 3) := by decide +kernel
theorem dX12_lookAtLags_22 : decode cX12_lookAtLags 22 = .ok (.ldc2_w 320, 3) := by decide +kernel
theorem dX12_lookAtLags_25 : decode cX12_lookAtLags 25 = .ok (.aload_n 0, 1) := by decide +kernel
theorem dX12_lookAtLags_26 : decode cX12_lookAtLags 26 = .ok (.iload_n 1, 1) := by decide +kernel
theorem dX12_lookAtLags_27 : decode cX12_lookAtLags 27 = .ok (.invokevirtual 119, 3) := by decide +kernel
theorem dX12_lookAtLags_30 : decode cX12_lookAtLags 30 = .ok (.lmul, 1) := by decide +kernel
theorem dX12_lookAtLags_31 : decode cX12_lookAtLags 31 = .ok (.aload_n 0, 1) := by decide +kernel
theorem dX12_lookAtLags_32 : decode cX12_lookAtLags 32 = .ok (.invokevirtual 105, 3) := by decide +kernel
theorem dX12_lookAtLags_35 : decode cX12_lookAtLags 35 = .ok (.ldc2_w 108, 3) := by decide +kernel
theorem dX12_lookAtLags_38 : decode cX12_lookAtLags 38 = .ok (.lmul, 1) := by decide +kernel
theorem dX12_lookAtLags_39 : decode cX12_lookAtLags 39 = .ok (.invokestatic 115, 3) := by decide +kernel
theorem dX12_lookAtLags_42 : decode cX12_lookAtLags 42 = .ok (.lstore_n 2, 1) := by decide +kernel
theorem dX12_lookAtLags_43 : decode cX12_lookAtLags 43 = .ok (.aload_n 0, 1) := by decide +kernel
theorem dX12_lookAtLags_44 : decode cX12_lookAtLags 44 = .ok (.lload_n 2, 1) := by decide +kernel
theorem dX12_lookAtLags_45 : decode cX12_lookAtLags 45 = .ok (.aload_n 0, 1) := by decide +kernel
theorem dX12_lookAtLags_46 : decode cX12_lookAtLags 46 = .ok (.getfield 322, 3) := by decide +kernel
theorem dX12_lookAtLags_49 : decode cX12_lookAtLags 49 = .ok (.lcmp, 1) := by decide +kernel
theorem dX12_lookAtLags_50 : decode cX12_lookAtLags 50 = .ok (.ifCond .le 7, 3) := by decide +kernel
theorem dX12_lookAtLags_53 : decode cX12_lookAtLags 53 = .ok (.lload_n 2, 1) := by decide +kernel
theorem dX12_lookAtLags_54 : decode cX12_lookAtLags 54 = .ok (.goto 7, 3) := by decide +kernel
theorem dX12_lookAtLags_57 : decode cX12_lookAtLags 57 = .ok (.aload_n 0, 1) := by decide +kernel
theorem dX12_lookAtLags_58 : decode cX12_lookAtLags 58 = .ok (.getfield 322, 3) := by decide +kernel
theorem dX12_lookAtLags_61 : decode cX12_lookAtLags 61 = .ok (.putfield 322, 3) := by decide +kernel
theorem dX12_lookAtLags_64 : decode cX12_lookAtLags 64 = .ok (.aload_n 0, 1) := by decide +kernel
theorem dX12_lookAtLags_65 : decode cX12_lookAtLags 65 = .ok (.lload_n 2, 1) := by decide +kernel
theorem dX12_lookAtLags_66 : decode cX12_lookAtLags 66 = .ok (.aload_n 0, 1) := by decide +kernel
theorem dX12_lookAtLags_67 : decode cX12_lookAtLags 67 = .ok (.getfield 325, 3) := by decide +kernel
theorem dX12_lookAtLags_70 : decode cX12_lookAtLags 70 = .ok (.lcmp, 1) := by decide +kernel
theorem dX12_lookAtLags_71 : decode cX12_lookAtLags 71 = .ok (.ifCond .ge 7, 3) := by decide +kernel
theorem dX12_lookAtLags_74 : decode cX12_lookAtLags 74 = .ok (.lload_n 2, 1) := by decide +kernel
theorem dX12_lookAtLags_75 : decode cX12_lookAtLags 75 = .ok (.goto 7, 3) := by decide +kernel
theorem dX12_lookAtLags_78 : decode cX12_lookAtLags 78 = .ok (.aload_n 0, 1) := by decide +kernel
theorem dX12_lookAtLags_79 : decode cX12_lookAtLags 79 = .ok (.getfield 325, 3) := by decide +kernel
theorem dX12_lookAtLags_82 : decode cX12_lookAtLags 82 = .ok (.putfield 325, 3) := by decide +kernel
theorem dX12_lookAtLags_85 : decode cX12_lookAtLags 85 = .ok (.iinc 1 1, 3) := by decide +kernel
theorem dX12_lookAtLags_88 : decode cX12_lookAtLags 88 = .ok (.goto (-86), 3) := by decide +kernel
theorem dX12_lookAtLags_91 : decode cX12_lookAtLags 91 = .ok (.return_, 1) := by decide +kernel
theorem dX12_would_0 : decode cX12_would 0 = .ok (.aload_n 0, 1) := by decide +kernel
theorem dX12_would_1 : decode cX12_would 1 = .ok (.iconst 0, 1) := by decide +kernel
theorem dX12_would_2 : decode cX12_would 2 = .ok (.putfield 67, 3) := by decide +kernel
theorem dX12_would_5 : decode cX12_would 5 = .ok (.iload_n 1, 1) := by decide +kernel
theorem dX12_would_6 : decode cX12_would 6 = .ok (.i2l, 1) := by decide +kernel
theorem dX12_would_7 : decode cX12_would 7 = .ok (.lconst 0, 1) := by decide +kernel
theorem dX12_would_8 : decode cX12_would 8 = .ok (.ldc2_w 227, 3) := by decide +kernel
theorem dX12_would_11 : decode cX12_would 11 = .ok (.invokestatic 83, 3) := by decide +kernel
theorem dX12_would_14 : decode cX12_would 14 = .ok (.ifCond .eq 43, 3) := by decide +kernel
theorem dX12_would_17 : decode cX12_would 17 = .ok (.iload_n 2, 1) := by decide +kernel
theorem dX12_would_18 : decode cX12_would 18 = .ok (.i2l, 1) := by decide +kernel
theorem dX12_would_19 : decode cX12_would 19 = .ok (.lconst 1, 1) := by decide +kernel
theorem dX12_would_20 : decode cX12_would 20 = .ok (.ldc2_w 172, 3) := by decide +kernel
theorem dX12_would_23 : decode cX12_would 23 = .ok (.invokestatic 83, 3) := by decide +kernel
theorem dX12_would_26 : decode cX12_would 26 = .ok (.ifCond .eq 31, 3) := by decide +kernel
theorem dX12_would_29 : decode cX12_would 29 = .ok (.iload_n 3, 1) := by decide +kernel
theorem dX12_would_30 : decode cX12_would 30 = .ok (.i2l, 1) := by decide +kernel
theorem dX12_would_31 : decode cX12_would 31 = .ok (.lconst 0, 1) := by decide +kernel
theorem dX12_would_32 : decode cX12_would 32 = .ok (.ldc2_w 124, 3) := by decide +kernel
theorem dX12_would_35 : decode cX12_would 35 = .ok (.invokestatic 83, 3) := by decide +kernel
theorem dX12_would_38 : decode cX12_would 38 = .ok (.ifCond .eq 19, 3) := by decide +kernel
theorem dX12_would_41 : decode cX12_would 41 = .ok (.aload_n 0, 1) := by decide +kernel
theorem dX12_would_42 : decode cX12_would 42 = .ok (.getfield 16, 3) := by decide +kernel
theorem dX12_would_45 : decode cX12_would 45 = .ok (.iconst 1, 1) := by decide +kernel
theorem dX12_would_46 : decode cX12_would 46 = .ok (.laload, 1) := by decide +kernel
theorem dX12_would_47 : decode cX12_would 47 = .ok (.iload_n 2, 1) := by decide +kernel
theorem dX12_would_48 : decode cX12_would 48 = .ok (.i2l, 1) := by decide +kernel
theorem dX12_would_49 : decode cX12_would 49 = .ok (.ladd, 1) := by decide +kernel
theorem dX12_would_50 : decode cX12_would 50 = .ok (.ldc2_w 286, 3) := by decide +kernel
theorem dX12_would_53 : decode cX12_would 53 = .ok (.lcmp, 1) := by decide +kernel
theorem dX12_would_54 : decode cX12_would 54 = .ok (.ifCond .le 7, 3) := by decide +kernel
theorem dX12_would_57 : decode cX12_would 57 = .ok (.ldc_w 330, 3) := by decide +kernel
theorem dX12_would_60 : decode cX12_would 60 = .ok (.ireturn, 1) := by decide +kernel
theorem dX12_would_61 : decode cX12_would 61 = .ok (.aload_n 0, 1) := by decide +kernel
theorem dX12_would_62 : decode cX12_would 62 = .ok (.invokevirtual 310, 3) := by decide +kernel
theorem dX12_would_65 : decode cX12_would 65 = .ok (.aload_n 0, 1) := by decide +kernel
theorem dX12_would_66 : decode cX12_would 66 = .ok (.aload_n 0, 1) := by decide +kernel
theorem dX12_would_67 : decode cX12_would 67 = .ok (.getfield 13, 3) := by decide +kernel
theorem dX12_would_70 : decode cX12_would 70 = .ok (.iconst 2, 1) := by decide +kernel
theorem dX12_would_71 : decode cX12_would 71 = .ok (.iaload, 1) := by decide +kernel
theorem dX12_would_72 : decode cX12_would 72 = .ok (.i2l, 1) := by decide +kernel
theorem dX12_would_73 : decode cX12_would 73 = .ok (.putfield 249, 3) := by decide +kernel
theorem dX12_would_76 : decode cX12_would 76 = .ok (.aload_n 0, 1) := by decide +kernel
theorem dX12_would_77 : decode cX12_would 77 = .ok (.lconst 0, 1) := by decide +kernel
theorem dX12_would_78 : decode cX12_would 78 = .ok (.putfield 322, 3) := by decide +kernel
theorem dX12_would_81 : decode cX12_would 81 = .ok (.aload_n 0, 1) := by decide +kernel
theorem dX12_would_82 : decode cX12_would 82 = .ok (.lconst 0, 1) := by decide +kernel
theorem dX12_would_83 : decode cX12_would 83 = .ok (.putfield 325, 3) := by decide +kernel
theorem dX12_would_86 : decode cX12_would 86 = .ok (.iconst 0, 1) := by decide +kernel
theorem dX12_would_87 : decode cX12_would 87 = .ok (.istore 4, 2) := by decide +kernel
theorem dX12_would_89 : decode cX12_would 89 = .ok (.iconst 0, 1) := by decide +kernel
theorem dX12_would_90 : decode cX12_would 90 = .ok (.istore 5, 2) := by decide +kernel
theorem dX12_would_92 : decode cX12_would 92 = .ok (.iconst 0, 1) := by decide +kernel
theorem dX12_would_93 : decode cX12_would 93 = .ok (.istore 6, 2) := by decide +kernel
theorem dX12_would_95 : decode cX12_would 95 = .ok (.iload 6, 2) := by decide +kernel
theorem dX12_would_97 : decode cX12_would 97 = .ok (.iload_n 2, 1) := by decide +kernel
theorem dX12_would_98 : decode cX12_would 98 = .ok (.if_icmp .ge 69, 3) := by decide +kernel
theorem dX12_would_101 : decode cX12_would 101 = .ok (.aload_n 0, 1) := by decide +kernel
theorem dX12_would_102 : decode cX12_would 102 = .ok (.getfield 16, 3) := by decide +kernel
theorem dX12_would_105 : decode cX12_would 105 = .ok (.iconst 3, 1) := by decide +kernel
theorem dX12_would_106 : decode cX12_would 106 = .ok (.laload, 1) := by decide +kernel
theorem dX12_would_107 : decode cX12_would 107 = .ok (.lstore 7, 2) := by decide +kernel
theorem dX12_would_109 : decode cX12_would 109 = .ok (.aload_n 0, 1) := by decide +kernel
theorem dX12_would_110 : decode cX12_would 110 = .ok (.iload_n 1, 1) := by decide +kernel
theorem dX12_would_111 : decode cX12_would 111 = .ok (.invokevirtual 288, 3) := by decide +kernel
theorem dX12_would_114 : decode cX12_would 114 = .ok (.istore 9, 2) := by decide +kernel
theorem dX12_would_116 : decode cX12_would 116 = .ok (.iload 5, 2) := by decide +kernel
theorem dX12_would_118 : decode cX12_would 118 = .ok (.iload 9, 2) := by decide +kernel
theorem dX12_would_120 : decode cX12_would 120 = .ok (.iconst (-1), 1) := by decide +kernel
theorem dX12_would_121 : decode cX12_would 121 = .ok (.if_icmp .ne 7, 3) := by decide +kernel
theorem dX12_would_124 : decode cX12_would 124 = .ok (.iconst 1, 1) := by decide +kernel
theorem dX12_would_125 : decode cX12_would 125 = .ok (.goto 4, 3) := by decide +kernel
theorem dX12_would_128 : decode cX12_would 128 = .ok (.iconst 0, 1) := by decide +kernel
theorem dX12_would_129 : decode cX12_would 129 = .ok (.iadd, 1) := by decide +kernel
theorem dX12_would_130 : decode cX12_would 130 = .ok (.istore 5, 2) := by decide +kernel
theorem dX12_would_132 : decode cX12_would 132 = .ok (.iload 4, 2) := by decide +kernel
theorem dX12_would_134 : decode cX12_would 134 = .ok (.iload 9, 2) := by decide +kernel
theorem dX12_would_136 : decode cX12_would 136 = .ok (.iconst (-1), 1) := by decide +kernel
theorem dX12_would_137 : decode cX12_would 137 = .ok (.if_icmp .eq 16, 3) := by decide +kernel
theorem dX12_would_140 : decode cX12_would 140 = .ok (.lload 7, 2) := by decide +kernel
theorem dX12_would_142 : decode cX12_would 142 = .ok (.iload 9, 2) := by decide +kernel
theorem dX12_would_144 : decode cX12_would 144 = .ok (.i2l, 1) := by decide +kernel
theorem dX12_would_145 : decode cX12_would 145 = .ok (.lcmp, 1) := by decide +kernel
theorem dX12_would_146 : decode cX12_would 146 = .ok (.ifCond .eq 7, 3) := by decide +kernel
theorem dX12_would_149 : decode cX12_would 149 = .ok (.iconst 1, 1) := by decide +kernel
theorem dX12_would_150 : decode cX12_would 150 = .ok (.goto 4, 3) := by decide +kernel
theorem dX12_would_153 : decode cX12_would 153 = .ok (.iconst 0, 1) := by decide +kernel
theorem dX12_would_154 : decode cX12_would 154 = .ok (.iadd, 1) := by decide +kernel
theorem dX12_would_155 : decode cX12_would 155 = .ok (.istore 4, 2) := by decide +kernel
theorem dX12_would_157 : decode cX12_would 157 = .ok (.aload_n 0, 1) := by decide +kernel
theorem dX12_would_158 : decode cX12_would 158 = .ok (.invokevirtual 331, 3) := by decide +kernel
theorem dX12_would_161 : decode cX12_would 161 = .ok (.iinc 6 1, 3) := by decide +kernel
theorem dX12_would_164 : decode cX12_would 164 = .ok (.goto (-69), 3) := by decide +kernel
theorem dX12_would_167 : decode cX12_would 167 = .ok (.aload_n 0, 1) := by decide +kernel
theorem dX12_would_168 : decode cX12_would 168 = .ok (.invokevirtual 313, 3) := by decide +kernel
theorem dX12_would_171 : decode cX12_would 171 = .ok (.iload_n 3, 1) := by decide +kernel
theorem dX12_would_172 : decode cX12_would 172 = .ok (.ifCond .ne 11, 3) := by decide +kernel
theorem dX12_would_175 : decode cX12_would 175 = .ok (.aload_n 0, 1) := by decide +kernel
theorem dX12_would_176 : decode cX12_would 176 = .ok (.getfield 322, 3) := by decide +kernel
theorem dX12_would_179 : decode cX12_would 179 = .ok (.l2i, 1) := by decide +kernel
theorem dX12_would_180 : decode cX12_would 180 = .ok (.goto 28, 3) := by decide +kernel
theorem dX12_would_183 : decode cX12_would 183 = .ok (.iload_n 3, 1) := by decide +kernel
theorem dX12_would_184 : decode cX12_would 184 = .ok (.iconst 1, 1) := by decide +kernel
theorem dX12_would_185 : decode cX12_would 185 = .ok (.if_icmp .ne 11, 3) := by decide +kernel
theorem dX12_would_188 : decode cX12_would 188 = .ok (.aload_n 0, 1) := by decide +kernel
theorem dX12_would_189 : decode cX12_would 189 = .ok (.getfield 325, 3) := by decide +kernel
theorem dX12_would_192 : decode cX12_would 192 = .ok (.l2i, 1) := by decide +kernel
theorem dX12_would_193 : decode cX12_would 193 = .ok (.goto 15, 3) := by decide +kernel
theorem dX12_would_196 : decode cX12_would 196 = .ok (.iload_n 3, 1) := by decide +kernel
theorem dX12_would_197 : decode cX12_would 197 = .ok (.iconst 2, 1) := by decide +kernel
theorem dX12_would_198 : decode cX12_would 198 = .ok (.if_icmp .ne 8, 3) := by decide +kernel
theorem dX12_would_201 : decode cX12_would 201 = .ok (.iload 4, 2) := by decide +kernel
theorem dX12_would_203 : decode cX12_would 203 = .ok (.goto 5, 3) := by decide +kernel
theorem dX12_would_206 : decode cX12_would 206 = .ok (.iload 5, 2) := by decide +kernel
theorem dX12_would_208 : decode cX12_would 208 = .ok (.ireturn, 1) := by decide +kernel
theorem dX12_inState_0 : decode cX12_inState 0 = .ok (.iconst 0, 1) := by decide +kernel
theorem dX12_inState_1 : decode cX12_inState 1 = .ok (.istore_n 2, 1) := by decide +kernel
theorem dX12_inState_2 : decode cX12_inState 2 = .ok (.iconst 0, 1) := by decide +kernel
theorem dX12_inState_3 : decode cX12_inState 3 = .ok (.istore_n 3, 1) := by decide +kernel
theorem dX12_inState_4 : decode cX12_inState 4 = .ok (.iload_n 3, 1) := by decide +kernel
theorem dX12_inState_5 : decode cX12_inState 5 = .ok (.i2l, 1) := by decide +kernel
theorem dX12_inState_6 : decode cX12_inState 6 = .ok (.aload_n 0, 1) := by decide +kernel
theorem dX12_inState_7 : decode cX12_inState 7 = .ok (.getfield 16, 3) := by decide +kernel
theorem dX12_inState_10 : decode cX12_inState 10 = .ok (.iconst 0, 1) := by decide +kernel
theorem dX12_inState_11 : decode cX12_inState 11 = .ok (.laload, 1) := by decide +kernel
theorem dX12_inState_12 : decode cX12_inState 12 = .ok (.lcmp, 1) := by decide +kernel
theorem dX12_inState_13 : decode cX12_inState 13 = .ok (.ifCond .ge 34, 3) := by decide +kernel
theorem dX12_inState_16 : decode cX12_inState 16 = .ok (.iload_n 2, 1) := by decide +kernel
theorem dX12_inState_17 : decode cX12_inState 17 = .ok (.aload_n 0, 1) := by decide +kernel
theorem dX12_inState_18 : decode cX12_inState 18 = .ok (.getfield 16, 3) := by decide +kernel
theorem dX12_inState_21 : decode cX12_inState 21 = .ok (.iload_n 3, 1) := by decide +kernel
theorem dX12_inState_22 : decode cX12_inState 22 = .ok (.invokestatic 87, 3) := by decide +kernel
theorem dX12_inState_25 : decode cX12_inState 25 = .ok (.iconst 2, 1) := by decide +kernel
theorem dX12_inState_26 : decode cX12_inState 26 = .ok (.iadd, 1) := by decide +kernel
theorem dX12_inState_27 : decode cX12_inState 27 = .ok (.laload, 1) := by decide +kernel
theorem dX12_inState_28 : decode cX12_inState 28 = .ok (.iload_n 1, 1) := by decide +kernel
theorem dX12_inState_29 : decode cX12_inState 29 = .ok (.i2l, 1) := by decide +kernel
theorem dX12_inState_30 : decode cX12_inState 30 = .ok (.lcmp, 1) := by decide +kernel
theorem dX12_inState_31 : decode cX12_inState 31 = .ok (.ifCond .ne 7, 3) := by decide +kernel
theorem dX12_inState_34 : decode cX12_inState 34 = .ok (.iconst 1, 1) := by decide +kernel
theorem dX12_inState_35 : decode cX12_inState 35 = .ok (.goto 4, 3) := by decide +kernel
theorem dX12_inState_38 : decode cX12_inState 38 = .ok (.iconst 0, 1) := by decide +kernel
theorem dX12_inState_39 : decode cX12_inState 39 = .ok (.iadd, 1) := by decide +kernel
theorem dX12_inState_40 : decode cX12_inState 40 = .ok (.istore_n 2, 1) := by decide +kernel
theorem dX12_inState_41 : decode cX12_inState 41 = .ok (.iinc 3 1, 3) := by decide +kernel
theorem dX12_inState_44 : decode cX12_inState 44 = .ok (.goto (-40), 3) := by decide +kernel
theorem dX12_inState_47 : decode cX12_inState 47 = .ok (.iload_n 2, 1) := by decide +kernel
theorem dX12_inState_48 : decode cX12_inState 48 = .ok (.ireturn, 1) := by decide +kernel
theorem dX12_scripted_0 : decode cX12_scripted 0 = .ok (.iconst 0, 1) := by decide +kernel
theorem dX12_scripted_1 : decode cX12_scripted 1 = .ok (.istore_n 1, 1) := by decide +kernel
theorem dX12_scripted_2 : decode cX12_scripted 2 = .ok (.iconst 0, 1) := by decide +kernel
theorem dX12_scripted_3 : decode cX12_scripted 3 = .ok (.istore_n 2, 1) := by decide +kernel
theorem dX12_scripted_4 : decode cX12_scripted 4 = .ok (.iload_n 2, 1) := by decide +kernel
theorem dX12_scripted_5 : decode cX12_scripted 5 = .ok (.i2l, 1) := by decide +kernel
theorem dX12_scripted_6 : decode cX12_scripted 6 = .ok (.aload_n 0, 1) := by decide +kernel
theorem dX12_scripted_7 : decode cX12_scripted 7 = .ok (.getfield 16, 3) := by decide +kernel
theorem dX12_scripted_10 : decode cX12_scripted 10 = .ok (.iconst 0, 1) := by decide +kernel
theorem dX12_scripted_11 : decode cX12_scripted 11 = .ok (.laload, 1) := by decide +kernel
theorem dX12_scripted_12 : decode cX12_scripted 12 = .ok (.lcmp, 1) := by decide +kernel
theorem dX12_scripted_13 : decode cX12_scripted 13 = .ok (.ifCond .ge 34, 3) := by decide +kernel
theorem dX12_scripted_16 : decode cX12_scripted 16 = .ok (.iload_n 1, 1) := by decide +kernel
theorem dX12_scripted_17 : decode cX12_scripted 17 = .ok (.aload_n 0, 1) := by decide +kernel
theorem dX12_scripted_18 : decode cX12_scripted 18 = .ok (.getfield 16, 3) := by decide +kernel
theorem dX12_scripted_21 : decode cX12_scripted 21 = .ok (.iload_n 2, 1) := by decide +kernel
theorem dX12_scripted_22 : decode cX12_scripted 22 = .ok (.invokestatic 87, 3) := by decide +kernel
theorem dX12_scripted_25 : decode cX12_scripted 25 = .ok (.bipush 13, 2) := by decide +kernel
theorem dX12_scripted_27 : decode cX12_scripted 27 = .ok (.iadd, 1) := by decide +kernel
theorem dX12_scripted_28 : decode cX12_scripted 28 = .ok (.laload, 1) := by decide +kernel
theorem dX12_scripted_29 : decode cX12_scripted 29 = .ok (.lconst 0, 1) := by decide +kernel
theorem dX12_scripted_30 : decode cX12_scripted 30 = .ok (.lcmp, 1) := by decide +kernel
theorem dX12_scripted_31 : decode cX12_scripted 31 = .ok (.ifCond .le 7, 3) := by decide +kernel
theorem dX12_scripted_34 : decode cX12_scripted 34 = .ok (.iconst 1, 1) := by decide +kernel
theorem dX12_scripted_35 : decode cX12_scripted 35 = .ok (.goto 4, 3) := by decide +kernel
theorem dX12_scripted_38 : decode cX12_scripted 38 = .ok (.iconst 0, 1) := by decide +kernel
theorem dX12_scripted_39 : decode cX12_scripted 39 = .ok (.iadd, 1) := by decide +kernel
theorem dX12_scripted_40 : decode cX12_scripted 40 = .ok (.istore_n 1, 1) := by decide +kernel
theorem dX12_scripted_41 : decode cX12_scripted 41 = .ok (.iinc 2 1, 3) := by decide +kernel
theorem dX12_scripted_44 : decode cX12_scripted 44 = .ok (.goto (-40), 3) := by decide +kernel
theorem dX12_scripted_47 : decode cX12_scripted 47 = .ok (.iload_n 1, 1) := by decide +kernel
theorem dX12_scripted_48 : decode cX12_scripted 48 = .ok (.ireturn, 1) := by decide +kernel
theorem dX12_count_0 : decode cX12_count 0 = .ok (.aload_n 0, 1) := by decide +kernel
theorem dX12_count_1 : decode cX12_count 1 = .ok (.iconst 0, 1) := by decide +kernel
theorem dX12_count_2 : decode cX12_count 2 = .ok (.putfield 67, 3) := by decide +kernel
theorem dX12_count_5 : decode cX12_count 5 = .ok (.iload_n 1, 1) := by decide +kernel
theorem dX12_count_6 : decode cX12_count 6 = .ok (.tableswitch 153 0 12 #[66, 74, 80, 86, 91, 99, 107, 112, 117, 124, 131, 138, 145], 66) := by decide +kernel
theorem dX12_count_72 : decode cX12_count 72 = .ok (.aload_n 0, 1) := by decide +kernel
theorem dX12_count_73 : decode cX12_count 73 = .ok (.getfield 16, 3) := by decide +kernel
theorem dX12_count_76 : decode cX12_count 76 = .ok (.iconst 0, 1) := by decide +kernel
theorem dX12_count_77 : decode cX12_count 77 = .ok (.laload, 1) := by decide +kernel
theorem dX12_count_78 : decode cX12_count 78 = .ok (.l2i, 1) := by decide +kernel
theorem dX12_count_79 : decode cX12_count 79 = .ok (.ireturn, 1) := by decide +kernel
theorem dX12_count_80 : decode cX12_count 80 = .ok (.aload_n 0, 1) := by decide +kernel
theorem dX12_count_81 : decode cX12_count 81 = .ok (.iconst 1, 1) := by decide +kernel
theorem dX12_count_82 : decode cX12_count 82 = .ok (.invokevirtual 334, 3) := by decide +kernel
theorem dX12_count_85 : decode cX12_count 85 = .ok (.ireturn, 1) := by decide +kernel
theorem dX12_count_86 : decode cX12_count 86 = .ok (.aload_n 0, 1) := by decide +kernel
theorem dX12_count_87 : decode cX12_count 87 = .ok (.iconst 2, 1) := by decide +kernel
theorem dX12_count_88 : decode cX12_count 88 = .ok (.invokevirtual 334, 3) := by decide +kernel
theorem dX12_count_91 : decode cX12_count 91 = .ok (.ireturn, 1) := by decide +kernel
theorem dX12_count_92 : decode cX12_count 92 = .ok (.aload_n 0, 1) := by decide +kernel
theorem dX12_count_93 : decode cX12_count 93 = .ok (.invokevirtual 337, 3) := by decide +kernel
theorem dX12_count_96 : decode cX12_count 96 = .ok (.ireturn, 1) := by decide +kernel
theorem dX12_count_97 : decode cX12_count 97 = .ok (.aload_n 0, 1) := by decide +kernel
theorem dX12_count_98 : decode cX12_count 98 = .ok (.getfield 16, 3) := by decide +kernel
theorem dX12_count_101 : decode cX12_count 101 = .ok (.iconst 3, 1) := by decide +kernel
theorem dX12_count_102 : decode cX12_count 102 = .ok (.laload, 1) := by decide +kernel
theorem dX12_count_103 : decode cX12_count 103 = .ok (.l2i, 1) := by decide +kernel
theorem dX12_count_104 : decode cX12_count 104 = .ok (.ireturn, 1) := by decide +kernel
theorem dX12_count_105 : decode cX12_count 105 = .ok (.aload_n 0, 1) := by decide +kernel
theorem dX12_count_106 : decode cX12_count 106 = .ok (.getfield 16, 3) := by decide +kernel
theorem dX12_count_109 : decode cX12_count 109 = .ok (.iconst 5, 1) := by decide +kernel
theorem dX12_count_110 : decode cX12_count 110 = .ok (.laload, 1) := by decide +kernel
theorem dX12_count_111 : decode cX12_count 111 = .ok (.l2i, 1) := by decide +kernel
theorem dX12_count_112 : decode cX12_count 112 = .ok (.ireturn, 1) := by decide +kernel
theorem dX12_count_113 : decode cX12_count 113 = .ok (.aload_n 0, 1) := by decide +kernel
theorem dX12_count_114 : decode cX12_count 114 = .ok (.getfield 73, 3) := by decide +kernel
theorem dX12_count_117 : decode cX12_count 117 = .ok (.ireturn, 1) := by decide +kernel
theorem dX12_count_118 : decode cX12_count 118 = .ok (.aload_n 0, 1) := by decide +kernel
theorem dX12_count_119 : decode cX12_count 119 = .ok (.getfield 128, 3) := by decide +kernel
theorem dX12_count_122 : decode cX12_count 122 = .ok (.ireturn, 1) := by decide +kernel
theorem dX12_count_123 : decode cX12_count 123 = .ok (.aload_n 0, 1) := by decide +kernel
theorem dX12_count_124 : decode cX12_count 124 = .ok (.getfield 7, 3) := by decide +kernel
theorem dX12_count_127 : decode cX12_count 127 = .ok (.iconst 1, 1) := by decide +kernel
theorem dX12_count_128 : decode cX12_count 128 = .ok (.iaload, 1) := by decide +kernel
theorem dX12_count_129 : decode cX12_count 129 = .ok (.ireturn, 1) := by decide +kernel
theorem dX12_count_130 : decode cX12_count 130 = .ok (.aload_n 0, 1) := by decide +kernel
theorem dX12_count_131 : decode cX12_count 131 = .ok (.getfield 7, 3) := by decide +kernel
theorem dX12_count_134 : decode cX12_count 134 = .ok (.iconst 2, 1) := by decide +kernel
theorem dX12_count_135 : decode cX12_count 135 = .ok (.iaload, 1) := by decide +kernel
theorem dX12_count_136 : decode cX12_count 136 = .ok (.ireturn, 1) := by decide +kernel
theorem dX12_count_137 : decode cX12_count 137 = .ok (.aload_n 0, 1) := by decide +kernel
theorem dX12_count_138 : decode cX12_count 138 = .ok (.getfield 7, 3) := by decide +kernel
theorem dX12_count_141 : decode cX12_count 141 = .ok (.iconst 4, 1) := by decide +kernel
theorem dX12_count_142 : decode cX12_count 142 = .ok (.iaload, 1) := by decide +kernel
theorem dX12_count_143 : decode cX12_count 143 = .ok (.ireturn, 1) := by decide +kernel
theorem dX12_count_144 : decode cX12_count 144 = .ok (.aload_n 0, 1) := by decide +kernel
theorem dX12_count_145 : decode cX12_count 145 = .ok (.getfield 7, 3) := by decide +kernel
theorem dX12_count_148 : decode cX12_count 148 = .ok (.iconst 5, 1) := by decide +kernel
theorem dX12_count_149 : decode cX12_count 149 = .ok (.iaload, 1) := by decide +kernel
theorem dX12_count_150 : decode cX12_count 150 = .ok (.ireturn, 1) := by decide +kernel
theorem dX12_count_151 : decode cX12_count 151 = .ok (.aload_n 0, 1) := by decide +kernel
theorem dX12_count_152 : decode cX12_count 152 = .ok (.getfield 7, 3) := by decide +kernel
theorem dX12_count_155 : decode cX12_count 155 = .ok (.bipush 6, 2) := by decide +kernel
theorem dX12_count_157 : decode cX12_count 157 = .ok (.iaload, 1) := by decide +kernel
theorem dX12_count_158 : decode cX12_count 158 = .ok (.ireturn, 1) := by decide +kernel
theorem dX12_count_159 : decode cX12_count 159 = .ok (.iload_n 1, 1) := by decide +kernel
theorem dX12_count_160 : decode cX12_count 160 = .ok (.i2l, 1) := by decide +kernel
theorem dX12_count_161 : decode cX12_count 161 = .ok (.ldc2_w 340, 3) := by decide +kernel
theorem dX12_count_164 : decode cX12_count 164 = .ok (.ldc2_w 304, 3) := by decide +kernel
theorem dX12_count_167 : decode cX12_count 167 = .ok (.invokestatic 83, 3) := by decide +kernel
theorem dX12_count_170 : decode cX12_count 170 = .ok (.ifCond .eq 15, 3) := by decide +kernel
theorem dX12_count_173 : decode cX12_count 173 = .ok (.aload_n 0, 1) := by decide +kernel
theorem dX12_count_174 : decode cX12_count 174 = .ok (.getfield 13, 3) := by decide +kernel
theorem dX12_count_177 : decode cX12_count 177 = .ok (.iload_n 1, 1) := by decide +kernel
theorem dX12_count_178 : decode cX12_count 178 = .ok (.bipush 13, 2) := by decide +kernel
theorem dX12_count_180 : decode cX12_count 180 = .ok (.isub, 1) := by decide +kernel
theorem dX12_count_181 : decode cX12_count 181 = .ok (.iaload, 1) := by decide +kernel
theorem dX12_count_182 : decode cX12_count 182 = .ok (.goto 18, 3) := by decide +kernel
theorem dX12_count_185 : decode cX12_count 185 = .ok (.iload_n 1, 1) := by decide +kernel
theorem dX12_count_186 : decode cX12_count 186 = .ok (.bipush 16, 2) := by decide +kernel
theorem dX12_count_188 : decode cX12_count 188 = .ok (.if_icmp .ne 11, 3) := by decide +kernel
theorem dX12_count_191 : decode cX12_count 191 = .ok (.aload_n 0, 1) := by decide +kernel
theorem dX12_count_192 : decode cX12_count 192 = .ok (.iconst 3, 1) := by decide +kernel
theorem dX12_count_193 : decode cX12_count 193 = .ok (.invokevirtual 334, 3) := by decide +kernel
theorem dX12_count_196 : decode cX12_count 196 = .ok (.goto 4, 3) := by decide +kernel
theorem dX12_count_199 : decode cX12_count 199 = .ok (.iconst (-1), 1) := by decide +kernel
theorem dX12_count_200 : decode cX12_count 200 = .ok (.ireturn, 1) := by decide +kernel
theorem dX12_status_0 : decode cX12_status 0 = .ok (.aload_n 0, 1) := by decide +kernel
theorem dX12_status_1 : decode cX12_status 1 = .ok (.iconst 0, 1) := by decide +kernel
theorem dX12_status_2 : decode cX12_status 2 = .ok (.putfield 67, 3) := by decide +kernel
theorem dX12_status_5 : decode cX12_status 5 = .ok (.aload_n 0, 1) := by decide +kernel
theorem dX12_status_6 : decode cX12_status 6 = .ok (.getfield 70, 3) := by decide +kernel
theorem dX12_status_9 : decode cX12_status 9 = .ok (.ireturn, 1) := by decide +kernel
theorem dJ9_floorDiv_f86c9_0 : decode cJ9_floorDiv_f86c9 0 = .ok (.lload_n 0, 1) := by decide +kernel
theorem dJ9_floorDiv_f86c9_1 : decode cJ9_floorDiv_f86c9 1 = .ok (.lload_n 2, 1) := by decide +kernel
theorem dJ9_floorDiv_f86c9_2 : decode cJ9_floorDiv_f86c9 2 = .ok (.ldiv, 1) := by decide +kernel
theorem dJ9_floorDiv_f86c9_3 : decode cJ9_floorDiv_f86c9 3 = .ok (.lstore 4, 2) := by decide +kernel
theorem dJ9_floorDiv_f86c9_5 : decode cJ9_floorDiv_f86c9 5 = .ok (.lload_n 0, 1) := by decide +kernel
theorem dJ9_floorDiv_f86c9_6 : decode cJ9_floorDiv_f86c9 6 = .ok (.lload_n 2, 1) := by decide +kernel
theorem dJ9_floorDiv_f86c9_7 : decode cJ9_floorDiv_f86c9 7 = .ok (.lxor, 1) := by decide +kernel
theorem dJ9_floorDiv_f86c9_8 : decode cJ9_floorDiv_f86c9 8 = .ok (.lconst 0, 1) := by decide +kernel
theorem dJ9_floorDiv_f86c9_9 : decode cJ9_floorDiv_f86c9 9 = .ok (.lcmp, 1) := by decide +kernel
theorem dJ9_floorDiv_f86c9_10 : decode cJ9_floorDiv_f86c9 10 = .ok (.ifCond .ge 17, 3) := by decide +kernel
theorem dJ9_floorDiv_f86c9_13 : decode cJ9_floorDiv_f86c9 13 = .ok (.lload 4, 2) := by decide +kernel
theorem dJ9_floorDiv_f86c9_15 : decode cJ9_floorDiv_f86c9 15 = .ok (.lload_n 2, 1) := by decide +kernel
theorem dJ9_floorDiv_f86c9_16 : decode cJ9_floorDiv_f86c9 16 = .ok (.lmul, 1) := by decide +kernel
theorem dJ9_floorDiv_f86c9_17 : decode cJ9_floorDiv_f86c9 17 = .ok (.lload_n 0, 1) := by decide +kernel
theorem dJ9_floorDiv_f86c9_18 : decode cJ9_floorDiv_f86c9 18 = .ok (.lcmp, 1) := by decide +kernel
theorem dJ9_floorDiv_f86c9_19 : decode cJ9_floorDiv_f86c9 19 = .ok (.ifCond .eq 8, 3) := by decide +kernel
theorem dJ9_floorDiv_f86c9_22 : decode cJ9_floorDiv_f86c9 22 = .ok (.lload 4, 2) := by decide +kernel
theorem dJ9_floorDiv_f86c9_24 : decode cJ9_floorDiv_f86c9 24 = .ok (.lconst 1, 1) := by decide +kernel
theorem dJ9_floorDiv_f86c9_25 : decode cJ9_floorDiv_f86c9 25 = .ok (.lsub, 1) := by decide +kernel
theorem dJ9_floorDiv_f86c9_26 : decode cJ9_floorDiv_f86c9 26 = .ok (.lreturn, 1) := by decide +kernel
theorem dJ9_floorDiv_f86c9_27 : decode cJ9_floorDiv_f86c9 27 = .ok (.lload 4, 2) := by decide +kernel
theorem dJ9_floorDiv_f86c9_29 : decode cJ9_floorDiv_f86c9 29 = .ok (.lreturn, 1) := by decide +kernel
theorem dJ9_floorMod_f86c9_0 : decode cJ9_floorMod_f86c9 0 = .ok (.lload_n 0, 1) := by decide +kernel
theorem dJ9_floorMod_f86c9_1 : decode cJ9_floorMod_f86c9 1 = .ok (.lload_n 2, 1) := by decide +kernel
theorem dJ9_floorMod_f86c9_2 : decode cJ9_floorMod_f86c9 2 = .ok (.lrem, 1) := by decide +kernel
theorem dJ9_floorMod_f86c9_3 : decode cJ9_floorMod_f86c9 3 = .ok (.lstore 4, 2) := by decide +kernel
theorem dJ9_floorMod_f86c9_5 : decode cJ9_floorMod_f86c9 5 = .ok (.lload_n 0, 1) := by decide +kernel
theorem dJ9_floorMod_f86c9_6 : decode cJ9_floorMod_f86c9 6 = .ok (.lload_n 2, 1) := by decide +kernel
theorem dJ9_floorMod_f86c9_7 : decode cJ9_floorMod_f86c9 7 = .ok (.lxor, 1) := by decide +kernel
theorem dJ9_floorMod_f86c9_8 : decode cJ9_floorMod_f86c9 8 = .ok (.lconst 0, 1) := by decide +kernel
theorem dJ9_floorMod_f86c9_9 : decode cJ9_floorMod_f86c9 9 = .ok (.lcmp, 1) := by decide +kernel
theorem dJ9_floorMod_f86c9_10 : decode cJ9_floorMod_f86c9 10 = .ok (.ifCond .ge 15, 3) := by decide +kernel
theorem dJ9_floorMod_f86c9_13 : decode cJ9_floorMod_f86c9 13 = .ok (.lload 4, 2) := by decide +kernel
theorem dJ9_floorMod_f86c9_15 : decode cJ9_floorMod_f86c9 15 = .ok (.lconst 0, 1) := by decide +kernel
theorem dJ9_floorMod_f86c9_16 : decode cJ9_floorMod_f86c9 16 = .ok (.lcmp, 1) := by decide +kernel
theorem dJ9_floorMod_f86c9_17 : decode cJ9_floorMod_f86c9 17 = .ok (.ifCond .eq 8, 3) := by decide +kernel
theorem dJ9_floorMod_f86c9_20 : decode cJ9_floorMod_f86c9 20 = .ok (.lload 4, 2) := by decide +kernel
theorem dJ9_floorMod_f86c9_22 : decode cJ9_floorMod_f86c9 22 = .ok (.lload_n 2, 1) := by decide +kernel
theorem dJ9_floorMod_f86c9_23 : decode cJ9_floorMod_f86c9 23 = .ok (.ladd, 1) := by decide +kernel
theorem dJ9_floorMod_f86c9_24 : decode cJ9_floorMod_f86c9 24 = .ok (.lreturn, 1) := by decide +kernel
theorem dJ9_floorMod_f86c9_25 : decode cJ9_floorMod_f86c9 25 = .ok (.lload 4, 2) := by decide +kernel
theorem dJ9_floorMod_f86c9_27 : decode cJ9_floorMod_f86c9 27 = .ok (.lreturn, 1) := by decide +kernel
theorem dJ9_max_7cf53_0 : decode cJ9_max_7cf53 0 = .ok (.iload_n 0, 1) := by decide +kernel
theorem dJ9_max_7cf53_1 : decode cJ9_max_7cf53 1 = .ok (.iload_n 1, 1) := by decide +kernel
theorem dJ9_max_7cf53_2 : decode cJ9_max_7cf53 2 = .ok (.if_icmp .lt 7, 3) := by decide +kernel
theorem dJ9_max_7cf53_5 : decode cJ9_max_7cf53 5 = .ok (.iload_n 0, 1) := by decide +kernel
theorem dJ9_max_7cf53_6 : decode cJ9_max_7cf53 6 = .ok (.goto 4, 3) := by decide +kernel
theorem dJ9_max_7cf53_9 : decode cJ9_max_7cf53 9 = .ok (.iload_n 1, 1) := by decide +kernel
theorem dJ9_max_7cf53_10 : decode cJ9_max_7cf53 10 = .ok (.ireturn, 1) := by decide +kernel
theorem dJ9_max_f86c9_0 : decode cJ9_max_f86c9 0 = .ok (.lload_n 0, 1) := by decide +kernel
theorem dJ9_max_f86c9_1 : decode cJ9_max_f86c9 1 = .ok (.lload_n 2, 1) := by decide +kernel
theorem dJ9_max_f86c9_2 : decode cJ9_max_f86c9 2 = .ok (.lcmp, 1) := by decide +kernel
theorem dJ9_max_f86c9_3 : decode cJ9_max_f86c9 3 = .ok (.ifCond .lt 7, 3) := by decide +kernel
theorem dJ9_max_f86c9_6 : decode cJ9_max_f86c9 6 = .ok (.lload_n 0, 1) := by decide +kernel
theorem dJ9_max_f86c9_7 : decode cJ9_max_f86c9 7 = .ok (.goto 4, 3) := by decide +kernel
theorem dJ9_max_f86c9_10 : decode cJ9_max_f86c9 10 = .ok (.lload_n 2, 1) := by decide +kernel
theorem dJ9_max_f86c9_11 : decode cJ9_max_f86c9 11 = .ok (.lreturn, 1) := by decide +kernel
theorem dJ9_min_7cf53_0 : decode cJ9_min_7cf53 0 = .ok (.iload_n 0, 1) := by decide +kernel
theorem dJ9_min_7cf53_1 : decode cJ9_min_7cf53 1 = .ok (.iload_n 1, 1) := by decide +kernel
theorem dJ9_min_7cf53_2 : decode cJ9_min_7cf53 2 = .ok (.if_icmp .gt 7, 3) := by decide +kernel
theorem dJ9_min_7cf53_5 : decode cJ9_min_7cf53 5 = .ok (.iload_n 0, 1) := by decide +kernel
theorem dJ9_min_7cf53_6 : decode cJ9_min_7cf53 6 = .ok (.goto 4, 3) := by decide +kernel
theorem dJ9_min_7cf53_9 : decode cJ9_min_7cf53 9 = .ok (.iload_n 1, 1) := by decide +kernel
theorem dJ9_min_7cf53_10 : decode cJ9_min_7cf53 10 = .ok (.ireturn, 1) := by decide +kernel
theorem dJ9_min_f86c9_0 : decode cJ9_min_f86c9 0 = .ok (.lload_n 0, 1) := by decide +kernel
theorem dJ9_min_f86c9_1 : decode cJ9_min_f86c9 1 = .ok (.lload_n 2, 1) := by decide +kernel
theorem dJ9_min_f86c9_2 : decode cJ9_min_f86c9 2 = .ok (.lcmp, 1) := by decide +kernel
theorem dJ9_min_f86c9_3 : decode cJ9_min_f86c9 3 = .ok (.ifCond .gt 7, 3) := by decide +kernel
theorem dJ9_min_f86c9_6 : decode cJ9_min_f86c9 6 = .ok (.lload_n 0, 1) := by decide +kernel
theorem dJ9_min_f86c9_7 : decode cJ9_min_f86c9 7 = .ok (.goto 4, 3) := by decide +kernel
theorem dJ9_min_f86c9_10 : decode cJ9_min_f86c9 10 = .ok (.lload_n 2, 1) := by decide +kernel
theorem dJ9_min_f86c9_11 : decode cJ9_min_f86c9 11 = .ok (.lreturn, 1) := by decide +kernel
theorem dJ0_length_8abf5_0 : decode cJ0_length_8abf5 0 = .ok (.aload_n 0, 1) := by decide +kernel
theorem dJ0_length_8abf5_1 : decode cJ0_length_8abf5 1 = .ok (.getfield 9, 3) := by decide +kernel
theorem dJ0_length_8abf5_4 : decode cJ0_length_8abf5 4 = .ok (.arraylength, 1) := by decide +kernel
theorem dJ0_length_8abf5_5 : decode cJ0_length_8abf5 5 = .ok (.aload_n 0, 1) := by decide +kernel
theorem dJ0_length_8abf5_6 : decode cJ0_length_8abf5 6 = .ok (.invokevirtual 335, 3) := by decide +kernel
theorem dJ0_length_8abf5_9 : decode cJ0_length_8abf5 9 = .ok (.ishr, 1) := by decide +kernel
theorem dJ0_length_8abf5_10 : decode cJ0_length_8abf5 10 = .ok (.ireturn, 1) := by decide +kernel
theorem dJ0_charAt_5068e_0 : decode cJ0_charAt_5068e 0 = .ok (.aload_n 0, 1) := by decide +kernel
theorem dJ0_charAt_5068e_1 : decode cJ0_charAt_5068e 1 = .ok (.invokevirtual 492, 3) := by decide +kernel
theorem dJ0_charAt_5068e_4 : decode cJ0_charAt_5068e 4 = .ok (.ifCond .eq 12, 3) := by decide +kernel
theorem dJ0_charAt_5068e_7 : decode cJ0_charAt_5068e 7 = .ok (.aload_n 0, 1) := by decide +kernel
theorem dJ0_charAt_5068e_8 : decode cJ0_charAt_5068e 8 = .ok (.getfield 9, 3) := by decide +kernel
theorem dJ0_charAt_5068e_11 : decode cJ0_charAt_5068e 11 = .ok (.iload_n 1, 1) := by decide +kernel
theorem dJ0_charAt_5068e_12 : decode cJ0_charAt_5068e 12 = .ok (.invokestatic 495, 3) := by decide +kernel
theorem dJ0_charAt_5068e_15 : decode cJ0_charAt_5068e 15 = .ok (.ireturn, 1) := by decide +kernel
theorem dJ0_charAt_5068e_16 : decode cJ0_charAt_5068e 16 = .ok (.aload_n 0, 1) := by decide +kernel
theorem dJ0_charAt_5068e_17 : decode cJ0_charAt_5068e 17 = .ok (.getfield 9, 3) := by decide +kernel
theorem dJ0_charAt_5068e_20 : decode cJ0_charAt_5068e 20 = .ok (.iload_n 1, 1) := by decide +kernel
theorem dJ0_charAt_5068e_21 : decode cJ0_charAt_5068e 21 = .ok (.invokestatic 498, 3) := by decide +kernel
theorem dJ0_charAt_5068e_24 : decode cJ0_charAt_5068e 24 = .ok (.ireturn, 1) := by decide +kernel
theorem dJ0_coder_7d493_0 : decode cJ0_coder_7d493 0 = .ok (.getstatic 38, 3) := by decide +kernel

theorem dX12_script_32 : decode cX12_script 32 = .ok (.laload, 1) := by decide +kernel
theorem dX12_script_33 : decode cX12_script 33 = .ok (.lconst 0, 1) := by decide +kernel
theorem dX12_script_34 : decode cX12_script 34 = .ok (.lcmp, 1) := by decide +kernel
theorem dX12_script_35 : decode cX12_script 35 = .ok (.ifCond .ne 7, 3) := by decide +kernel
theorem dX12_script_38 : decode cX12_script 38 = .ok (.iconst 1, 1) := by decide +kernel
theorem dX12_script_39 : decode cX12_script 39 = .ok (.goto 4, 3) := by decide +kernel
theorem dX12_script_42 : decode cX12_script 42 = .ok (.iconst 0, 1) := by decide +kernel
theorem dX12_script_43 : decode cX12_script 43 = .ok (.istore_n 3, 1) := by decide +kernel
theorem dX12_script_44 : decode cX12_script 44 = .ok (.iload_n 3, 1) := by decide +kernel
theorem dX12_script_45 : decode cX12_script 45 = .ok (.ifCond .eq 14, 3) := by decide +kernel
theorem dX12_script_48 : decode cX12_script 48 = .ok (.aload_n 0, 1) := by decide +kernel
theorem dX12_script_49 : decode cX12_script 49 = .ok (.iload_n 1, 1) := by decide +kernel
theorem dX12_script_50 : decode cX12_script 50 = .ok (.invokevirtual 145, 3) := by decide +kernel
theorem dX12_script_53 : decode cX12_script 53 = .ok (.ifCond .eq 26, 3) := by decide +kernel
theorem dX12_script_56 : decode cX12_script 56 = .ok (.goto 16, 3) := by decide +kernel
theorem dX12_script_59 : decode cX12_script 59 = .ok (.aload_n 0, 1) := by decide +kernel
theorem dX12_script_60 : decode cX12_script 60 = .ok (.getfield 16, 3) := by decide +kernel
theorem dX12_script_63 : decode cX12_script 63 = .ok (.iload_n 2, 1) := by decide +kernel
theorem dX12_script_64 : decode cX12_script 64 = .ok (.iconst 2, 1) := by decide +kernel
theorem dX12_script_65 : decode cX12_script 65 = .ok (.iadd, 1) := by decide +kernel
theorem dX12_script_66 : decode cX12_script 66 = .ok (.laload, 1) := by decide +kernel
theorem dX12_script_67 : decode cX12_script 67 = .ok (.lconst 1, 1) := by decide +kernel
theorem dX12_script_68 : decode cX12_script 68 = .ok (.lcmp, 1) := by decide +kernel
theorem dX12_script_69 : decode cX12_script 69 = .ok (.ifCond .eq 10, 3) := by decide +kernel
theorem dX12_script_72 : decode cX12_script 72 = .ok (.aload_n 0, 1) := by decide +kernel
theorem dX12_script_73 : decode cX12_script 73 = .ok (.bipush (-4), 2) := by decide +kernel
theorem dX12_script_75 : decode cX12_script 75 = .ok (.invokevirtual 76, 3) := by decide +kernel
theorem dX12_script_78 : decode cX12_script 78 = .ok (.ireturn, 1) := by decide +kernel
theorem dX12_script_79 : decode cX12_script 79 = .ok (.iload_n 3, 1) := by decide +kernel
theorem dX12_script_80 : decode cX12_script 80 = .ok (.ifCond .eq 18, 3) := by decide +kernel
theorem dX12_script_83 : decode cX12_script 83 = .ok (.aload_n 0, 1) := by decide +kernel
theorem dX12_script_84 : decode cX12_script 84 = .ok (.iload_n 1, 1) := by decide +kernel
theorem dX12_script_85 : decode cX12_script 85 = .ok (.invokevirtual 148, 3) := by decide +kernel
theorem dX12_script_88 : decode cX12_script 88 = .ok (.ifCond .ne 10, 3) := by decide +kernel
theorem dX12_script_91 : decode cX12_script 91 = .ok (.aload_n 0, 1) := by decide +kernel
theorem dX12_script_92 : decode cX12_script 92 = .ok (.bipush (-5), 2) := by decide +kernel
theorem dX12_script_94 : decode cX12_script 94 = .ok (.invokevirtual 76, 3) := by decide +kernel
theorem dX12_script_97 : decode cX12_script 97 = .ok (.ireturn, 1) := by decide +kernel
theorem dX12_script_98 : decode cX12_script 98 = .ok (.aload_n 0, 1) := by decide +kernel
theorem dX12_script_99 : decode cX12_script 99 = .ok (.invokevirtual 220, 3) := by decide +kernel
theorem dX12_script_102 : decode cX12_script 102 = .ok (.aload_n 0, 1) := by decide +kernel
theorem dX12_script_103 : decode cX12_script 103 = .ok (.iconst 0, 1) := by decide +kernel
theorem dX12_script_104 : decode cX12_script 104 = .ok (.putfield 128, 3) := by decide +kernel
theorem dX12_script_107 : decode cX12_script 107 = .ok (.aload_n 0, 1) := by decide +kernel
theorem dX12_script_108 : decode cX12_script 108 = .ok (.getfield 201, 3) := by decide +kernel
theorem dX12_script_111 : decode cX12_script 111 = .ok (.ifCond .eq 10, 3) := by decide +kernel
theorem dX12_script_114 : decode cX12_script 114 = .ok (.aload_n 0, 1) := by decide +kernel
theorem dX12_script_115 : decode cX12_script 115 = .ok (.bipush (-6), 2) := by decide +kernel
theorem dX12_script_117 : decode cX12_script 117 = .ok (.invokevirtual 76, 3) := by decide +kernel
theorem dX12_script_120 : decode cX12_script 120 = .ok (.ireturn, 1) := by decide +kernel
theorem dX12_script_121 : decode cX12_script 121 = .ok (.aload_n 0, 1) := by decide +kernel
theorem dX12_script_122 : decode cX12_script 122 = .ok (.iconst 5, 1) := by decide +kernel
theorem dX12_script_123 : decode cX12_script 123 = .ok (.invokevirtual 139, 3) := by decide +kernel
theorem dX12_script_126 : decode cX12_script 126 = .ok (.iconst 0, 1) := by decide +kernel
theorem dX12_script_127 : decode cX12_script 127 = .ok (.istore 4, 2) := by decide +kernel
theorem dX12_script_129 : decode cX12_script 129 = .ok (.iload 4, 2) := by decide +kernel
theorem dX12_script_131 : decode cX12_script 131 = .ok (.bipush 8, 2) := by decide +kernel
theorem dX12_script_133 : decode cX12_script 133 = .ok (.if_icmp .ge 69, 3) := by decide +kernel
theorem dX12_script_136 : decode cX12_script 136 = .ok (.aload_n 0, 1) := by decide +kernel
theorem dX12_script_137 : decode cX12_script 137 = .ok (.getfield 16, 3) := by decide +kernel
theorem dX12_script_140 : decode cX12_script 140 = .ok (.iload_n 2, 1) := by decide +kernel
theorem dX12_script_141 : decode cX12_script 141 = .ok (.bipush 16, 2) := by decide +kernel
theorem dX12_script_143 : decode cX12_script 143 = .ok (.iadd, 1) := by decide +kernel
theorem dX12_script_144 : decode cX12_script 144 = .ok (.iload 4, 2) := by decide +kernel
theorem dX12_script_146 : decode cX12_script 146 = .ok (.iadd, 1) := by decide +kernel
theorem dX12_script_147 : decode cX12_script 147 = .ok (.aload_n 0, 1) := by decide +kernel
theorem dX12_script_148 : decode cX12_script 148 = .ok (.getfield 59, 3) := by decide +kernel
theorem dX12_script_151 : decode cX12_script 151 = .ok (.iload 4, 2) := by decide +kernel
theorem dX12_script_153 : decode cX12_script 153 = .ok (.iaload, 1) := by decide +kernel
theorem dX12_script_154 : decode cX12_script 154 = .ok (.i2l, 1) := by decide +kernel
theorem dX12_script_155 : decode cX12_script 155 = .ok (.lastore, 1) := by decide +kernel
theorem dX12_script_156 : decode cX12_script 156 = .ok (.aload_n 0, 1) := by decide +kernel
theorem dX12_script_157 : decode cX12_script 157 = .ok (.getfield 16, 3) := by decide +kernel
theorem dX12_script_160 : decode cX12_script 160 = .ok (.iload_n 2, 1) := by decide +kernel
theorem dX12_script_161 : decode cX12_script 161 = .ok (.bipush 24, 2) := by decide +kernel
theorem dX12_script_163 : decode cX12_script 163 = .ok (.iadd, 1) := by decide +kernel
theorem dX12_script_164 : decode cX12_script 164 = .ok (.iload 4, 2) := by decide +kernel
theorem dX12_script_166 : decode cX12_script 166 = .ok (.iadd, 1) := by decide +kernel
theorem dX12_script_167 : decode cX12_script 167 = .ok (.aload_n 0, 1) := by decide +kernel
theorem dX12_script_168 : decode cX12_script 168 = .ok (.getfield 62, 3) := by decide +kernel
theorem dX12_script_171 : decode cX12_script 171 = .ok (.iload 4, 2) := by decide +kernel
theorem dX12_script_173 : decode cX12_script 173 = .ok (.iaload, 1) := by decide +kernel
theorem dX12_script_174 : decode cX12_script 174 = .ok (.i2l, 1) := by decide +kernel
theorem dX12_script_175 : decode cX12_script 175 = .ok (.lastore, 1) := by decide +kernel
theorem dX12_script_176 : decode cX12_script 176 = .ok (.aload_n 0, 1) := by decide +kernel
theorem dX12_script_177 : decode cX12_script 177 = .ok (.getfield 16, 3) := by decide +kernel
theorem dX12_script_180 : decode cX12_script 180 = .ok (.iload_n 2, 1) := by decide +kernel
theorem dX12_script_181 : decode cX12_script 181 = .ok (.bipush 32, 2) := by decide +kernel
theorem dX12_script_183 : decode cX12_script 183 = .ok (.iadd, 1) := by decide +kernel
theorem dX12_script_184 : decode cX12_script 184 = .ok (.iload 4, 2) := by decide +kernel
theorem dX12_script_186 : decode cX12_script 186 = .ok (.iadd, 1) := by decide +kernel
theorem dX12_script_187 : decode cX12_script 187 = .ok (.aload_n 0, 1) := by decide +kernel
theorem dX12_script_188 : decode cX12_script 188 = .ok (.getfield 62, 3) := by decide +kernel
theorem dX12_script_191 : decode cX12_script 191 = .ok (.iload 4, 2) := by decide +kernel
theorem dX12_script_193 : decode cX12_script 193 = .ok (.iaload, 1) := by decide +kernel
theorem dX12_script_194 : decode cX12_script 194 = .ok (.i2l, 1) := by decide +kernel
theorem dX12_script_195 : decode cX12_script 195 = .ok (.lastore, 1) := by decide +kernel
theorem dX12_script_196 : decode cX12_script 196 = .ok (.iinc 4 1, 3) := by decide +kernel
theorem dX12_script_199 : decode cX12_script 199 = .ok (.goto (-70), 3) := by decide +kernel
theorem dX12_script_202 : decode cX12_script 202 = .ok (.aload_n 0, 1) := by decide +kernel
theorem dX12_script_203 : decode cX12_script 203 = .ok (.getfield 16, 3) := by decide +kernel
theorem dX12_script_206 : decode cX12_script 206 = .ok (.iload_n 2, 1) := by decide +kernel
theorem dX12_script_207 : decode cX12_script 207 = .ok (.bipush 13, 2) := by decide +kernel
theorem dX12_script_209 : decode cX12_script 209 = .ok (.iadd, 1) := by decide +kernel
theorem dX12_script_210 : decode cX12_script 210 = .ok (.aload_n 0, 1) := by decide +kernel
theorem dX12_script_211 : decode cX12_script 211 = .ok (.getfield 208, 3) := by decide +kernel
theorem dX12_script_214 : decode cX12_script 214 = .ok (.i2l, 1) := by decide +kernel
theorem dX12_script_215 : decode cX12_script 215 = .ok (.lastore, 1) := by decide +kernel
theorem dX12_script_216 : decode cX12_script 216 = .ok (.iload_n 3, 1) := by decide +kernel
theorem dX12_script_217 : decode cX12_script 217 = .ok (.ifCond .eq 8, 3) := by decide +kernel
theorem dX12_script_220 : decode cX12_script 220 = .ok (.aload_n 0, 1) := by decide +kernel
theorem dX12_script_221 : decode cX12_script 221 = .ok (.iload_n 1, 1) := by decide +kernel
theorem dX12_script_222 : decode cX12_script 222 = .ok (.invokevirtual 151, 3) := by decide +kernel
theorem dX12_script_225 : decode cX12_script 225 = .ok (.aload_n 0, 1) := by decide +kernel
theorem dX12_script_226 : decode cX12_script 226 = .ok (.iload_n 1, 1) := by decide +kernel
theorem dX12_script_227 : decode cX12_script 227 = .ok (.iconst 0, 1) := by decide +kernel
theorem dX12_script_228 : decode cX12_script 228 = .ok (.aload_n 0, 1) := by decide +kernel
theorem dX12_script_229 : decode cX12_script 229 = .ok (.getfield 16, 3) := by decide +kernel
theorem dX12_script_232 : decode cX12_script 232 = .ok (.iconst 1, 1) := by decide +kernel
theorem dX12_script_233 : decode cX12_script 233 = .ok (.laload, 1) := by decide +kernel
theorem dX12_script_234 : decode cX12_script 234 = .ok (.invokevirtual 223, 3) := by decide +kernel
theorem dX12_script_237 : decode cX12_script 237 = .ok (.aload_n 0, 1) := by decide +kernel
theorem dX12_script_238 : decode cX12_script 238 = .ok (.aload_n 0, 1) := by decide +kernel
theorem dX12_script_239 : decode cX12_script 239 = .ok (.getfield 208, 3) := by decide +kernel
theorem dX12_script_242 : decode cX12_script 242 = .ok (.invokevirtual 80, 3) := by decide +kernel
theorem dX12_script_245 : decode cX12_script 245 = .ok (.ireturn, 1) := by decide +kernel
theorem dX12_firstOf_0 : decode cX12_firstOf 0 = .ok (.iload_n 2, 1) := by decide +kernel
theorem dX12_firstOf_1 : decode cX12_firstOf 1 = .ok (.istore_n 3, 1) := by decide +kernel
theorem dX12_firstOf_2 : decode cX12_firstOf 2 = .ok (.iload_n 3, 1) := by decide +kernel
theorem dX12_firstOf_3 : decode cX12_firstOf 3 = .ok (.ifCond .le 29, 3) := by decide +kernel
theorem dX12_firstOf_6 : decode cX12_firstOf 6 = .ok (.aload_n 0, 1) := by decide +kernel
theorem dX12_firstOf_7 : decode cX12_firstOf 7 = .ok (.getfield 16, 3) := by decide +kernel
theorem dX12_firstOf_10 : decode cX12_firstOf 10 = .ok (.iload_n 1, 1) := by decide +kernel
theorem dX12_firstOf_11 : decode cX12_firstOf 11 = .ok (.bipush 16, 2) := by decide +kernel
theorem dX12_firstOf_13 : decode cX12_firstOf 13 = .ok (.iadd, 1) := by decide +kernel
theorem dX12_firstOf_14 : decode cX12_firstOf 14 = .ok (.iload_n 3, 1) := by decide +kernel
theorem dX12_firstOf_15 : decode cX12_firstOf 15 = .ok (.iadd, 1) := by decide +kernel
theorem dX12_firstOf_16 : decode cX12_firstOf 16 = .ok (.iconst 1, 1) := by decide +kernel
theorem dX12_firstOf_17 : decode cX12_firstOf 17 = .ok (.isub, 1) := by decide +kernel
theorem dX12_firstOf_18 : decode cX12_firstOf 18 = .ok (.laload, 1) := by decide +kernel
theorem dX12_firstOf_19 : decode cX12_firstOf 19 = .ok (.ldc2_w 227, 3) := by decide +kernel
theorem dX12_firstOf_22 : decode cX12_firstOf 22 = .ok (.lcmp, 1) := by decide +kernel
theorem dX12_firstOf_23 : decode cX12_firstOf 23 = .ok (.ifCond .eq 9, 3) := by decide +kernel
theorem dX12_firstOf_26 : decode cX12_firstOf 26 = .ok (.iinc 3 (-1), 3) := by decide +kernel
theorem dX12_firstOf_29 : decode cX12_firstOf 29 = .ok (.goto (-27), 3) := by decide +kernel
theorem dX12_firstOf_32 : decode cX12_firstOf 32 = .ok (.iload_n 3, 1) := by decide +kernel
theorem dX12_firstOf_33 : decode cX12_firstOf 33 = .ok (.ireturn, 1) := by decide +kernel
theorem dX12_goOn_0 : decode cX12_goOn 0 = .ok (.iload_n 1, 1) := by decide +kernel
theorem dX12_goOn_1 : decode cX12_goOn 1 = .ok (.invokestatic 87, 3) := by decide +kernel
theorem dX12_goOn_4 : decode cX12_goOn 4 = .ok (.istore 5, 2) := by decide +kernel
theorem dX12_goOn_6 : decode cX12_goOn 6 = .ok (.iload_n 2, 1) := by decide +kernel
theorem dX12_goOn_7 : decode cX12_goOn 7 = .ok (.istore 6, 2) := by decide +kernel
theorem dX12_goOn_9 : decode cX12_goOn 9 = .ok (.iconst 1, 1) := by decide +kernel
theorem dX12_goOn_10 : decode cX12_goOn 10 = .ok (.istore 7, 2) := by decide +kernel
theorem dX12_goOn_12 : decode cX12_goOn 12 = .ok (.iload 7, 2) := by decide +kernel
theorem dX12_goOn_14 : decode cX12_goOn 14 = .ok (.ifCond .eq 254, 3) := by decide +kernel
theorem dX12_goOn_17 : decode cX12_goOn 17 = .ok (.iload 6, 2) := by decide +kernel
theorem dX12_goOn_19 : decode cX12_goOn 19 = .ok (.i2l, 1) := by decide +kernel
theorem dX12_goOn_20 : decode cX12_goOn 20 = .ok (.aload_n 0, 1) := by decide +kernel
theorem dX12_goOn_21 : decode cX12_goOn 21 = .ok (.getfield 16, 3) := by decide +kernel
theorem dX12_goOn_24 : decode cX12_goOn 24 = .ok (.iload 5, 2) := by decide +kernel
theorem dX12_goOn_26 : decode cX12_goOn 26 = .ok (.bipush 13, 2) := by decide +kernel
theorem dX12_goOn_28 : decode cX12_goOn 28 = .ok (.iadd, 1) := by decide +kernel
theorem dX12_goOn_29 : decode cX12_goOn 29 = .ok (.laload, 1) := by decide +kernel
theorem dX12_goOn_30 : decode cX12_goOn 30 = .ok (.lcmp, 1) := by decide +kernel
theorem dX12_goOn_31 : decode cX12_goOn 31 = .ok (.ifCond .ge 237, 3) := by decide +kernel
theorem dX12_goOn_34 : decode cX12_goOn 34 = .ok (.aload_n 0, 1) := by decide +kernel
theorem dX12_goOn_35 : decode cX12_goOn 35 = .ok (.getfield 16, 3) := by decide +kernel
theorem dX12_goOn_38 : decode cX12_goOn 38 = .ok (.iload 5, 2) := by decide +kernel
theorem dX12_goOn_40 : decode cX12_goOn 40 = .ok (.bipush 16, 2) := by decide +kernel
theorem dX12_goOn_42 : decode cX12_goOn 42 = .ok (.iadd, 1) := by decide +kernel
theorem dX12_goOn_43 : decode cX12_goOn 43 = .ok (.iload 6, 2) := by decide +kernel
theorem dX12_goOn_45 : decode cX12_goOn 45 = .ok (.iadd, 1) := by decide +kernel
theorem dX12_goOn_46 : decode cX12_goOn 46 = .ok (.laload, 1) := by decide +kernel
theorem dX12_goOn_47 : decode cX12_goOn 47 = .ok (.l2i, 1) := by decide +kernel
theorem dX12_goOn_48 : decode cX12_goOn 48 = .ok (.istore 8, 2) := by decide +kernel
theorem dX12_goOn_50 : decode cX12_goOn 50 = .ok (.aload_n 0, 1) := by decide +kernel
theorem dX12_goOn_51 : decode cX12_goOn 51 = .ok (.getfield 16, 3) := by decide +kernel
theorem dX12_goOn_54 : decode cX12_goOn 54 = .ok (.iload 5, 2) := by decide +kernel
theorem dX12_goOn_56 : decode cX12_goOn 56 = .ok (.bipush 24, 2) := by decide +kernel
theorem dX12_goOn_58 : decode cX12_goOn 58 = .ok (.iadd, 1) := by decide +kernel
theorem dX12_goOn_59 : decode cX12_goOn 59 = .ok (.iload 6, 2) := by decide +kernel
theorem dX12_goOn_61 : decode cX12_goOn 61 = .ok (.iadd, 1) := by decide +kernel
theorem dX12_goOn_62 : decode cX12_goOn 62 = .ok (.laload, 1) := by decide +kernel
theorem dX12_goOn_63 : decode cX12_goOn 63 = .ok (.lstore 9, 2) := by decide +kernel
theorem dX12_goOn_65 : decode cX12_goOn 65 = .ok (.aload_n 0, 1) := by decide +kernel
theorem dX12_goOn_66 : decode cX12_goOn 66 = .ok (.getfield 16, 3) := by decide +kernel
theorem dX12_goOn_69 : decode cX12_goOn 69 = .ok (.iload 5, 2) := by decide +kernel
theorem dX12_goOn_71 : decode cX12_goOn 71 = .ok (.bipush 14, 2) := by decide +kernel
theorem dX12_goOn_73 : decode cX12_goOn 73 = .ok (.iadd, 1) := by decide +kernel
theorem dX12_goOn_74 : decode cX12_goOn 74 = .ok (.iload 6, 2) := by decide +kernel
theorem dX12_goOn_76 : decode cX12_goOn 76 = .ok (.i2l, 1) := by decide +kernel
theorem dX12_goOn_77 : decode cX12_goOn 77 = .ok (.lastore, 1) := by decide +kernel
theorem dX12_goOn_78 : decode cX12_goOn 78 = .ok (.iload 8, 2) := by decide +kernel
theorem dX12_goOn_80 : decode cX12_goOn 80 = .ok (.ifCond .ne 21, 3) := by decide +kernel
theorem dX12_goOn_83 : decode cX12_goOn 83 = .ok (.aload_n 0, 1) := by decide +kernel
theorem dX12_goOn_84 : decode cX12_goOn 84 = .ok (.getfield 16, 3) := by decide +kernel
theorem dX12_goOn_87 : decode cX12_goOn 87 = .ok (.iload 5, 2) := by decide +kernel
theorem dX12_goOn_89 : decode cX12_goOn 89 = .ok (.bipush 15, 2) := by decide +kernel
theorem dX12_goOn_91 : decode cX12_goOn 91 = .ok (.iadd, 1) := by decide +kernel
theorem dX12_goOn_92 : decode cX12_goOn 92 = .ok (.lload 9, 2) := by decide +kernel
theorem dX12_goOn_94 : decode cX12_goOn 94 = .ok (.lastore, 1) := by decide +kernel
theorem dX12_goOn_95 : decode cX12_goOn 95 = .ok (.iconst 0, 1) := by decide +kernel
theorem dX12_goOn_96 : decode cX12_goOn 96 = .ok (.istore 7, 2) := by decide +kernel
theorem dX12_goOn_98 : decode cX12_goOn 98 = .ok (.goto 167, 3) := by decide +kernel
theorem dX12_goOn_101 : decode cX12_goOn 101 = .ok (.iload 8, 2) := by decide +kernel
theorem dX12_goOn_103 : decode cX12_goOn 103 = .ok (.iconst 1, 1) := by decide +kernel
theorem dX12_goOn_104 : decode cX12_goOn 104 = .ok (.if_icmp .ne 40, 3) := by decide +kernel
theorem dX12_goOn_107 : decode cX12_goOn 107 = .ok (.aload_n 0, 1) := by decide +kernel
theorem dX12_goOn_108 : decode cX12_goOn 108 = .ok (.iload_n 1, 1) := by decide +kernel
theorem dX12_goOn_109 : decode cX12_goOn 109 = .ok (.invokevirtual 154, 3) := by decide +kernel
theorem dX12_goOn_112 : decode cX12_goOn 112 = .ok (.aload_n 0, 1) := by decide +kernel
theorem dX12_goOn_113 : decode cX12_goOn 113 = .ok (.getfield 16, 3) := by decide +kernel
theorem dX12_goOn_116 : decode cX12_goOn 116 = .ok (.iload 5, 2) := by decide +kernel
theorem dX12_goOn_118 : decode cX12_goOn 118 = .ok (.iconst 2, 1) := by decide +kernel
theorem dX12_goOn_119 : decode cX12_goOn 119 = .ok (.iadd, 1) := by decide +kernel
theorem dX12_goOn_120 : decode cX12_goOn 120 = .ok (.ldc2_w 122, 3) := by decide +kernel
theorem dX12_goOn_123 : decode cX12_goOn 123 = .ok (.lastore, 1) := by decide +kernel
theorem dX12_goOn_124 : decode cX12_goOn 124 = .ok (.aload_n 0, 1) := by decide +kernel
theorem dX12_goOn_125 : decode cX12_goOn 125 = .ok (.getfield 16, 3) := by decide +kernel
theorem dX12_goOn_128 : decode cX12_goOn 128 = .ok (.iload 5, 2) := by decide +kernel
theorem dX12_goOn_130 : decode cX12_goOn 130 = .ok (.bipush 9, 2) := by decide +kernel
theorem dX12_goOn_132 : decode cX12_goOn 132 = .ok (.iadd, 1) := by decide +kernel
theorem dX12_goOn_133 : decode cX12_goOn 133 = .ok (.lload_n 3, 1) := by decide +kernel
theorem dX12_goOn_134 : decode cX12_goOn 134 = .ok (.lload 9, 2) := by decide +kernel
theorem dX12_goOn_136 : decode cX12_goOn 136 = .ok (.ladd, 1) := by decide +kernel
theorem dX12_goOn_137 : decode cX12_goOn 137 = .ok (.lastore, 1) := by decide +kernel
theorem dX12_goOn_138 : decode cX12_goOn 138 = .ok (.iconst 0, 1) := by decide +kernel
theorem dX12_goOn_139 : decode cX12_goOn 139 = .ok (.istore 7, 2) := by decide +kernel
theorem dX12_goOn_141 : decode cX12_goOn 141 = .ok (.goto 124, 3) := by decide +kernel
theorem dX12_goOn_144 : decode cX12_goOn 144 = .ok (.iload 8, 2) := by decide +kernel
theorem dX12_goOn_146 : decode cX12_goOn 146 = .ok (.iconst 4, 1) := by decide +kernel
theorem dX12_goOn_147 : decode cX12_goOn 147 = .ok (.if_icmp .ne 91, 3) := by decide +kernel
theorem dX12_goOn_150 : decode cX12_goOn 150 = .ok (.aload_n 0, 1) := by decide +kernel
theorem dX12_goOn_151 : decode cX12_goOn 151 = .ok (.getfield 16, 3) := by decide +kernel
theorem dX12_goOn_154 : decode cX12_goOn 154 = .ok (.iload 5, 2) := by decide +kernel
theorem dX12_goOn_156 : decode cX12_goOn 156 = .ok (.bipush 32, 2) := by decide +kernel
theorem dX12_goOn_158 : decode cX12_goOn 158 = .ok (.iadd, 1) := by decide +kernel
theorem dX12_goOn_159 : decode cX12_goOn 159 = .ok (.iload 6, 2) := by decide +kernel
theorem dX12_goOn_161 : decode cX12_goOn 161 = .ok (.iadd, 1) := by decide +kernel
theorem dX12_goOn_162 : decode cX12_goOn 162 = .ok (.laload, 1) := by decide +kernel
theorem dX12_goOn_163 : decode cX12_goOn 163 = .ok (.lconst 0, 1) := by decide +kernel
theorem dX12_goOn_164 : decode cX12_goOn 164 = .ok (.lcmp, 1) := by decide +kernel
theorem dX12_goOn_165 : decode cX12_goOn 165 = .ok (.ifCond .le 7, 3) := by decide +kernel
theorem dX12_goOn_168 : decode cX12_goOn 168 = .ok (.iconst 1, 1) := by decide +kernel
theorem dX12_goOn_169 : decode cX12_goOn 169 = .ok (.goto 4, 3) := by decide +kernel
theorem dX12_goOn_172 : decode cX12_goOn 172 = .ok (.iconst 0, 1) := by decide +kernel
theorem dX12_goOn_173 : decode cX12_goOn 173 = .ok (.istore 11, 2) := by decide +kernel
theorem dX12_goOn_175 : decode cX12_goOn 175 = .ok (.aload_n 0, 1) := by decide +kernel
theorem dX12_goOn_176 : decode cX12_goOn 176 = .ok (.getfield 16, 3) := by decide +kernel
theorem dX12_goOn_179 : decode cX12_goOn 179 = .ok (.iload 5, 2) := by decide +kernel
theorem dX12_goOn_181 : decode cX12_goOn 181 = .ok (.bipush 32, 2) := by decide +kernel
theorem dX12_goOn_183 : decode cX12_goOn 183 = .ok (.iadd, 1) := by decide +kernel
theorem dX12_goOn_184 : decode cX12_goOn 184 = .ok (.iload 6, 2) := by decide +kernel
theorem dX12_goOn_186 : decode cX12_goOn 186 = .ok (.iadd, 1) := by decide +kernel
theorem dX12_goOn_187 : decode cX12_goOn 187 = .ok (.iload 11, 2) := by decide +kernel
theorem dX12_goOn_189 : decode cX12_goOn 189 = .ok (.ifCond .eq 21, 3) := by decide +kernel
theorem dX12_goOn_192 : decode cX12_goOn 192 = .ok (.aload_n 0, 1) := by decide +kernel
theorem dX12_goOn_193 : decode cX12_goOn 193 = .ok (.getfield 16, 3) := by decide +kernel
theorem dX12_goOn_196 : decode cX12_goOn 196 = .ok (.iload 5, 2) := by decide +kernel
theorem dX12_goOn_198 : decode cX12_goOn 198 = .ok (.bipush 32, 2) := by decide +kernel
theorem dX12_goOn_200 : decode cX12_goOn 200 = .ok (.iadd, 1) := by decide +kernel
theorem dX12_goOn_201 : decode cX12_goOn 201 = .ok (.iload 6, 2) := by decide +kernel
theorem dX12_goOn_203 : decode cX12_goOn 203 = .ok (.iadd, 1) := by decide +kernel
theorem dX12_goOn_204 : decode cX12_goOn 204 = .ok (.laload, 1) := by decide +kernel
theorem dX12_goOn_205 : decode cX12_goOn 205 = .ok (.lconst 1, 1) := by decide +kernel
theorem dX12_goOn_206 : decode cX12_goOn 206 = .ok (.lsub, 1) := by decide +kernel
theorem dX12_goOn_207 : decode cX12_goOn 207 = .ok (.goto 5, 3) := by decide +kernel
theorem dX12_goOn_210 : decode cX12_goOn 210 = .ok (.lload 9, 2) := by decide +kernel
theorem dX12_goOn_212 : decode cX12_goOn 212 = .ok (.lastore, 1) := by decide +kernel
theorem dX12_goOn_213 : decode cX12_goOn 213 = .ok (.iload 11, 2) := by decide +kernel
theorem dX12_goOn_215 : decode cX12_goOn 215 = .ok (.ifCond .eq 14, 3) := by decide +kernel
theorem dX12_goOn_218 : decode cX12_goOn 218 = .ok (.aload_n 0, 1) := by decide +kernel
theorem dX12_goOn_219 : decode cX12_goOn 219 = .ok (.iload 5, 2) := by decide +kernel
theorem dX12_goOn_221 : decode cX12_goOn 221 = .ok (.iload 6, 2) := by decide +kernel
theorem dX12_goOn_223 : decode cX12_goOn 223 = .ok (.invokevirtual 229, 3) := by decide +kernel
theorem dX12_goOn_226 : decode cX12_goOn 226 = .ok (.goto 7, 3) := by decide +kernel
theorem dX12_goOn_229 : decode cX12_goOn 229 = .ok (.iload 6, 2) := by decide +kernel
theorem dX12_goOn_231 : decode cX12_goOn 231 = .ok (.iconst 1, 1) := by decide +kernel
theorem dX12_goOn_232 : decode cX12_goOn 232 = .ok (.iadd, 1) := by decide +kernel
theorem dX12_goOn_233 : decode cX12_goOn 233 = .ok (.istore 6, 2) := by decide +kernel
theorem dX12_goOn_235 : decode cX12_goOn 235 = .ok (.goto 30, 3) := by decide +kernel
theorem dX12_goOn_238 : decode cX12_goOn 238 = .ok (.iload 8, 2) := by decide +kernel
theorem dX12_goOn_240 : decode cX12_goOn 240 = .ok (.iconst 2, 1) := by decide +kernel
theorem dX12_goOn_241 : decode cX12_goOn 241 = .ok (.if_icmp .ne 14, 3) := by decide +kernel
theorem dX12_goOn_244 : decode cX12_goOn 244 = .ok (.aload_n 0, 1) := by decide +kernel
theorem dX12_goOn_245 : decode cX12_goOn 245 = .ok (.iload_n 1, 1) := by decide +kernel
theorem dX12_goOn_246 : decode cX12_goOn 246 = .ok (.lload 9, 2) := by decide +kernel
theorem dX12_goOn_248 : decode cX12_goOn 248 = .ok (.invokevirtual 157, 3) := by decide +kernel
theorem dX12_goOn_251 : decode cX12_goOn 251 = .ok (.pop, 1) := by decide +kernel
theorem dX12_goOn_252 : decode cX12_goOn 252 = .ok (.goto 10, 3) := by decide +kernel
theorem dX12_goOn_255 : decode cX12_goOn 255 = .ok (.aload_n 0, 1) := by decide +kernel
theorem dX12_goOn_256 : decode cX12_goOn 256 = .ok (.iload_n 1, 1) := by decide +kernel
theorem dX12_goOn_257 : decode cX12_goOn 257 = .ok (.lload 9, 2) := by decide +kernel
theorem dX12_goOn_259 : decode cX12_goOn 259 = .ok (.invokevirtual 161, 3) := by decide +kernel
theorem dX12_goOn_262 : decode cX12_goOn 262 = .ok (.iinc 6 1, 3) := by decide +kernel
theorem dX12_goOn_265 : decode cX12_goOn 265 = .ok (.goto (-253), 3) := by decide +kernel
theorem dX12_goOn_268 : decode cX12_goOn 268 = .ok (.iload 7, 2) := by decide +kernel
theorem dX12_goOn_270 : decode cX12_goOn 270 = .ok (.ifCond .eq 19, 3) := by decide +kernel
theorem dX12_goOn_273 : decode cX12_goOn 273 = .ok (.aload_n 0, 1) := by decide +kernel
theorem dX12_goOn_274 : decode cX12_goOn 274 = .ok (.iload_n 1, 1) := by decide +kernel
theorem dX12_goOn_275 : decode cX12_goOn 275 = .ok (.invokevirtual 154, 3) := by decide +kernel
theorem dX12_goOn_278 : decode cX12_goOn 278 = .ok (.aload_n 0, 1) := by decide +kernel
theorem dX12_goOn_279 : decode cX12_goOn 279 = .ok (.getfield 16, 3) := by decide +kernel
theorem dX12_goOn_282 : decode cX12_goOn 282 = .ok (.iload 5, 2) := by decide +kernel
theorem dX12_goOn_284 : decode cX12_goOn 284 = .ok (.bipush 13, 2) := by decide +kernel
theorem dX12_goOn_286 : decode cX12_goOn 286 = .ok (.iadd, 1) := by decide +kernel
theorem dX12_goOn_287 : decode cX12_goOn 287 = .ok (.lconst 0, 1) := by decide +kernel
theorem dX12_goOn_288 : decode cX12_goOn 288 = .ok (.lastore, 1) := by decide +kernel
theorem dX12_goOn_289 : decode cX12_goOn 289 = .ok (.return_, 1) := by decide +kernel
theorem dX12_put_0 : decode cX12_put 0 = .ok (.aload_n 0, 1) := by decide +kernel
theorem dX12_put_1 : decode cX12_put 1 = .ok (.getfield 36, 3) := by decide +kernel
theorem dX12_put_4 : decode cX12_put 4 = .ok (.aload_n 0, 1) := by decide +kernel
theorem dX12_put_5 : decode cX12_put 5 = .ok (.getfield 128, 3) := by decide +kernel
theorem dX12_put_8 : decode cX12_put 8 = .ok (.iload_n 1, 1) := by decide +kernel
theorem dX12_put_9 : decode cX12_put 9 = .ok (.iastore, 1) := by decide +kernel
theorem dX12_put_10 : decode cX12_put 10 = .ok (.aload_n 0, 1) := by decide +kernel
theorem dX12_put_11 : decode cX12_put 11 = .ok (.dup, 1) := by decide +kernel
theorem dX12_put_12 : decode cX12_put 12 = .ok (.getfield 128, 3) := by decide +kernel
theorem dX12_put_15 : decode cX12_put 15 = .ok (.iconst 1, 1) := by decide +kernel
theorem dX12_put_16 : decode cX12_put 16 = .ok (.iadd, 1) := by decide +kernel
theorem dX12_put_17 : decode cX12_put 17 = .ok (.putfield 128, 3) := by decide +kernel
theorem dX12_put_20 : decode cX12_put 20 = .ok (.return_, 1) := by decide +kernel
theorem dX12_putWord_0 : decode cX12_putWord 0 = .ok (.bipush 20, 2) := by decide +kernel
theorem dX12_putWord_2 : decode cX12_putWord 2 = .ok (.istore_n 3, 1) := by decide +kernel
theorem dX12_putWord_3 : decode cX12_putWord 3 = .ok (.lload_n 1, 1) := by decide +kernel
theorem dX12_putWord_4 : decode cX12_putWord 4 = .ok (.iload_n 3, 1) := by decide +kernel
theorem dX12_putWord_5 : decode cX12_putWord 5 = .ok (.lshr, 1) := by decide +kernel
theorem dX12_putWord_6 : decode cX12_putWord 6 = .ok (.lconst 0, 1) := by decide +kernel
theorem dX12_putWord_7 : decode cX12_putWord 7 = .ok (.lcmp, 1) := by decide +kernel
theorem dX12_putWord_8 : decode cX12_putWord 8 = .ok (.ifCond .ne 9, 3) := by decide +kernel
theorem dX12_putWord_11 : decode cX12_putWord 11 = .ok (.iinc 3 (-5), 3) := by decide +kernel
theorem dX12_putWord_14 : decode cX12_putWord 14 = .ok (.goto (-11), 3) := by decide +kernel
theorem dX12_putWord_17 : decode cX12_putWord 17 = .ok (.iload_n 3, 1) := by decide +kernel
theorem dX12_putWord_18 : decode cX12_putWord 18 = .ok (.istore 4, 2) := by decide +kernel
theorem dX12_putWord_20 : decode cX12_putWord 20 = .ok (.iload 4, 2) := by decide +kernel
theorem dX12_putWord_22 : decode cX12_putWord 22 = .ok (.ifCond .lt 25, 3) := by decide +kernel
theorem dX12_putWord_25 : decode cX12_putWord 25 = .ok (.aload_n 0, 1) := by decide +kernel
theorem dX12_putWord_26 : decode cX12_putWord 26 = .ok (.bipush 96, 2) := by decide +kernel
theorem dX12_putWord_28 : decode cX12_putWord 28 = .ok (.lload_n 1, 1) := by decide +kernel
theorem dX12_putWord_29 : decode cX12_putWord 29 = .ok (.iload 4, 2) := by decide +kernel
theorem dX12_putWord_31 : decode cX12_putWord 31 = .ok (.lshr, 1) := by decide +kernel
theorem dX12_putWord_32 : decode cX12_putWord 32 = .ok (.ldc2_w 233, 3) := by decide +kernel
theorem dX12_putWord_35 : decode cX12_putWord 35 = .ok (.land, 1) := by decide +kernel
theorem dX12_putWord_36 : decode cX12_putWord 36 = .ok (.l2i, 1) := by decide +kernel
theorem dX12_putWord_37 : decode cX12_putWord 37 = .ok (.iadd, 1) := by decide +kernel
theorem dX12_putWord_38 : decode cX12_putWord 38 = .ok (.invokevirtual 235, 3) := by decide +kernel
theorem dX12_putWord_41 : decode cX12_putWord 41 = .ok (.iinc 4 (-5), 3) := by decide +kernel
theorem dX12_putWord_44 : decode cX12_putWord 44 = .ok (.goto (-24), 3) := by decide +kernel
theorem dX12_putWord_47 : decode cX12_putWord 47 = .ok (.return_, 1) := by decide +kernel
theorem dX12_listing_0 : decode cX12_listing 0 = .ok (.aload_n 0, 1) := by decide +kernel
theorem dX12_listing_1 : decode cX12_listing 1 = .ok (.iconst 0, 1) := by decide +kernel
theorem dX12_listing_2 : decode cX12_listing 2 = .ok (.putfield 67, 3) := by decide +kernel
theorem dX12_listing_5 : decode cX12_listing 5 = .ok (.aload_n 0, 1) := by decide +kernel
theorem dX12_listing_6 : decode cX12_listing 6 = .ok (.iload_n 1, 1) := by decide +kernel
theorem dX12_listing_7 : decode cX12_listing 7 = .ok (.invokevirtual 142, 3) := by decide +kernel
theorem dX12_listing_10 : decode cX12_listing 10 = .ok (.ifCond .ne 10, 3) := by decide +kernel
theorem dX12_listing_13 : decode cX12_listing 13 = .ok (.aload_n 0, 1) := by decide +kernel
theorem dX12_listing_14 : decode cX12_listing 14 = .ok (.bipush (-2), 2) := by decide +kernel
theorem dX12_listing_16 : decode cX12_listing 16 = .ok (.invokevirtual 76, 3) := by decide +kernel
theorem dX12_listing_19 : decode cX12_listing 19 = .ok (.ireturn, 1) := by decide +kernel
theorem dX12_listing_20 : decode cX12_listing 20 = .ok (.iload_n 1, 1) := by decide +kernel
theorem dX12_listing_21 : decode cX12_listing 21 = .ok (.invokestatic 87, 3) := by decide +kernel
theorem dX12_listing_24 : decode cX12_listing 24 = .ok (.istore_n 2, 1) := by decide +kernel
theorem dX12_listing_25 : decode cX12_listing 25 = .ok (.aload_n 0, 1) := by decide +kernel
theorem dX12_listing_26 : decode cX12_listing 26 = .ok (.getfield 16, 3) := by decide +kernel
theorem dX12_listing_29 : decode cX12_listing 29 = .ok (.iload_n 2, 1) := by decide +kernel
theorem dX12_listing_30 : decode cX12_listing 30 = .ok (.bipush 13, 2) := by decide +kernel
theorem dX12_listing_32 : decode cX12_listing 32 = .ok (.iadd, 1) := by decide +kernel
theorem dX12_listing_33 : decode cX12_listing 33 = .ok (.laload, 1) := by decide +kernel
theorem dX12_listing_34 : decode cX12_listing 34 = .ok (.lconst 0, 1) := by decide +kernel
theorem dX12_listing_35 : decode cX12_listing 35 = .ok (.lcmp, 1) := by decide +kernel
theorem dX12_listing_36 : decode cX12_listing 36 = .ok (.ifCond .ne 10, 3) := by decide +kernel
theorem dX12_listing_39 : decode cX12_listing 39 = .ok (.aload_n 0, 1) := by decide +kernel
theorem dX12_listing_40 : decode cX12_listing 40 = .ok (.bipush (-4), 2) := by decide +kernel
theorem dX12_listing_42 : decode cX12_listing 42 = .ok (.invokevirtual 76, 3) := by decide +kernel
theorem dX12_listing_45 : decode cX12_listing 45 = .ok (.ireturn, 1) := by decide +kernel
theorem dX12_listing_46 : decode cX12_listing 46 = .ok (.aload_n 0, 1) := by decide +kernel
theorem dX12_listing_47 : decode cX12_listing 47 = .ok (.iconst 0, 1) := by decide +kernel
theorem dX12_listing_48 : decode cX12_listing 48 = .ok (.putfield 128, 3) := by decide +kernel
theorem dX12_listing_51 : decode cX12_listing 51 = .ok (.iconst 0, 1) := by decide +kernel
theorem dX12_listing_52 : decode cX12_listing 52 = .ok (.istore_n 3, 1) := by decide +kernel
theorem dX12_listing_53 : decode cX12_listing 53 = .ok (.iload_n 3, 1) := by decide +kernel
theorem dX12_listing_54 : decode cX12_listing 54 = .ok (.i2l, 1) := by decide +kernel
theorem dX12_listing_55 : decode cX12_listing 55 = .ok (.aload_n 0, 1) := by decide +kernel
theorem dX12_listing_56 : decode cX12_listing 56 = .ok (.getfield 16, 3) := by decide +kernel
theorem dX12_listing_59 : decode cX12_listing 59 = .ok (.iload_n 2, 1) := by decide +kernel
theorem dX12_listing_60 : decode cX12_listing 60 = .ok (.bipush 13, 2) := by decide +kernel
theorem dX12_listing_62 : decode cX12_listing 62 = .ok (.iadd, 1) := by decide +kernel
theorem dX12_listing_63 : decode cX12_listing 63 = .ok (.laload, 1) := by decide +kernel
theorem dX12_listing_64 : decode cX12_listing 64 = .ok (.lcmp, 1) := by decide +kernel
theorem dX12_listing_65 : decode cX12_listing 65 = .ok (.ifCond .ge 96, 3) := by decide +kernel
theorem dX12_listing_68 : decode cX12_listing 68 = .ok (.iload_n 3, 1) := by decide +kernel
theorem dX12_listing_69 : decode cX12_listing 69 = .ok (.ifCond .le 9, 3) := by decide +kernel
theorem dX12_listing_72 : decode cX12_listing 72 = .ok (.aload_n 0, 1) := by decide +kernel
theorem dX12_listing_73 : decode cX12_listing 73 = .ok (.bipush 44, 2) := by decide +kernel
theorem dX12_listing_75 : decode cX12_listing 75 = .ok (.invokevirtual 235, 3) := by decide +kernel
theorem dX12_listing_78 : decode cX12_listing 78 = .ok (.aload_n 0, 1) := by decide +kernel
theorem dX12_listing_79 : decode cX12_listing 79 = .ok (.aload_n 0, 1) := by decide +kernel
theorem dX12_listing_80 : decode cX12_listing 80 = .ok (.getfield 53, 3) := by decide +kernel
theorem dX12_listing_83 : decode cX12_listing 83 = .ok (.aload_n 0, 1) := by decide +kernel
theorem dX12_listing_84 : decode cX12_listing 84 = .ok (.getfield 16, 3) := by decide +kernel
theorem dX12_listing_87 : decode cX12_listing 87 = .ok (.iload_n 2, 1) := by decide +kernel
theorem dX12_listing_88 : decode cX12_listing 88 = .ok (.bipush 16, 2) := by decide +kernel
theorem dX12_listing_90 : decode cX12_listing 90 = .ok (.iadd, 1) := by decide +kernel
theorem dX12_listing_91 : decode cX12_listing 91 = .ok (.iload_n 3, 1) := by decide +kernel
theorem dX12_listing_92 : decode cX12_listing 92 = .ok (.iadd, 1) := by decide +kernel
theorem dX12_listing_93 : decode cX12_listing 93 = .ok (.laload, 1) := by decide +kernel
theorem dX12_listing_94 : decode cX12_listing 94 = .ok (.l2i, 1) := by decide +kernel
theorem dX12_listing_95 : decode cX12_listing 95 = .ok (.laload, 1) := by decide +kernel
theorem dX12_listing_96 : decode cX12_listing 96 = .ok (.invokevirtual 238, 3) := by decide +kernel
theorem dX12_listing_99 : decode cX12_listing 99 = .ok (.aload_n 0, 1) := by decide +kernel
theorem dX12_listing_100 : decode cX12_listing 100 = .ok (.bipush 32, 2) := by decide +kernel
theorem dX12_listing_102 : decode cX12_listing 102 = .ok (.invokevirtual 235, 3) := by decide +kernel
theorem dX12_listing_105 : decode cX12_listing 105 = .ok (.aload_n 0, 1) := by decide +kernel
theorem dX12_listing_106 : decode cX12_listing 106 = .ok (.getfield 16, 3) := by decide +kernel
theorem dX12_listing_109 : decode cX12_listing 109 = .ok (.iload_n 2, 1) := by decide +kernel
theorem dX12_listing_110 : decode cX12_listing 110 = .ok (.bipush 24, 2) := by decide +kernel
theorem dX12_listing_112 : decode cX12_listing 112 = .ok (.iadd, 1) := by decide +kernel
theorem dX12_listing_113 : decode cX12_listing 113 = .ok (.iload_n 3, 1) := by decide +kernel
theorem dX12_listing_114 : decode cX12_listing 114 = .ok (.iadd, 1) := by decide +kernel
theorem dX12_listing_115 : decode cX12_listing 115 = .ok (.laload, 1) := by decide +kernel
theorem dX12_listing_116 : decode cX12_listing 116 = .ok (.lstore 4, 2) := by decide +kernel
theorem dX12_listing_118 : decode cX12_listing 118 = .ok (.lload 4, 2) := by decide +kernel
theorem dX12_listing_120 : decode cX12_listing 120 = .ok (.ldc2_w 242, 3) := by decide +kernel
theorem dX12_listing_123 : decode cX12_listing 123 = .ok (.lcmp, 1) := by decide +kernel
theorem dX12_listing_124 : decode cX12_listing 124 = .ok (.ifCond .le 17, 3) := by decide +kernel
theorem dX12_listing_127 : decode cX12_listing 127 = .ok (.aload_n 0, 1) := by decide +kernel
theorem dX12_listing_128 : decode cX12_listing 128 = .ok (.bipush 48, 2) := by decide +kernel
theorem dX12_listing_130 : decode cX12_listing 130 = .ok (.lload 4, 2) := by decide +kernel
theorem dX12_listing_132 : decode cX12_listing 132 = .ok (.ldc2_w 197, 3) := by decide +kernel
theorem dX12_listing_135 : decode cX12_listing 135 = .ok (.ldiv, 1) := by decide +kernel
theorem dX12_listing_136 : decode cX12_listing 136 = .ok (.l2i, 1) := by decide +kernel
theorem dX12_listing_137 : decode cX12_listing 137 = .ok (.iadd, 1) := by decide +kernel
theorem dX12_listing_138 : decode cX12_listing 138 = .ok (.invokevirtual 235, 3) := by decide +kernel
theorem dX12_listing_141 : decode cX12_listing 141 = .ok (.aload_n 0, 1) := by decide +kernel
theorem dX12_listing_142 : decode cX12_listing 142 = .ok (.bipush 48, 2) := by decide +kernel
theorem dX12_listing_144 : decode cX12_listing 144 = .ok (.lload 4, 2) := by decide +kernel
theorem dX12_listing_146 : decode cX12_listing 146 = .ok (.ldc2_w 197, 3) := by decide +kernel
theorem dX12_listing_149 : decode cX12_listing 149 = .ok (.lrem, 1) := by decide +kernel
theorem dX12_listing_150 : decode cX12_listing 150 = .ok (.l2i, 1) := by decide +kernel
theorem dX12_listing_151 : decode cX12_listing 151 = .ok (.iadd, 1) := by decide +kernel
theorem dX12_listing_152 : decode cX12_listing 152 = .ok (.invokevirtual 235, 3) := by decide +kernel
theorem dX12_listing_155 : decode cX12_listing 155 = .ok (.iinc 3 1, 3) := by decide +kernel
theorem dX12_listing_158 : decode cX12_listing 158 = .ok (.goto (-105), 3) := by decide +kernel
theorem dX12_listing_161 : decode cX12_listing 161 = .ok (.aload_n 0, 1) := by decide +kernel
theorem dX12_listing_162 : decode cX12_listing 162 = .ok (.aload_n 0, 1) := by decide +kernel
theorem dX12_listing_163 : decode cX12_listing 163 = .ok (.getfield 128, 3) := by decide +kernel
theorem dX12_listing_166 : decode cX12_listing 166 = .ok (.invokevirtual 80, 3) := by decide +kernel
theorem dX12_listing_169 : decode cX12_listing 169 = .ok (.ireturn, 1) := by decide +kernel
theorem dX12_fault_0 : decode cX12_fault 0 = .ok (.aload_n 0, 1) := by decide +kernel
theorem dX12_fault_1 : decode cX12_fault 1 = .ok (.iconst 0, 1) := by decide +kernel
theorem dX12_fault_2 : decode cX12_fault 2 = .ok (.putfield 67, 3) := by decide +kernel
theorem dX12_fault_5 : decode cX12_fault 5 = .ok (.aload_n 0, 1) := by decide +kernel
theorem dX12_fault_6 : decode cX12_fault 6 = .ok (.getfield 39, 3) := by decide +kernel
theorem dX12_fault_9 : decode cX12_fault 9 = .ok (.ireturn, 1) := by decide +kernel
theorem dX12_wake_0 : decode cX12_wake 0 = .ok (.iload_n 1, 1) := by decide +kernel
theorem dX12_wake_1 : decode cX12_wake 1 = .ok (.invokestatic 87, 3) := by decide +kernel
theorem dX12_wake_4 : decode cX12_wake 4 = .ok (.istore_n 2, 1) := by decide +kernel
theorem dX12_wake_5 : decode cX12_wake 5 = .ok (.aload_n 0, 1) := by decide +kernel
theorem dX12_wake_6 : decode cX12_wake 6 = .ok (.iload_n 1, 1) := by decide +kernel
theorem dX12_wake_7 : decode cX12_wake 7 = .ok (.invokevirtual 148, 3) := by decide +kernel
theorem dX12_wake_10 : decode cX12_wake 10 = .ok (.ifCond .eq 42, 3) := by decide +kernel
theorem dX12_wake_13 : decode cX12_wake 13 = .ok (.aload_n 0, 1) := by decide +kernel
theorem dX12_wake_14 : decode cX12_wake 14 = .ok (.iload_n 1, 1) := by decide +kernel
theorem dX12_wake_15 : decode cX12_wake 15 = .ok (.invokevirtual 145, 3) := by decide +kernel
theorem dX12_wake_18 : decode cX12_wake 18 = .ok (.ifCond .ne 34, 3) := by decide +kernel
theorem dX12_wake_21 : decode cX12_wake 21 = .ok (.aload_n 0, 1) := by decide +kernel
theorem dX12_wake_22 : decode cX12_wake 22 = .ok (.iload_n 1, 1) := by decide +kernel
theorem dX12_wake_23 : decode cX12_wake 23 = .ok (.invokevirtual 151, 3) := by decide +kernel
theorem dX12_wake_26 : decode cX12_wake 26 = .ok (.aload_n 0, 1) := by decide +kernel
theorem dX12_wake_27 : decode cX12_wake 27 = .ok (.iload_n 1, 1) := by decide +kernel
theorem dX12_wake_28 : decode cX12_wake 28 = .ok (.aload_n 0, 1) := by decide +kernel
theorem dX12_wake_29 : decode cX12_wake 29 = .ok (.getfield 16, 3) := by decide +kernel
theorem dX12_wake_32 : decode cX12_wake 32 = .ok (.iload_n 2, 1) := by decide +kernel
theorem dX12_wake_33 : decode cX12_wake 33 = .ok (.bipush 14, 2) := by decide +kernel
theorem dX12_wake_35 : decode cX12_wake 35 = .ok (.iadd, 1) := by decide +kernel
theorem dX12_wake_36 : decode cX12_wake 36 = .ok (.laload, 1) := by decide +kernel
theorem dX12_wake_37 : decode cX12_wake 37 = .ok (.l2i, 1) := by decide +kernel
theorem dX12_wake_38 : decode cX12_wake 38 = .ok (.iconst 1, 1) := by decide +kernel
theorem dX12_wake_39 : decode cX12_wake 39 = .ok (.iadd, 1) := by decide +kernel
theorem dX12_wake_40 : decode cX12_wake 40 = .ok (.aload_n 0, 1) := by decide +kernel
theorem dX12_wake_41 : decode cX12_wake 41 = .ok (.getfield 16, 3) := by decide +kernel
theorem dX12_wake_44 : decode cX12_wake 44 = .ok (.iconst 1, 1) := by decide +kernel
theorem dX12_wake_45 : decode cX12_wake 45 = .ok (.laload, 1) := by decide +kernel
theorem dX12_wake_46 : decode cX12_wake 46 = .ok (.invokevirtual 223, 3) := by decide +kernel
theorem dX12_wake_49 : decode cX12_wake 49 = .ok (.goto 20, 3) := by decide +kernel
theorem dX12_wake_52 : decode cX12_wake 52 = .ok (.aload_n 0, 1) := by decide +kernel
theorem dX12_wake_53 : decode cX12_wake 53 = .ok (.getfield 16, 3) := by decide +kernel
theorem dX12_wake_56 : decode cX12_wake 56 = .ok (.iload_n 2, 1) := by decide +kernel
theorem dX12_wake_57 : decode cX12_wake 57 = .ok (.bipush 9, 2) := by decide +kernel
theorem dX12_wake_59 : decode cX12_wake 59 = .ok (.iadd, 1) := by decide +kernel
theorem dX12_wake_60 : decode cX12_wake 60 = .ok (.aload_n 0, 1) := by decide +kernel
theorem dX12_wake_61 : decode cX12_wake 61 = .ok (.getfield 16, 3) := by decide +kernel
theorem dX12_wake_64 : decode cX12_wake 64 = .ok (.iconst 1, 1) := by decide +kernel
theorem dX12_wake_65 : decode cX12_wake 65 = .ok (.laload, 1) := by decide +kernel
theorem dX12_wake_66 : decode cX12_wake 66 = .ok (.lconst 1, 1) := by decide +kernel
theorem dX12_wake_67 : decode cX12_wake 67 = .ok (.ladd, 1) := by decide +kernel
theorem dX12_wake_68 : decode cX12_wake 68 = .ok (.lastore, 1) := by decide +kernel
theorem dX12_wake_69 : decode cX12_wake 69 = .ok (.return_, 1) := by decide +kernel
theorem dX12_byDeadline_0 : decode cX12_byDeadline 0 = .ok (.iconst (-1), 1) := by decide +kernel
theorem dX12_byDeadline_1 : decode cX12_byDeadline 1 = .ok (.istore_n 2, 1) := by decide +kernel
theorem dX12_byDeadline_2 : decode cX12_byDeadline 2 = .ok (.iconst 0, 1) := by decide +kernel
theorem dX12_byDeadline_3 : decode cX12_byDeadline 3 = .ok (.istore_n 3, 1) := by decide +kernel
theorem dX12_byDeadline_4 : decode cX12_byDeadline 4 = .ok (.iload_n 3, 1) := by decide +kernel
theorem dX12_byDeadline_5 : decode cX12_byDeadline 5 = .ok (.i2l, 1) := by decide +kernel
theorem dX12_byDeadline_6 : decode cX12_byDeadline 6 = .ok (.aload_n 0, 1) := by decide +kernel
theorem dX12_byDeadline_7 : decode cX12_byDeadline 7 = .ok (.getfield 16, 3) := by decide +kernel
theorem dX12_byDeadline_10 : decode cX12_byDeadline 10 = .ok (.iconst 0, 1) := by decide +kernel
theorem dX12_byDeadline_11 : decode cX12_byDeadline 11 = .ok (.laload, 1) := by decide +kernel
theorem dX12_byDeadline_12 : decode cX12_byDeadline 12 = .ok (.lcmp, 1) := by decide +kernel
theorem dX12_byDeadline_13 : decode cX12_byDeadline 13 = .ok (.ifCond .ge 54, 3) := by decide +kernel
theorem dX12_byDeadline_16 : decode cX12_byDeadline 16 = .ok (.aload_n 0, 1) := by decide +kernel
theorem dX12_byDeadline_17 : decode cX12_byDeadline 17 = .ok (.iload_n 3, 1) := by decide +kernel
theorem dX12_byDeadline_18 : decode cX12_byDeadline 18 = .ok (.invokevirtual 90, 3) := by decide +kernel
theorem dX12_byDeadline_21 : decode cX12_byDeadline 21 = .ok (.ifCond .eq 40, 3) := by decide +kernel
theorem dX12_byDeadline_24 : decode cX12_byDeadline 24 = .ok (.iload_n 1, 1) := by decide +kernel
theorem dX12_byDeadline_25 : decode cX12_byDeadline 25 = .ok (.ifCond .eq 11, 3) := by decide +kernel
theorem dX12_byDeadline_28 : decode cX12_byDeadline 28 = .ok (.aload_n 0, 1) := by decide +kernel
theorem dX12_byDeadline_29 : decode cX12_byDeadline 29 = .ok (.iload_n 3, 1) := by decide +kernel
theorem dX12_byDeadline_30 : decode cX12_byDeadline 30 = .ok (.invokevirtual 244, 3) := by decide +kernel
theorem dX12_byDeadline_33 : decode cX12_byDeadline 33 = .ok (.ifCond .eq 28, 3) := by decide +kernel
theorem dX12_byDeadline_36 : decode cX12_byDeadline 36 = .ok (.iload_n 2, 1) := by decide +kernel
theorem dX12_byDeadline_37 : decode cX12_byDeadline 37 = .ok (.iconst (-1), 1) := by decide +kernel
theorem dX12_byDeadline_38 : decode cX12_byDeadline 38 = .ok (.if_icmp .eq 17, 3) := by decide +kernel
theorem dX12_byDeadline_41 : decode cX12_byDeadline 41 = .ok (.aload_n 0, 1) := by decide +kernel
theorem dX12_byDeadline_42 : decode cX12_byDeadline 42 = .ok (.iload_n 3, 1) := by decide +kernel
theorem dX12_byDeadline_43 : decode cX12_byDeadline 43 = .ok (.invokevirtual 167, 3) := by decide +kernel
theorem dX12_byDeadline_46 : decode cX12_byDeadline 46 = .ok (.aload_n 0, 1) := by decide +kernel
theorem dX12_byDeadline_47 : decode cX12_byDeadline 47 = .ok (.iload_n 2, 1) := by decide +kernel
theorem dX12_byDeadline_48 : decode cX12_byDeadline 48 = .ok (.invokevirtual 167, 3) := by decide +kernel
theorem dX12_byDeadline_51 : decode cX12_byDeadline 51 = .ok (.lcmp, 1) := by decide +kernel
theorem dX12_byDeadline_52 : decode cX12_byDeadline 52 = .ok (.ifCond .ge 7, 3) := by decide +kernel
theorem dX12_byDeadline_55 : decode cX12_byDeadline 55 = .ok (.iload_n 3, 1) := by decide +kernel
theorem dX12_byDeadline_56 : decode cX12_byDeadline 56 = .ok (.goto 4, 3) := by decide +kernel
theorem dX12_byDeadline_59 : decode cX12_byDeadline 59 = .ok (.iload_n 2, 1) := by decide +kernel
theorem dX12_byDeadline_60 : decode cX12_byDeadline 60 = .ok (.istore_n 2, 1) := by decide +kernel
theorem dX12_byDeadline_61 : decode cX12_byDeadline 61 = .ok (.iinc 3 1, 3) := by decide +kernel
theorem dX12_byDeadline_64 : decode cX12_byDeadline 64 = .ok (.goto (-60), 3) := by decide +kernel
theorem dX12_byDeadline_67 : decode cX12_byDeadline 67 = .ok (.iload_n 2, 1) := by decide +kernel
theorem dX12_byDeadline_68 : decode cX12_byDeadline 68 = .ok (.ireturn, 1) := by decide +kernel
theorem dX12_byVirtual_0 : decode cX12_byVirtual 0 = .ok (.iconst (-1), 1) := by decide +kernel
theorem dX12_byVirtual_1 : decode cX12_byVirtual 1 = .ok (.istore_n 1, 1) := by decide +kernel
theorem dX12_byVirtual_2 : decode cX12_byVirtual 2 = .ok (.iconst 0, 1) := by decide +kernel
theorem dX12_byVirtual_3 : decode cX12_byVirtual 3 = .ok (.istore_n 2, 1) := by decide +kernel
theorem dX12_byVirtual_4 : decode cX12_byVirtual 4 = .ok (.iload_n 2, 1) := by decide +kernel
theorem dX12_byVirtual_5 : decode cX12_byVirtual 5 = .ok (.i2l, 1) := by decide +kernel
theorem dX12_byVirtual_6 : decode cX12_byVirtual 6 = .ok (.aload_n 0, 1) := by decide +kernel
theorem dX12_byVirtual_7 : decode cX12_byVirtual 7 = .ok (.getfield 16, 3) := by decide +kernel
theorem dX12_byVirtual_10 : decode cX12_byVirtual 10 = .ok (.iconst 0, 1) := by decide +kernel
theorem dX12_byVirtual_11 : decode cX12_byVirtual 11 = .ok (.laload, 1) := by decide +kernel
theorem dX12_byVirtual_12 : decode cX12_byVirtual 12 = .ok (.lcmp, 1) := by decide +kernel
theorem dX12_byVirtual_13 : decode cX12_byVirtual 13 = .ok (.ifCond .ge 42, 3) := by decide +kernel
theorem dX12_byVirtual_16 : decode cX12_byVirtual 16 = .ok (.aload_n 0, 1) := by decide +kernel
theorem dX12_byVirtual_17 : decode cX12_byVirtual 17 = .ok (.iload_n 2, 1) := by decide +kernel
theorem dX12_byVirtual_18 : decode cX12_byVirtual 18 = .ok (.invokevirtual 90, 3) := by decide +kernel
theorem dX12_byVirtual_21 : decode cX12_byVirtual 21 = .ok (.ifCond .eq 26, 3) := by decide +kernel
theorem dX12_byVirtual_24 : decode cX12_byVirtual 24 = .ok (.iload_n 1, 1) := by decide +kernel
theorem dX12_byVirtual_25 : decode cX12_byVirtual 25 = .ok (.iconst (-1), 1) := by decide +kernel
theorem dX12_byVirtual_26 : decode cX12_byVirtual 26 = .ok (.if_icmp .eq 17, 3) := by decide +kernel
theorem dX12_byVirtual_29 : decode cX12_byVirtual 29 = .ok (.aload_n 0, 1) := by decide +kernel
theorem dX12_byVirtual_30 : decode cX12_byVirtual 30 = .ok (.iload_n 2, 1) := by decide +kernel
theorem dX12_byVirtual_31 : decode cX12_byVirtual 31 = .ok (.invokevirtual 98, 3) := by decide +kernel
theorem dX12_byVirtual_34 : decode cX12_byVirtual 34 = .ok (.aload_n 0, 1) := by decide +kernel
theorem dX12_byVirtual_35 : decode cX12_byVirtual 35 = .ok (.iload_n 1, 1) := by decide +kernel
theorem dX12_byVirtual_36 : decode cX12_byVirtual 36 = .ok (.invokevirtual 98, 3) := by decide +kernel
theorem dX12_byVirtual_39 : decode cX12_byVirtual 39 = .ok (.lcmp, 1) := by decide +kernel
theorem dX12_byVirtual_40 : decode cX12_byVirtual 40 = .ok (.ifCond .ge 7, 3) := by decide +kernel
theorem dX12_byVirtual_43 : decode cX12_byVirtual 43 = .ok (.iload_n 2, 1) := by decide +kernel
theorem dX12_byVirtual_44 : decode cX12_byVirtual 44 = .ok (.goto 4, 3) := by decide +kernel
theorem dX12_byVirtual_47 : decode cX12_byVirtual 47 = .ok (.iload_n 1, 1) := by decide +kernel
theorem dX12_byVirtual_48 : decode cX12_byVirtual 48 = .ok (.istore_n 1, 1) := by decide +kernel
theorem dX12_byVirtual_49 : decode cX12_byVirtual 49 = .ok (.iinc 2 1, 3) := by decide +kernel
theorem dX12_byVirtual_52 : decode cX12_byVirtual 52 = .ok (.goto (-48), 3) := by decide +kernel
theorem dX12_byVirtual_55 : decode cX12_byVirtual 55 = .ok (.iload_n 1, 1) := by decide +kernel
theorem dX12_byVirtual_56 : decode cX12_byVirtual 56 = .ok (.ireturn, 1) := by decide +kernel
theorem dX12_inTurn_0 : decode cX12_inTurn 0 = .ok (.aload_n 0, 1) := by decide +kernel
theorem dX12_inTurn_1 : decode cX12_inTurn 1 = .ok (.getfield 16, 3) := by decide +kernel
theorem dX12_inTurn_4 : decode cX12_inTurn 4 = .ok (.iconst 0, 1) := by decide +kernel
theorem dX12_inTurn_5 : decode cX12_inTurn 5 = .ok (.laload, 1) := by decide +kernel
theorem dX12_inTurn_6 : decode cX12_inTurn 6 = .ok (.l2i, 1) := by decide +kernel
theorem dX12_inTurn_7 : decode cX12_inTurn 7 = .ok (.istore_n 1, 1) := by decide +kernel
theorem dX12_inTurn_8 : decode cX12_inTurn 8 = .ok (.aload_n 0, 1) := by decide +kernel
theorem dX12_inTurn_9 : decode cX12_inTurn 9 = .ok (.getfield 16, 3) := by decide +kernel
theorem dX12_inTurn_12 : decode cX12_inTurn 12 = .ok (.iconst 3, 1) := by decide +kernel
theorem dX12_inTurn_13 : decode cX12_inTurn 13 = .ok (.laload, 1) := by decide +kernel
theorem dX12_inTurn_14 : decode cX12_inTurn 14 = .ok (.l2i, 1) := by decide +kernel
theorem dX12_inTurn_15 : decode cX12_inTurn 15 = .ok (.istore_n 2, 1) := by decide +kernel
theorem dX12_inTurn_16 : decode cX12_inTurn 16 = .ok (.iconst (-1), 1) := by decide +kernel
theorem dX12_inTurn_17 : decode cX12_inTurn 17 = .ok (.istore_n 3, 1) := by decide +kernel
theorem dX12_inTurn_18 : decode cX12_inTurn 18 = .ok (.iload_n 1, 1) := by decide +kernel
theorem dX12_inTurn_19 : decode cX12_inTurn 19 = .ok (.istore 4, 2) := by decide +kernel
theorem dX12_inTurn_21 : decode cX12_inTurn 21 = .ok (.iload 4, 2) := by decide +kernel
theorem dX12_inTurn_23 : decode cX12_inTurn 23 = .ok (.ifCond .le 33, 3) := by decide +kernel
theorem dX12_inTurn_26 : decode cX12_inTurn 26 = .ok (.iload_n 2, 1) := by decide +kernel
theorem dX12_inTurn_27 : decode cX12_inTurn 27 = .ok (.iload 4, 2) := by decide +kernel
theorem dX12_inTurn_29 : decode cX12_inTurn 29 = .ok (.iadd, 1) := by decide +kernel
theorem dX12_inTurn_30 : decode cX12_inTurn 30 = .ok (.iload_n 1, 1) := by decide +kernel
theorem dX12_inTurn_31 : decode cX12_inTurn 31 = .ok (.irem, 1) := by decide +kernel
theorem dX12_inTurn_32 : decode cX12_inTurn 32 = .ok (.istore 5, 2) := by decide +kernel
theorem dX12_inTurn_34 : decode cX12_inTurn 34 = .ok (.aload_n 0, 1) := by decide +kernel
theorem dX12_inTurn_35 : decode cX12_inTurn 35 = .ok (.iload 5, 2) := by decide +kernel
theorem dX12_inTurn_37 : decode cX12_inTurn 37 = .ok (.invokevirtual 90, 3) := by decide +kernel
theorem dX12_inTurn_40 : decode cX12_inTurn 40 = .ok (.ifCond .eq 8, 3) := by decide +kernel
theorem dX12_inTurn_43 : decode cX12_inTurn 43 = .ok (.iload 5, 2) := by decide +kernel
theorem dX12_inTurn_45 : decode cX12_inTurn 45 = .ok (.goto 4, 3) := by decide +kernel
theorem dX12_inTurn_48 : decode cX12_inTurn 48 = .ok (.iload_n 3, 1) := by decide +kernel
theorem dX12_inTurn_49 : decode cX12_inTurn 49 = .ok (.istore_n 3, 1) := by decide +kernel
theorem dX12_inTurn_50 : decode cX12_inTurn 50 = .ok (.iinc 4 (-1), 3) := by decide +kernel
theorem dX12_inTurn_53 : decode cX12_inTurn 53 = .ok (.goto (-32), 3) := by decide +kernel
theorem dX12_inTurn_56 : decode cX12_inTurn 56 = .ok (.iload_n 3, 1) := by decide +kernel
theorem dX12_inTurn_57 : decode cX12_inTurn 57 = .ok (.ireturn, 1) := by decide +kernel
theorem dX12_byDraws_0 : decode cX12_byDraws 0 = .ok (.aload_n 0, 1) := by decide +kernel
theorem dX12_byDraws_1 : decode cX12_byDraws 1 = .ok (.invokevirtual 105, 3) := by decide +kernel
theorem dX12_byDraws_4 : decode cX12_byDraws 4 = .ok (.lstore_n 1, 1) := by decide +kernel
theorem dX12_byDraws_5 : decode cX12_byDraws 5 = .ok (.lload_n 1, 1) := by decide +kernel
theorem dX12_byDraws_6 : decode cX12_byDraws 6 = .ok (.lconst 0, 1) := by decide +kernel
theorem dX12_byDraws_7 : decode cX12_byDraws 7 = .ok (.lcmp, 1) := by decide +kernel
theorem dX12_byDraws_8 : decode cX12_byDraws 8 = .ok (.ifCond .ne 5, 3) := by decide +kernel
theorem dX12_byDraws_11 : decode cX12_byDraws 11 = .ok (.iconst (-1), 1) := by decide +kernel
theorem dX12_byDraws_12 : decode cX12_byDraws 12 = .ok (.ireturn, 1) := by decide +kernel
theorem dX12_byDraws_13 : decode cX12_byDraws 13 = .ok (.aload_n 0, 1) := by decide +kernel
theorem dX12_byDraws_14 : decode cX12_byDraws 14 = .ok (.ldc2_w 247, 3) := by decide +kernel
theorem dX12_byDraws_17 : decode cX12_byDraws 17 = .ok (.aload_n 0, 1) := by decide +kernel
theorem dX12_byDraws_18 : decode cX12_byDraws 18 = .ok (.getfield 249, 3) := by decide +kernel
theorem dX12_byDraws_21 : decode cX12_byDraws 21 = .ok (.lmul, 1) := by decide +kernel
theorem dX12_byDraws_22 : decode cX12_byDraws 22 = .ok (.ldc2_w 252, 3) := by decide +kernel
theorem dX12_byDraws_25 : decode cX12_byDraws 25 = .ok (.ladd, 1) := by decide +kernel
theorem dX12_byDraws_26 : decode cX12_byDraws 26 = .ok (.ldc2_w 254, 3) := by decide +kernel
theorem dX12_byDraws_29 : decode cX12_byDraws 29 = .ok (.lrem, 1) := by decide +kernel
theorem dX12_byDraws_30 : decode cX12_byDraws 30 = .ok (.putfield 249, 3) := by decide +kernel
theorem dX12_byDraws_33 : decode cX12_byDraws 33 = .ok (.aload_n 0, 1) := by decide +kernel
theorem dX12_byDraws_34 : decode cX12_byDraws 34 = .ok (.getfield 249, 3) := by decide +kernel
theorem dX12_byDraws_37 : decode cX12_byDraws 37 = .ok (.lload_n 1, 1) := by decide +kernel
theorem dX12_byDraws_38 : decode cX12_byDraws 38 = .ok (.lrem, 1) := by decide +kernel
theorem dX12_byDraws_39 : decode cX12_byDraws 39 = .ok (.lstore_n 3, 1) := by decide +kernel
theorem dX12_byDraws_40 : decode cX12_byDraws 40 = .ok (.iconst (-1), 1) := by decide +kernel
theorem dX12_byDraws_41 : decode cX12_byDraws 41 = .ok (.istore 5, 2) := by decide +kernel
theorem dX12_byDraws_43 : decode cX12_byDraws 43 = .ok (.iconst 0, 1) := by decide +kernel
theorem dX12_byDraws_44 : decode cX12_byDraws 44 = .ok (.istore 6, 2) := by decide +kernel
theorem dX12_byDraws_46 : decode cX12_byDraws 46 = .ok (.iload 6, 2) := by decide +kernel
theorem dX12_byDraws_48 : decode cX12_byDraws 48 = .ok (.i2l, 1) := by decide +kernel
theorem dX12_byDraws_49 : decode cX12_byDraws 49 = .ok (.aload_n 0, 1) := by decide +kernel
theorem dX12_byDraws_50 : decode cX12_byDraws 50 = .ok (.getfield 16, 3) := by decide +kernel
theorem dX12_byDraws_53 : decode cX12_byDraws 53 = .ok (.iconst 0, 1) := by decide +kernel
theorem dX12_byDraws_54 : decode cX12_byDraws 54 = .ok (.laload, 1) := by decide +kernel
theorem dX12_byDraws_55 : decode cX12_byDraws 55 = .ok (.lcmp, 1) := by decide +kernel
theorem dX12_byDraws_56 : decode cX12_byDraws 56 = .ok (.ifCond .ge 53, 3) := by decide +kernel
theorem dX12_byDraws_59 : decode cX12_byDraws 59 = .ok (.aload_n 0, 1) := by decide +kernel
theorem dX12_byDraws_60 : decode cX12_byDraws 60 = .ok (.iload 6, 2) := by decide +kernel
theorem dX12_byDraws_62 : decode cX12_byDraws 62 = .ok (.invokevirtual 90, 3) := by decide +kernel
theorem dX12_byDraws_65 : decode cX12_byDraws 65 = .ok (.ifCond .eq 38, 3) := by decide +kernel
theorem dX12_byDraws_68 : decode cX12_byDraws 68 = .ok (.iload 5, 2) := by decide +kernel
theorem dX12_byDraws_70 : decode cX12_byDraws 70 = .ok (.iconst (-1), 1) := by decide +kernel
theorem dX12_byDraws_71 : decode cX12_byDraws 71 = .ok (.if_icmp .ne 19, 3) := by decide +kernel
theorem dX12_byDraws_74 : decode cX12_byDraws 74 = .ok (.lload_n 3, 1) := by decide +kernel
theorem dX12_byDraws_75 : decode cX12_byDraws 75 = .ok (.aload_n 0, 1) := by decide +kernel
theorem dX12_byDraws_76 : decode cX12_byDraws 76 = .ok (.iload 6, 2) := by decide +kernel
theorem dX12_byDraws_78 : decode cX12_byDraws 78 = .ok (.invokevirtual 94, 3) := by decide +kernel
theorem dX12_byDraws_81 : decode cX12_byDraws 81 = .ok (.lcmp, 1) := by decide +kernel
theorem dX12_byDraws_82 : decode cX12_byDraws 82 = .ok (.ifCond .ge 8, 3) := by decide +kernel
theorem dX12_byDraws_85 : decode cX12_byDraws 85 = .ok (.iload 6, 2) := by decide +kernel
theorem dX12_byDraws_87 : decode cX12_byDraws 87 = .ok (.goto 5, 3) := by decide +kernel
theorem dX12_byDraws_90 : decode cX12_byDraws 90 = .ok (.iload 5, 2) := by decide +kernel
theorem dX12_byDraws_92 : decode cX12_byDraws 92 = .ok (.istore 5, 2) := by decide +kernel
theorem dX12_byDraws_94 : decode cX12_byDraws 94 = .ok (.lload_n 3, 1) := by decide +kernel
theorem dX12_byDraws_95 : decode cX12_byDraws 95 = .ok (.aload_n 0, 1) := by decide +kernel
theorem dX12_byDraws_96 : decode cX12_byDraws 96 = .ok (.iload 6, 2) := by decide +kernel
theorem dX12_byDraws_98 : decode cX12_byDraws 98 = .ok (.invokevirtual 94, 3) := by decide +kernel
theorem dX12_byDraws_101 : decode cX12_byDraws 101 = .ok (.lsub, 1) := by decide +kernel
theorem dX12_byDraws_102 : decode cX12_byDraws 102 = .ok (.lstore_n 3, 1) := by decide +kernel
theorem dX12_byDraws_103 : decode cX12_byDraws 103 = .ok (.iinc 6 1, 3) := by decide +kernel
theorem dX12_byDraws_106 : decode cX12_byDraws 106 = .ok (.goto (-60), 3) := by decide +kernel
theorem dX12_byDraws_109 : decode cX12_byDraws 109 = .ok (.iload 5, 2) := by decide +kernel
theorem dX12_byDraws_111 : decode cX12_byDraws 111 = .ok (.ireturn, 1) := by decide +kernel
theorem dX12_chosen_0 : decode cX12_chosen 0 = .ok (.iload_n 1, 1) := by decide +kernel
theorem dX12_chosen_1 : decode cX12_chosen 1 = .ok (.tableswitch 52 1 4 #[31, 36, 42, 47], 31) := by decide +kernel
theorem dX12_chosen_32 : decode cX12_chosen 32 = .ok (.aload_n 0, 1) := by decide +kernel
theorem dX12_chosen_33 : decode cX12_chosen 33 = .ok (.invokevirtual 256, 3) := by decide +kernel
theorem dX12_chosen_36 : decode cX12_chosen 36 = .ok (.ireturn, 1) := by decide +kernel
theorem dX12_chosen_37 : decode cX12_chosen 37 = .ok (.aload_n 0, 1) := by decide +kernel
theorem dX12_chosen_38 : decode cX12_chosen 38 = .ok (.iconst 0, 1) := by decide +kernel
theorem dX12_chosen_39 : decode cX12_chosen 39 = .ok (.invokevirtual 260, 3) := by decide +kernel
theorem dX12_chosen_42 : decode cX12_chosen 42 = .ok (.ireturn, 1) := by decide +kernel
theorem dX12_chosen_43 : decode cX12_chosen 43 = .ok (.aload_n 0, 1) := by decide +kernel
theorem dX12_chosen_44 : decode cX12_chosen 44 = .ok (.invokevirtual 264, 3) := by decide +kernel
theorem dX12_chosen_47 : decode cX12_chosen 47 = .ok (.ireturn, 1) := by decide +kernel
theorem dX12_chosen_48 : decode cX12_chosen 48 = .ok (.aload_n 0, 1) := by decide +kernel
theorem dX12_chosen_49 : decode cX12_chosen 49 = .ok (.invokevirtual 267, 3) := by decide +kernel
theorem dX12_chosen_52 : decode cX12_chosen 52 = .ok (.ireturn, 1) := by decide +kernel
theorem dX12_chosen_53 : decode cX12_chosen 53 = .ok (.aload_n 0, 1) := by decide +kernel
theorem dX12_chosen_54 : decode cX12_chosen 54 = .ok (.getfield 16, 3) := by decide +kernel
theorem dX12_chosen_57 : decode cX12_chosen 57 = .ok (.iconst 4, 1) := by decide +kernel
theorem dX12_chosen_58 : decode cX12_chosen 58 = .ok (.laload, 1) := by decide +kernel
theorem dX12_chosen_59 : decode cX12_chosen 59 = .ok (.l2i, 1) := by decide +kernel
theorem dX12_chosen_60 : decode cX12_chosen 60 = .ok (.istore_n 2, 1) := by decide +kernel
theorem dX12_chosen_61 : decode cX12_chosen 61 = .ok (.aload_n 0, 1) := by decide +kernel
theorem dX12_chosen_62 : decode cX12_chosen 62 = .ok (.getfield 13, 3) := by decide +kernel
theorem dX12_chosen_65 : decode cX12_chosen 65 = .ok (.iconst 0, 1) := by decide +kernel
theorem dX12_chosen_66 : decode cX12_chosen 66 = .ok (.iaload, 1) := by decide +kernel
theorem dX12_chosen_67 : decode cX12_chosen 67 = .ok (.iconst 1, 1) := by decide +kernel
theorem dX12_chosen_68 : decode cX12_chosen 68 = .ok (.if_icmp .ne 12, 3) := by decide +kernel
theorem dX12_chosen_71 : decode cX12_chosen 71 = .ok (.iload_n 2, 1) := by decide +kernel
theorem dX12_chosen_72 : decode cX12_chosen 72 = .ok (.iconst (-1), 1) := by decide +kernel
theorem dX12_chosen_73 : decode cX12_chosen 73 = .ok (.if_icmp .eq 7, 3) := by decide +kernel
theorem dX12_chosen_76 : decode cX12_chosen 76 = .ok (.iload_n 2, 1) := by decide +kernel
theorem dX12_chosen_77 : decode cX12_chosen 77 = .ok (.goto 8, 3) := by decide +kernel
theorem dX12_chosen_80 : decode cX12_chosen 80 = .ok (.aload_n 0, 1) := by decide +kernel
theorem dX12_chosen_81 : decode cX12_chosen 81 = .ok (.iconst 1, 1) := by decide +kernel
theorem dX12_chosen_82 : decode cX12_chosen 82 = .ok (.invokevirtual 260, 3) := by decide +kernel
theorem dX12_chosen_85 : decode cX12_chosen 85 = .ok (.ireturn, 1) := by decide +kernel
theorem dX12_log_0 : decode cX12_log 0 = .ok (.aload_n 0, 1) := by decide +kernel
theorem dX12_log_1 : decode cX12_log 1 = .ok (.getfield 16, 3) := by decide +kernel
theorem dX12_log_4 : decode cX12_log 4 = .ok (.iconst 5, 1) := by decide +kernel
theorem dX12_log_5 : decode cX12_log 5 = .ok (.laload, 1) := by decide +kernel
theorem dX12_log_6 : decode cX12_log 6 = .ok (.ldc2_w 270, 3) := by decide +kernel
theorem dX12_log_9 : decode cX12_log 9 = .ok (.lcmp, 1) := by decide +kernel
theorem dX12_log_10 : decode cX12_log 10 = .ok (.ifCond .ne 44, 3) := by decide +kernel
theorem dX12_log_13 : decode cX12_log 13 = .ok (.sipush 522, 3) := by decide +kernel
theorem dX12_log_16 : decode cX12_log 16 = .ok (.istore_n 2, 1) := by decide +kernel
theorem dX12_log_17 : decode cX12_log 17 = .ok (.iload_n 2, 1) := by decide +kernel
theorem dX12_log_18 : decode cX12_log 18 = .ok (.sipush 903, 3) := by decide +kernel
theorem dX12_log_21 : decode cX12_log 21 = .ok (.if_icmp .ge 23, 3) := by decide +kernel
theorem dX12_log_24 : decode cX12_log 24 = .ok (.aload_n 0, 1) := by decide +kernel
theorem dX12_log_25 : decode cX12_log 25 = .ok (.getfield 16, 3) := by decide +kernel
theorem dX12_log_28 : decode cX12_log 28 = .ok (.iload_n 2, 1) := by decide +kernel
theorem dX12_log_29 : decode cX12_log 29 = .ok (.aload_n 0, 1) := by decide +kernel
theorem dX12_log_30 : decode cX12_log 30 = .ok (.getfield 16, 3) := by decide +kernel
theorem dX12_log_33 : decode cX12_log 33 = .ok (.iload_n 2, 1) := by decide +kernel
theorem dX12_log_34 : decode cX12_log 34 = .ok (.iconst 3, 1) := by decide +kernel
theorem dX12_log_35 : decode cX12_log 35 = .ok (.iadd, 1) := by decide +kernel
theorem dX12_log_36 : decode cX12_log 36 = .ok (.laload, 1) := by decide +kernel
theorem dX12_log_37 : decode cX12_log 37 = .ok (.lastore, 1) := by decide +kernel
theorem dX12_log_38 : decode cX12_log 38 = .ok (.iinc 2 1, 3) := by decide +kernel
theorem dX12_log_41 : decode cX12_log 41 = .ok (.goto (-24), 3) := by decide +kernel
theorem dX12_log_44 : decode cX12_log 44 = .ok (.aload_n 0, 1) := by decide +kernel
theorem dX12_log_45 : decode cX12_log 45 = .ok (.getfield 16, 3) := by decide +kernel
theorem dX12_log_48 : decode cX12_log 48 = .ok (.iconst 5, 1) := by decide +kernel
theorem dX12_log_49 : decode cX12_log 49 = .ok (.dup2, 1) := by decide +kernel
theorem dX12_log_50 : decode cX12_log 50 = .ok (.laload, 1) := by decide +kernel
theorem dX12_log_51 : decode cX12_log 51 = .ok (.lconst 1, 1) := by decide +kernel
theorem dX12_log_52 : decode cX12_log 52 = .ok (.lsub, 1) := by decide +kernel
theorem dX12_log_53 : decode cX12_log 53 = .ok (.lastore, 1) := by decide +kernel
theorem dX12_log_54 : decode cX12_log 54 = .ok (.sipush 522, 3) := by decide +kernel
theorem dX12_log_57 : decode cX12_log 57 = .ok (.iconst 3, 1) := by decide +kernel
theorem dX12_log_58 : decode cX12_log 58 = .ok (.aload_n 0, 1) := by decide +kernel
theorem dX12_log_59 : decode cX12_log 59 = .ok (.getfield 16, 3) := by decide +kernel
theorem dX12_log_62 : decode cX12_log 62 = .ok (.iconst 5, 1) := by decide +kernel
theorem dX12_log_63 : decode cX12_log 63 = .ok (.laload, 1) := by decide +kernel
theorem dX12_log_64 : decode cX12_log 64 = .ok (.l2i, 1) := by decide +kernel
theorem dX12_log_65 : decode cX12_log 65 = .ok (.imul, 1) := by decide +kernel
theorem dX12_log_66 : decode cX12_log 66 = .ok (.iadd, 1) := by decide +kernel
theorem dX12_log_67 : decode cX12_log 67 = .ok (.istore_n 2, 1) := by decide +kernel
theorem dX12_log_68 : decode cX12_log 68 = .ok (.aload_n 0, 1) := by decide +kernel
theorem dX12_log_69 : decode cX12_log 69 = .ok (.getfield 16, 3) := by decide +kernel
theorem dX12_log_72 : decode cX12_log 72 = .ok (.iload_n 2, 1) := by decide +kernel
theorem dX12_log_73 : decode cX12_log 73 = .ok (.iload_n 1, 1) := by decide +kernel
theorem dX12_log_74 : decode cX12_log 74 = .ok (.i2l, 1) := by decide +kernel
theorem dX12_log_75 : decode cX12_log 75 = .ok (.lastore, 1) := by decide +kernel
theorem dX12_log_76 : decode cX12_log 76 = .ok (.aload_n 0, 1) := by decide +kernel
theorem dX12_log_77 : decode cX12_log 77 = .ok (.getfield 16, 3) := by decide +kernel
theorem dX12_log_80 : decode cX12_log 80 = .ok (.iload_n 2, 1) := by decide +kernel
theorem dX12_log_81 : decode cX12_log 81 = .ok (.iconst 1, 1) := by decide +kernel
theorem dX12_log_82 : decode cX12_log 82 = .ok (.iadd, 1) := by decide +kernel
theorem dX12_log_83 : decode cX12_log 83 = .ok (.aload_n 0, 1) := by decide +kernel
theorem dX12_log_84 : decode cX12_log 84 = .ok (.invokevirtual 105, 3) := by decide +kernel
theorem dX12_log_87 : decode cX12_log 87 = .ok (.lastore, 1) := by decide +kernel
theorem dX12_log_88 : decode cX12_log 88 = .ok (.aload_n 0, 1) := by decide +kernel
theorem dX12_log_89 : decode cX12_log 89 = .ok (.getfield 16, 3) := by decide +kernel
theorem dX12_log_92 : decode cX12_log 92 = .ok (.iload_n 2, 1) := by decide +kernel
theorem dX12_log_93 : decode cX12_log 93 = .ok (.iconst 2, 1) := by decide +kernel
theorem dX12_log_94 : decode cX12_log 94 = .ok (.iadd, 1) := by decide +kernel
theorem dX12_log_95 : decode cX12_log 95 = .ok (.lconst 0, 1) := by decide +kernel
theorem dX12_log_96 : decode cX12_log 96 = .ok (.lastore, 1) := by decide +kernel
theorem dX12_log_97 : decode cX12_log 97 = .ok (.iconst 0, 1) := by decide +kernel
theorem dX12_log_98 : decode cX12_log 98 = .ok (.istore_n 3, 1) := by decide +kernel
theorem dX12_log_99 : decode cX12_log 99 = .ok (.iload_n 3, 1) := by decide +kernel
theorem dX12_log_100 : decode cX12_log 100 = .ok (.i2l, 1) := by decide +kernel
theorem dX12_log_101 : decode cX12_log 101 = .ok (.aload_n 0, 1) := by decide +kernel
theorem dX12_log_102 : decode cX12_log 102 = .ok (.getfield 16, 3) := by decide +kernel
theorem dX12_log_105 : decode cX12_log 105 = .ok (.iconst 0, 1) := by decide +kernel
theorem dX12_log_106 : decode cX12_log 106 = .ok (.laload, 1) := by decide +kernel
theorem dX12_log_107 : decode cX12_log 107 = .ok (.lcmp, 1) := by decide +kernel
theorem dX12_log_108 : decode cX12_log 108 = .ok (.ifCond .ge 41, 3) := by decide +kernel
theorem dX12_log_111 : decode cX12_log 111 = .ok (.aload_n 0, 1) := by decide +kernel
theorem dX12_log_112 : decode cX12_log 112 = .ok (.getfield 16, 3) := by decide +kernel
theorem dX12_log_115 : decode cX12_log 115 = .ok (.iload_n 2, 1) := by decide +kernel
theorem dX12_log_116 : decode cX12_log 116 = .ok (.iconst 2, 1) := by decide +kernel
theorem dX12_log_117 : decode cX12_log 117 = .ok (.iadd, 1) := by decide +kernel
theorem dX12_log_118 : decode cX12_log 118 = .ok (.dup2, 1) := by decide +kernel
theorem dX12_log_119 : decode cX12_log 119 = .ok (.laload, 1) := by decide +kernel
theorem dX12_log_120 : decode cX12_log 120 = .ok (.aload_n 0, 1) := by decide +kernel
theorem dX12_log_121 : decode cX12_log 121 = .ok (.iload_n 3, 1) := by decide +kernel
theorem dX12_log_122 : decode cX12_log 122 = .ok (.invokevirtual 90, 3) := by decide +kernel
theorem dX12_log_125 : decode cX12_log 125 = .ok (.ifCond .eq 15, 3) := by decide +kernel
theorem dX12_log_128 : decode cX12_log 128 = .ok (.aload_n 0, 1) := by decide +kernel
theorem dX12_log_129 : decode cX12_log 129 = .ok (.iload_n 3, 1) := by decide +kernel
theorem dX12_log_130 : decode cX12_log 130 = .ok (.invokevirtual 94, 3) := by decide +kernel
theorem dX12_log_133 : decode cX12_log 133 = .ok (.iconst 4, 1) := by decide +kernel
theorem dX12_log_134 : decode cX12_log 134 = .ok (.iload_n 3, 1) := by decide +kernel
theorem dX12_log_135 : decode cX12_log 135 = .ok (.imul, 1) := by decide +kernel
theorem dX12_log_136 : decode cX12_log 136 = .ok (.lshl, 1) := by decide +kernel
theorem dX12_log_137 : decode cX12_log 137 = .ok (.goto 4, 3) := by decide +kernel
theorem dX12_log_140 : decode cX12_log 140 = .ok (.lconst 0, 1) := by decide +kernel
theorem dX12_log_141 : decode cX12_log 141 = .ok (.lor, 1) := by decide +kernel
theorem dX12_log_142 : decode cX12_log 142 = .ok (.lastore, 1) := by decide +kernel
theorem dX12_log_143 : decode cX12_log 143 = .ok (.iinc 3 1, 3) := by decide +kernel
theorem dX12_log_146 : decode cX12_log 146 = .ok (.goto (-47), 3) := by decide +kernel
theorem dX12_log_149 : decode cX12_log 149 = .ok (.aload_n 0, 1) := by decide +kernel
theorem dX12_log_150 : decode cX12_log 150 = .ok (.getfield 16, 3) := by decide +kernel
theorem dX12_log_153 : decode cX12_log 153 = .ok (.iconst 5, 1) := by decide +kernel
theorem dX12_log_154 : decode cX12_log 154 = .ok (.dup2, 1) := by decide +kernel
theorem dX12_log_155 : decode cX12_log 155 = .ok (.laload, 1) := by decide +kernel
theorem dX12_log_156 : decode cX12_log 156 = .ok (.lconst 1, 1) := by decide +kernel
theorem dX12_log_157 : decode cX12_log 157 = .ok (.ladd, 1) := by decide +kernel
theorem dX12_log_158 : decode cX12_log 158 = .ok (.lastore, 1) := by decide +kernel
theorem dX12_log_159 : decode cX12_log 159 = .ok (.return_, 1) := by decide +kernel
theorem dX12_runs_0 : decode cX12_runs 0 = .ok (.iload_n 1, 1) := by decide +kernel
theorem dX12_runs_1 : decode cX12_runs 1 = .ok (.invokestatic 87, 3) := by decide +kernel
theorem dX12_runs_4 : decode cX12_runs 4 = .ok (.istore_n 2, 1) := by decide +kernel
theorem dX12_runs_5 : decode cX12_runs 5 = .ok (.aload_n 0, 1) := by decide +kernel
theorem dX12_runs_6 : decode cX12_runs 6 = .ok (.getfield 16, 3) := by decide +kernel
theorem dX12_runs_9 : decode cX12_runs 9 = .ok (.iload_n 2, 1) := by decide +kernel
theorem dX12_runs_10 : decode cX12_runs 10 = .ok (.bipush 10, 2) := by decide +kernel
theorem dX12_runs_12 : decode cX12_runs 12 = .ok (.iadd, 1) := by decide +kernel
theorem dX12_runs_13 : decode cX12_runs 13 = .ok (.dup2, 1) := by decide +kernel
theorem dX12_runs_14 : decode cX12_runs 14 = .ok (.laload, 1) := by decide +kernel
theorem dX12_runs_15 : decode cX12_runs 15 = .ok (.ldc2_w 108, 3) := by decide +kernel
theorem dX12_runs_18 : decode cX12_runs 18 = .ok (.aload_n 0, 1) := by decide +kernel
theorem dX12_runs_19 : decode cX12_runs 19 = .ok (.getfield 16, 3) := by decide +kernel
theorem dX12_runs_22 : decode cX12_runs 22 = .ok (.iload_n 2, 1) := by decide +kernel
theorem dX12_runs_23 : decode cX12_runs 23 = .ok (.iconst 0, 1) := by decide +kernel
theorem dX12_runs_24 : decode cX12_runs 24 = .ok (.iadd, 1) := by decide +kernel
theorem dX12_runs_25 : decode cX12_runs 25 = .ok (.laload, 1) := by decide +kernel
theorem dX12_runs_26 : decode cX12_runs 26 = .ok (.ldiv, 1) := by decide +kernel
theorem dX12_runs_27 : decode cX12_runs 27 = .ok (.ladd, 1) := by decide +kernel
theorem dX12_runs_28 : decode cX12_runs 28 = .ok (.lastore, 1) := by decide +kernel
theorem dX12_runs_29 : decode cX12_runs 29 = .ok (.aload_n 0, 1) := by decide +kernel
theorem dX12_runs_30 : decode cX12_runs 30 = .ok (.getfield 16, 3) := by decide +kernel
theorem dX12_runs_33 : decode cX12_runs 33 = .ok (.iload_n 2, 1) := by decide +kernel
theorem dX12_runs_34 : decode cX12_runs 34 = .ok (.iconst 4, 1) := by decide +kernel
theorem dX12_runs_35 : decode cX12_runs 35 = .ok (.iadd, 1) := by decide +kernel
theorem dX12_runs_36 : decode cX12_runs 36 = .ok (.dup2, 1) := by decide +kernel
theorem dX12_runs_37 : decode cX12_runs 37 = .ok (.laload, 1) := by decide +kernel
theorem dX12_runs_38 : decode cX12_runs 38 = .ok (.lconst 1, 1) := by decide +kernel
theorem dX12_runs_39 : decode cX12_runs 39 = .ok (.ladd, 1) := by decide +kernel
theorem dX12_runs_40 : decode cX12_runs 40 = .ok (.lastore, 1) := by decide +kernel
theorem dX12_runs_41 : decode cX12_runs 41 = .ok (.aload_n 0, 1) := by decide +kernel
theorem dX12_runs_42 : decode cX12_runs 42 = .ok (.getfield 16, 3) := by decide +kernel
theorem dX12_runs_45 : decode cX12_runs 45 = .ok (.iload_n 2, 1) := by decide +kernel
theorem dX12_runs_46 : decode cX12_runs 46 = .ok (.bipush 40, 2) := by decide +kernel
theorem dX12_runs_48 : decode cX12_runs 48 = .ok (.iadd, 1) := by decide +kernel
theorem dX12_runs_49 : decode cX12_runs 49 = .ok (.dup2, 1) := by decide +kernel
theorem dX12_runs_50 : decode cX12_runs 50 = .ok (.laload, 1) := by decide +kernel
theorem dX12_runs_51 : decode cX12_runs 51 = .ok (.aload_n 0, 1) := by decide +kernel
theorem dX12_runs_52 : decode cX12_runs 52 = .ok (.getfield 16, 3) := by decide +kernel
theorem dX12_runs_55 : decode cX12_runs 55 = .ok (.iload_n 2, 1) := by decide +kernel
theorem dX12_runs_56 : decode cX12_runs 56 = .ok (.bipush 41, 2) := by decide +kernel
theorem dX12_runs_58 : decode cX12_runs 58 = .ok (.iadd, 1) := by decide +kernel
theorem dX12_runs_59 : decode cX12_runs 59 = .ok (.laload, 1) := by decide +kernel
theorem dX12_runs_60 : decode cX12_runs 60 = .ok (.lconst 0, 1) := by decide +kernel
theorem dX12_runs_61 : decode cX12_runs 61 = .ok (.lcmp, 1) := by decide +kernel
theorem dX12_runs_62 : decode cX12_runs 62 = .ok (.ifCond .le 7, 3) := by decide +kernel
theorem dX12_runs_65 : decode cX12_runs 65 = .ok (.lconst 1, 1) := by decide +kernel
theorem dX12_runs_66 : decode cX12_runs 66 = .ok (.goto 4, 3) := by decide +kernel
theorem dX12_runs_69 : decode cX12_runs 69 = .ok (.lconst 0, 1) := by decide +kernel
theorem dX12_runs_70 : decode cX12_runs 70 = .ok (.lsub, 1) := by decide +kernel
theorem dX12_runs_71 : decode cX12_runs 71 = .ok (.lastore, 1) := by decide +kernel
theorem dX12_runs_72 : decode cX12_runs 72 = .ok (.iconst 0, 1) := by decide +kernel
theorem dX12_runs_73 : decode cX12_runs 73 = .ok (.istore_n 3, 1) := by decide +kernel
theorem dX12_runs_74 : decode cX12_runs 74 = .ok (.iload_n 3, 1) := by decide +kernel
theorem dX12_runs_75 : decode cX12_runs 75 = .ok (.i2l, 1) := by decide +kernel
theorem dX12_runs_76 : decode cX12_runs 76 = .ok (.aload_n 0, 1) := by decide +kernel
theorem dX12_runs_77 : decode cX12_runs 77 = .ok (.getfield 16, 3) := by decide +kernel
theorem dX12_runs_80 : decode cX12_runs 80 = .ok (.iconst 0, 1) := by decide +kernel
theorem dX12_runs_81 : decode cX12_runs 81 = .ok (.laload, 1) := by decide +kernel
theorem dX12_runs_82 : decode cX12_runs 82 = .ok (.lcmp, 1) := by decide +kernel
theorem dX12_runs_83 : decode cX12_runs 83 = .ok (.ifCond .ge 134, 3) := by decide +kernel
theorem dX12_runs_86 : decode cX12_runs 86 = .ok (.iload_n 3, 1) := by decide +kernel
theorem dX12_runs_87 : decode cX12_runs 87 = .ok (.invokestatic 87, 3) := by decide +kernel
theorem dX12_runs_90 : decode cX12_runs 90 = .ok (.istore 4, 2) := by decide +kernel
theorem dX12_runs_92 : decode cX12_runs 92 = .ok (.iload_n 3, 1) := by decide +kernel
theorem dX12_runs_93 : decode cX12_runs 93 = .ok (.iload_n 1, 1) := by decide +kernel
theorem dX12_runs_94 : decode cX12_runs 94 = .ok (.if_icmp .ne 17, 3) := by decide +kernel
theorem dX12_runs_97 : decode cX12_runs 97 = .ok (.aload_n 0, 1) := by decide +kernel
theorem dX12_runs_98 : decode cX12_runs 98 = .ok (.getfield 16, 3) := by decide +kernel
theorem dX12_runs_101 : decode cX12_runs 101 = .ok (.iload 4, 2) := by decide +kernel
theorem dX12_runs_103 : decode cX12_runs 103 = .ok (.bipush 7, 2) := by decide +kernel
theorem dX12_runs_105 : decode cX12_runs 105 = .ok (.iadd, 1) := by decide +kernel
theorem dX12_runs_106 : decode cX12_runs 106 = .ok (.lconst 0, 1) := by decide +kernel
theorem dX12_runs_107 : decode cX12_runs 107 = .ok (.lastore, 1) := by decide +kernel
theorem dX12_runs_108 : decode cX12_runs 108 = .ok (.goto 103, 3) := by decide +kernel
theorem dX12_runs_111 : decode cX12_runs 111 = .ok (.aload_n 0, 1) := by decide +kernel
theorem dX12_runs_112 : decode cX12_runs 112 = .ok (.iload_n 3, 1) := by decide +kernel
theorem dX12_runs_113 : decode cX12_runs 113 = .ok (.invokevirtual 90, 3) := by decide +kernel
theorem dX12_runs_116 : decode cX12_runs 116 = .ok (.ifCond .eq 95, 3) := by decide +kernel
theorem dX12_runs_119 : decode cX12_runs 119 = .ok (.aload_n 0, 1) := by decide +kernel
theorem dX12_runs_120 : decode cX12_runs 120 = .ok (.getfield 16, 3) := by decide +kernel
theorem dX12_runs_123 : decode cX12_runs 123 = .ok (.iload 4, 2) := by decide +kernel
theorem dX12_runs_125 : decode cX12_runs 125 = .ok (.bipush 7, 2) := by decide +kernel

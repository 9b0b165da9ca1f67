theorem dX12_rescue_157 : decode cX12_rescue 157 = .ok (.getfield 32, 3) := by decide +kernel
theorem dX12_rescue_160 : decode cX12_rescue 160 = .ok (.iload 4, 2) := by decide +kernel
theorem dX12_rescue_162 : decode cX12_rescue 162 = .ok (.iload 5, 2) := by decide +kernel
theorem dX12_rescue_164 : decode cX12_rescue 164 = .ok (.ifCond .eq 16, 3) := by decide +kernel
theorem dX12_rescue_167 : decode cX12_rescue 167 = .ok (.aload_n 0, 1) := by decide +kernel
theorem dX12_rescue_168 : decode cX12_rescue 168 = .ok (.iload 4, 2) := by decide +kernel
theorem dX12_rescue_170 : decode cX12_rescue 170 = .ok (.invokevirtual 229, 3) := by decide +kernel
theorem dX12_rescue_173 : decode cX12_rescue 173 = .ok (.ifCond .eq 7, 3) := by decide +kernel
theorem dX12_rescue_176 : decode cX12_rescue 176 = .ok (.iconst 1, 1) := by decide +kernel
theorem dX12_rescue_177 : decode cX12_rescue 177 = .ok (.goto 4, 3) := by decide +kernel
theorem dX12_rescue_180 : decode cX12_rescue 180 = .ok (.iconst 0, 1) := by decide +kernel
theorem dX12_rescue_181 : decode cX12_rescue 181 = .ok (.bastore, 1) := by decide +kernel
theorem dX12_rescue_182 : decode cX12_rescue 182 = .ok (.iinc 4 (-1), 3) := by decide +kernel
theorem dX12_rescue_185 : decode cX12_rescue 185 = .ok (.goto (-104), 3) := by decide +kernel
theorem dX12_rescue_188 : decode cX12_rescue 188 = .ok (.aload_n 0, 1) := by decide +kernel
theorem dX12_rescue_189 : decode cX12_rescue 189 = .ok (.getfield 32, 3) := by decide +kernel
theorem dX12_rescue_192 : decode cX12_rescue 192 = .ok (.iload_n 2, 1) := by decide +kernel
theorem dX12_rescue_193 : decode cX12_rescue 193 = .ok (.baload, 1) := by decide +kernel
theorem dX12_rescue_194 : decode cX12_rescue 194 = .ok (.ifCond .eq 18, 3) := by decide +kernel
theorem dX12_rescue_197 : decode cX12_rescue 197 = .ok (.iload_n 1, 1) := by decide +kernel
theorem dX12_rescue_198 : decode cX12_rescue 198 = .ok (.aload_n 0, 1) := by decide +kernel
theorem dX12_rescue_199 : decode cX12_rescue 199 = .ok (.getfield 7, 3) := by decide +kernel
theorem dX12_rescue_202 : decode cX12_rescue 202 = .ok (.iconst 2, 1) := by decide +kernel
theorem dX12_rescue_203 : decode cX12_rescue 203 = .ok (.iaload, 1) := by decide +kernel
theorem dX12_rescue_204 : decode cX12_rescue 204 = .ok (.iload_n 2, 1) := by decide +kernel
theorem dX12_rescue_205 : decode cX12_rescue 205 = .ok (.invokestatic 218, 3) := by decide +kernel
theorem dX12_rescue_208 : decode cX12_rescue 208 = .ok (.isub, 1) := by decide +kernel
theorem dX12_rescue_209 : decode cX12_rescue 209 = .ok (.if_icmp .lt 6, 3) := by decide +kernel
theorem dX12_rescue_212 : decode cX12_rescue 212 = .ok (.ldc 195, 2) := by decide +kernel
theorem dX12_rescue_214 : decode cX12_rescue 214 = .ok (.ireturn, 1) := by decide +kernel
theorem dX12_rescue_215 : decode cX12_rescue 215 = .ok (.iload_n 2, 1) := by decide +kernel
theorem dX12_rescue_216 : decode cX12_rescue 216 = .ok (.istore 4, 2) := by decide +kernel
theorem dX12_rescue_218 : decode cX12_rescue 218 = .ok (.iconst 0, 1) := by decide +kernel
theorem dX12_rescue_219 : decode cX12_rescue 219 = .ok (.istore 5, 2) := by decide +kernel
theorem dX12_rescue_221 : decode cX12_rescue 221 = .ok (.iconst 0, 1) := by decide +kernel
theorem dX12_rescue_222 : decode cX12_rescue 222 = .ok (.istore 6, 2) := by decide +kernel
theorem dX12_rescue_224 : decode cX12_rescue 224 = .ok (.iload 6, 2) := by decide +kernel
theorem dX12_rescue_226 : decode cX12_rescue 226 = .ok (.iload_n 1, 1) := by decide +kernel
theorem dX12_rescue_227 : decode cX12_rescue 227 = .ok (.if_icmp .gt 52, 3) := by decide +kernel
theorem dX12_rescue_230 : decode cX12_rescue 230 = .ok (.iconst 0, 1) := by decide +kernel
theorem dX12_rescue_231 : decode cX12_rescue 231 = .ok (.istore 5, 2) := by decide +kernel
theorem dX12_rescue_233 : decode cX12_rescue 233 = .ok (.iload 4, 2) := by decide +kernel
theorem dX12_rescue_235 : decode cX12_rescue 235 = .ok (.iload 5, 2) := by decide +kernel
theorem dX12_rescue_237 : decode cX12_rescue 237 = .ok (.invokestatic 221, 3) := by decide +kernel
theorem dX12_rescue_240 : decode cX12_rescue 240 = .ok (.ifCond .ne 18, 3) := by decide +kernel
theorem dX12_rescue_243 : decode cX12_rescue 243 = .ok (.aload_n 0, 1) := by decide +kernel
theorem dX12_rescue_244 : decode cX12_rescue 244 = .ok (.getfield 32, 3) := by decide +kernel
theorem dX12_rescue_247 : decode cX12_rescue 247 = .ok (.iload 4, 2) := by decide +kernel
theorem dX12_rescue_249 : decode cX12_rescue 249 = .ok (.iconst 1, 1) := by decide +kernel
theorem dX12_rescue_250 : decode cX12_rescue 250 = .ok (.iload 5, 2) := by decide +kernel
theorem dX12_rescue_252 : decode cX12_rescue 252 = .ok (.ishl, 1) := by decide +kernel
theorem dX12_rescue_253 : decode cX12_rescue 253 = .ok (.ior, 1) := by decide +kernel
theorem dX12_rescue_254 : decode cX12_rescue 254 = .ok (.baload, 1) := by decide +kernel
theorem dX12_rescue_255 : decode cX12_rescue 255 = .ok (.ifCond .ne 9, 3) := by decide +kernel
theorem dX12_rescue_258 : decode cX12_rescue 258 = .ok (.iinc 5 1, 3) := by decide +kernel
theorem dX12_rescue_261 : decode cX12_rescue 261 = .ok (.goto (-28), 3) := by decide +kernel
theorem dX12_rescue_264 : decode cX12_rescue 264 = .ok (.iload 4, 2) := by decide +kernel
theorem dX12_rescue_266 : decode cX12_rescue 266 = .ok (.iconst 1, 1) := by decide +kernel
theorem dX12_rescue_267 : decode cX12_rescue 267 = .ok (.iload 5, 2) := by decide +kernel
theorem dX12_rescue_269 : decode cX12_rescue 269 = .ok (.ishl, 1) := by decide +kernel
theorem dX12_rescue_270 : decode cX12_rescue 270 = .ok (.ior, 1) := by decide +kernel
theorem dX12_rescue_271 : decode cX12_rescue 271 = .ok (.istore 4, 2) := by decide +kernel
theorem dX12_rescue_273 : decode cX12_rescue 273 = .ok (.iinc 6 1, 3) := by decide +kernel
theorem dX12_rescue_276 : decode cX12_rescue 276 = .ok (.goto (-52), 3) := by decide +kernel
theorem dX12_rescue_279 : decode cX12_rescue 279 = .ok (.iload 5, 2) := by decide +kernel
theorem dX12_rescue_281 : decode cX12_rescue 281 = .ok (.ireturn, 1) := by decide +kernel
theorem dX12_fall_0 : decode cX12_fall 0 = .ok (.aload_n 0, 1) := by decide +kernel
theorem dX12_fall_1 : decode cX12_fall 1 = .ok (.invokevirtual 188, 3) := by decide +kernel
theorem dX12_fall_4 : decode cX12_fall 4 = .ok (.ifCond .ne 6, 3) := by decide +kernel
theorem dX12_fall_7 : decode cX12_fall 7 = .ok (.ldc 192, 2) := by decide +kernel
theorem dX12_fall_9 : decode cX12_fall 9 = .ok (.ireturn, 1) := by decide +kernel
theorem dX12_fall_10 : decode cX12_fall 10 = .ok (.aload_n 0, 1) := by decide +kernel
theorem dX12_fall_11 : decode cX12_fall 11 = .ok (.iconst 0, 1) := by decide +kernel
theorem dX12_fall_12 : decode cX12_fall 12 = .ok (.sipush 200, 3) := by decide +kernel
theorem dX12_fall_15 : decode cX12_fall 15 = .ok (.invokevirtual 154, 3) := by decide +kernel
theorem dX12_fall_18 : decode cX12_fall 18 = .ok (.iconst 0, 1) := by decide +kernel
theorem dX12_fall_19 : decode cX12_fall 19 = .ok (.istore_n 1, 1) := by decide +kernel
theorem dX12_fall_20 : decode cX12_fall 20 = .ok (.iload_n 1, 1) := by decide +kernel
theorem dX12_fall_21 : decode cX12_fall 21 = .ok (.bipush 100, 2) := by decide +kernel
theorem dX12_fall_23 : decode cX12_fall 23 = .ok (.if_icmp .ge 34, 3) := by decide +kernel
theorem dX12_fall_26 : decode cX12_fall 26 = .ok (.aload_n 0, 1) := by decide +kernel
theorem dX12_fall_27 : decode cX12_fall 27 = .ok (.sipush 200, 3) := by decide +kernel
theorem dX12_fall_30 : decode cX12_fall 30 = .ok (.invokevirtual 200, 3) := by decide +kernel
theorem dX12_fall_33 : decode cX12_fall 33 = .ok (.aload_n 0, 1) := by decide +kernel
theorem dX12_fall_34 : decode cX12_fall 34 = .ok (.getfield 7, 3) := by decide +kernel
theorem dX12_fall_37 : decode cX12_fall 37 = .ok (.iconst 1, 1) := by decide +kernel
theorem dX12_fall_38 : decode cX12_fall 38 = .ok (.iaload, 1) := by decide +kernel
theorem dX12_fall_39 : decode cX12_fall 39 = .ok (.if_icmp .le 5, 3) := by decide +kernel
theorem dX12_fall_42 : decode cX12_fall 42 = .ok (.iload_n 1, 1) := by decide +kernel
theorem dX12_fall_43 : decode cX12_fall 43 = .ok (.ireturn, 1) := by decide +kernel
theorem dX12_fall_44 : decode cX12_fall 44 = .ok (.aload_n 0, 1) := by decide +kernel
theorem dX12_fall_45 : decode cX12_fall 45 = .ok (.sipush 200, 3) := by decide +kernel
theorem dX12_fall_48 : decode cX12_fall 48 = .ok (.invokevirtual 203, 3) := by decide +kernel
theorem dX12_fall_51 : decode cX12_fall 51 = .ok (.iinc 1 1, 3) := by decide +kernel
theorem dX12_fall_54 : decode cX12_fall 54 = .ok (.goto (-34), 3) := by decide +kernel
theorem dX12_fall_57 : decode cX12_fall 57 = .ok (.ldc 195, 2) := by decide +kernel
theorem dX12_fall_59 : decode cX12_fall 59 = .ok (.ireturn, 1) := by decide +kernel
theorem dX12_bells_0 : decode cX12_bells 0 = .ok (.iload_n 1, 1) := by decide +kernel
theorem dX12_bells_1 : decode cX12_bells 1 = .ok (.invokestatic 49, 3) := by decide +kernel
theorem dX12_bells_4 : decode cX12_bells 4 = .ok (.ifCond .eq 20, 3) := by decide +kernel
theorem dX12_bells_7 : decode cX12_bells 7 = .ok (.iload_n 2, 1) := by decide +kernel
theorem dX12_bells_8 : decode cX12_bells 8 = .ok (.i2l, 1) := by decide +kernel
theorem dX12_bells_9 : decode cX12_bells 9 = .ok (.lconst 1, 1) := by decide +kernel
theorem dX12_bells_10 : decode cX12_bells 10 = .ok (.ldc2_w 232, 3) := by decide +kernel
theorem dX12_bells_13 : decode cX12_bells 13 = .ok (.invokestatic 40, 3) := by decide +kernel
theorem dX12_bells_16 : decode cX12_bells 16 = .ok (.ifCond .eq 8, 3) := by decide +kernel
theorem dX12_bells_19 : decode cX12_bells 19 = .ok (.iload_n 3, 1) := by decide +kernel
theorem dX12_bells_20 : decode cX12_bells 20 = .ok (.iconst (-1), 1) := by decide +kernel
theorem dX12_bells_21 : decode cX12_bells 21 = .ok (.if_icmp .ge 6, 3) := by decide +kernel
theorem dX12_bells_24 : decode cX12_bells 24 = .ok (.ldc 55, 2) := by decide +kernel
theorem dX12_bells_26 : decode cX12_bells 26 = .ok (.ireturn, 1) := by decide +kernel
theorem dX12_bells_27 : decode cX12_bells 27 = .ok (.aload_n 0, 1) := by decide +kernel
theorem dX12_bells_28 : decode cX12_bells 28 = .ok (.getfield 20, 3) := by decide +kernel
theorem dX12_bells_31 : decode cX12_bells 31 = .ok (.iload_n 1, 1) := by decide +kernel
theorem dX12_bells_32 : decode cX12_bells 32 = .ok (.iaload, 1) := by decide +kernel
theorem dX12_bells_33 : decode cX12_bells 33 = .ok (.ifCond .ge 9, 3) := by decide +kernel
theorem dX12_bells_36 : decode cX12_bells 36 = .ok (.aload_n 0, 1) := by decide +kernel
theorem dX12_bells_37 : decode cX12_bells 37 = .ok (.iconst 1, 1) := by decide +kernel
theorem dX12_bells_38 : decode cX12_bells 38 = .ok (.invokevirtual 56, 3) := by decide +kernel
theorem dX12_bells_41 : decode cX12_bells 41 = .ok (.ireturn, 1) := by decide +kernel
theorem dX12_bells_42 : decode cX12_bells 42 = .ok (.aload_n 0, 1) := by decide +kernel
theorem dX12_bells_43 : decode cX12_bells 43 = .ok (.getfield 23, 3) := by decide +kernel
theorem dX12_bells_46 : decode cX12_bells 46 = .ok (.iload_n 1, 1) := by decide +kernel
theorem dX12_bells_47 : decode cX12_bells 47 = .ok (.iaload, 1) := by decide +kernel
theorem dX12_bells_48 : decode cX12_bells 48 = .ok (.iload_n 2, 1) := by decide +kernel
theorem dX12_bells_49 : decode cX12_bells 49 = .ok (.if_icmp .ge 9, 3) := by decide +kernel
theorem dX12_bells_52 : decode cX12_bells 52 = .ok (.aload_n 0, 1) := by decide +kernel
theorem dX12_bells_53 : decode cX12_bells 53 = .ok (.iconst 2, 1) := by decide +kernel
theorem dX12_bells_54 : decode cX12_bells 54 = .ok (.invokevirtual 56, 3) := by decide +kernel
theorem dX12_bells_57 : decode cX12_bells 57 = .ok (.ireturn, 1) := by decide +kernel
theorem dX12_bells_58 : decode cX12_bells 58 = .ok (.iconst 0, 1) := by decide +kernel
theorem dX12_bells_59 : decode cX12_bells 59 = .ok (.istore 4, 2) := by decide +kernel
theorem dX12_bells_61 : decode cX12_bells 61 = .ok (.iload 4, 2) := by decide +kernel
theorem dX12_bells_63 : decode cX12_bells 63 = .ok (.iload_n 2, 1) := by decide +kernel
theorem dX12_bells_64 : decode cX12_bells 64 = .ok (.if_icmp .ge 35, 3) := by decide +kernel
theorem dX12_bells_67 : decode cX12_bells 67 = .ok (.aload_n 0, 1) := by decide +kernel
theorem dX12_bells_68 : decode cX12_bells 68 = .ok (.getfield 17, 3) := by decide +kernel
theorem dX12_bells_71 : decode cX12_bells 71 = .ok (.bipush 40, 2) := by decide +kernel
theorem dX12_bells_73 : decode cX12_bells 73 = .ok (.iload_n 1, 1) := by decide +kernel
theorem dX12_bells_74 : decode cX12_bells 74 = .ok (.imul, 1) := by decide +kernel
theorem dX12_bells_75 : decode cX12_bells 75 = .ok (.iload 4, 2) := by decide +kernel
theorem dX12_bells_77 : decode cX12_bells 77 = .ok (.iadd, 1) := by decide +kernel
theorem dX12_bells_78 : decode cX12_bells 78 = .ok (.iaload, 1) := by decide +kernel
theorem dX12_bells_79 : decode cX12_bells 79 = .ok (.i2l, 1) := by decide +kernel
theorem dX12_bells_80 : decode cX12_bells 80 = .ok (.lconst 1, 1) := by decide +kernel
theorem dX12_bells_81 : decode cX12_bells 81 = .ok (.ldc2_w 234, 3) := by decide +kernel
theorem dX12_bells_84 : decode cX12_bells 84 = .ok (.invokestatic 40, 3) := by decide +kernel
theorem dX12_bells_87 : decode cX12_bells 87 = .ok (.ifCond .ne 6, 3) := by decide +kernel
theorem dX12_bells_90 : decode cX12_bells 90 = .ok (.ldc 55, 2) := by decide +kernel
theorem dX12_bells_92 : decode cX12_bells 92 = .ok (.ireturn, 1) := by decide +kernel
theorem dX12_bells_93 : decode cX12_bells 93 = .ok (.iinc 4 1, 3) := by decide +kernel
theorem dX12_bells_96 : decode cX12_bells 96 = .ok (.goto (-35), 3) := by decide +kernel
theorem dX12_bells_99 : decode cX12_bells 99 = .ok (.aload_n 0, 1) := by decide +kernel
theorem dX12_bells_100 : decode cX12_bells 100 = .ok (.iconst 0, 1) := by decide +kernel
theorem dX12_bells_101 : decode cX12_bells 101 = .ok (.invokevirtual 60, 3) := by decide +kernel
theorem dX12_bells_104 : decode cX12_bells 104 = .ok (.pop, 1) := by decide +kernel
theorem dX12_bells_105 : decode cX12_bells 105 = .ok (.iconst 1, 1) := by decide +kernel
theorem dX12_bells_106 : decode cX12_bells 106 = .ok (.istore 4, 2) := by decide +kernel
theorem dX12_bells_108 : decode cX12_bells 108 = .ok (.iconst 0, 1) := by decide +kernel
theorem dX12_bells_109 : decode cX12_bells 109 = .ok (.istore 5, 2) := by decide +kernel
theorem dX12_bells_111 : decode cX12_bells 111 = .ok (.iload 5, 2) := by decide +kernel
theorem dX12_bells_113 : decode cX12_bells 113 = .ok (.iload_n 2, 1) := by decide +kernel
theorem dX12_bells_114 : decode cX12_bells 114 = .ok (.if_icmp .ge 15, 3) := by decide +kernel
theorem dX12_bells_117 : decode cX12_bells 117 = .ok (.iload 4, 2) := by decide +kernel
theorem dX12_bells_119 : decode cX12_bells 119 = .ok (.iload_n 2, 1) := by decide +kernel
theorem dX12_bells_120 : decode cX12_bells 120 = .ok (.imul, 1) := by decide +kernel
theorem dX12_bells_121 : decode cX12_bells 121 = .ok (.istore 4, 2) := by decide +kernel
theorem dX12_bells_123 : decode cX12_bells 123 = .ok (.iinc 5 1, 3) := by decide +kernel
theorem dX12_bells_126 : decode cX12_bells 126 = .ok (.goto (-15), 3) := by decide +kernel
theorem dX12_bells_129 : decode cX12_bells 129 = .ok (.iconst (-1), 1) := by decide +kernel
theorem dX12_bells_130 : decode cX12_bells 130 = .ok (.istore 5, 2) := by decide +kernel
theorem dX12_bells_132 : decode cX12_bells 132 = .ok (.iconst 0, 1) := by decide +kernel
theorem dX12_bells_133 : decode cX12_bells 133 = .ok (.istore 6, 2) := by decide +kernel
theorem dX12_bells_135 : decode cX12_bells 135 = .ok (.iconst 0, 1) := by decide +kernel
theorem dX12_bells_136 : decode cX12_bells 136 = .ok (.istore 7, 2) := by decide +kernel
theorem dX12_bells_138 : decode cX12_bells 138 = .ok (.iload 7, 2) := by decide +kernel
theorem dX12_bells_140 : decode cX12_bells 140 = .ok (.iload 4, 2) := by decide +kernel
theorem dX12_bells_142 : decode cX12_bells 142 = .ok (.if_icmp .ge 143, 3) := by decide +kernel
theorem dX12_bells_145 : decode cX12_bells 145 = .ok (.iconst 0, 1) := by decide +kernel
theorem dX12_bells_146 : decode cX12_bells 146 = .ok (.istore 8, 2) := by decide +kernel
theorem dX12_bells_148 : decode cX12_bells 148 = .ok (.iload 4, 2) := by decide +kernel
theorem dX12_bells_150 : decode cX12_bells 150 = .ok (.istore 9, 2) := by decide +kernel
theorem dX12_bells_152 : decode cX12_bells 152 = .ok (.iconst 0, 1) := by decide +kernel
theorem dX12_bells_153 : decode cX12_bells 153 = .ok (.istore 10, 2) := by decide +kernel
theorem dX12_bells_155 : decode cX12_bells 155 = .ok (.iconst 0, 1) := by decide +kernel
theorem dX12_bells_156 : decode cX12_bells 156 = .ok (.istore 11, 2) := by decide +kernel
theorem dX12_bells_158 : decode cX12_bells 158 = .ok (.iconst 0, 1) := by decide +kernel
theorem dX12_bells_159 : decode cX12_bells 159 = .ok (.istore 12, 2) := by decide +kernel
theorem dX12_bells_161 : decode cX12_bells 161 = .ok (.iload 12, 2) := by decide +kernel
theorem dX12_bells_163 : decode cX12_bells 163 = .ok (.iload_n 2, 1) := by decide +kernel
theorem dX12_bells_164 : decode cX12_bells 164 = .ok (.if_icmp .ge 85, 3) := by decide +kernel
theorem dX12_bells_167 : decode cX12_bells 167 = .ok (.iload 9, 2) := by decide +kernel
theorem dX12_bells_169 : decode cX12_bells 169 = .ok (.iload_n 2, 1) := by decide +kernel
theorem dX12_bells_170 : decode cX12_bells 170 = .ok (.idiv, 1) := by decide +kernel
theorem dX12_bells_171 : decode cX12_bells 171 = .ok (.istore 9, 2) := by decide +kernel
theorem dX12_bells_173 : decode cX12_bells 173 = .ok (.iload 7, 2) := by decide +kernel
theorem dX12_bells_175 : decode cX12_bells 175 = .ok (.iload 9, 2) := by decide +kernel
theorem dX12_bells_177 : decode cX12_bells 177 = .ok (.idiv, 1) := by decide +kernel
theorem dX12_bells_178 : decode cX12_bells 178 = .ok (.iload_n 2, 1) := by decide +kernel
theorem dX12_bells_179 : decode cX12_bells 179 = .ok (.irem, 1) := by decide +kernel
theorem dX12_bells_180 : decode cX12_bells 180 = .ok (.istore 13, 2) := by decide +kernel
theorem dX12_bells_182 : decode cX12_bells 182 = .ok (.iload 8, 2) := by decide +kernel
theorem dX12_bells_184 : decode cX12_bells 184 = .ok (.iconst 1, 1) := by decide +kernel
theorem dX12_bells_185 : decode cX12_bells 185 = .ok (.iload 13, 2) := by decide +kernel
theorem dX12_bells_187 : decode cX12_bells 187 = .ok (.ishl, 1) := by decide +kernel
theorem dX12_bells_188 : decode cX12_bells 188 = .ok (.ior, 1) := by decide +kernel
theorem dX12_bells_189 : decode cX12_bells 189 = .ok (.istore 8, 2) := by decide +kernel
theorem dX12_bells_191 : decode cX12_bells 191 = .ok (.iload 10, 2) := by decide +kernel
theorem dX12_bells_193 : decode cX12_bells 193 = .ok (.iload 12, 2) := by decide +kernel
theorem dX12_bells_195 : decode cX12_bells 195 = .ok (.iconst 2, 1) := by decide +kernel
theorem dX12_bells_196 : decode cX12_bells 196 = .ok (.irem, 1) := by decide +kernel
theorem dX12_bells_197 : decode cX12_bells 197 = .ok (.ifCond .ne 18, 3) := by decide +kernel
theorem dX12_bells_200 : decode cX12_bells 200 = .ok (.aload_n 0, 1) := by decide +kernel
theorem dX12_bells_201 : decode cX12_bells 201 = .ok (.getfield 17, 3) := by decide +kernel
theorem dX12_bells_204 : decode cX12_bells 204 = .ok (.bipush 40, 2) := by decide +kernel
theorem dX12_bells_206 : decode cX12_bells 206 = .ok (.iload_n 1, 1) := by decide +kernel
theorem dX12_bells_207 : decode cX12_bells 207 = .ok (.imul, 1) := by decide +kernel
theorem dX12_bells_208 : decode cX12_bells 208 = .ok (.iload 13, 2) := by decide +kernel
theorem dX12_bells_210 : decode cX12_bells 210 = .ok (.iadd, 1) := by decide +kernel
theorem dX12_bells_211 : decode cX12_bells 211 = .ok (.iaload, 1) := by decide +kernel
theorem dX12_bells_212 : decode cX12_bells 212 = .ok (.goto 16, 3) := by decide +kernel
theorem dX12_bells_215 : decode cX12_bells 215 = .ok (.aload_n 0, 1) := by decide +kernel
theorem dX12_bells_216 : decode cX12_bells 216 = .ok (.getfield 17, 3) := by decide +kernel
theorem dX12_bells_219 : decode cX12_bells 219 = .ok (.bipush 40, 2) := by decide +kernel
theorem dX12_bells_221 : decode cX12_bells 221 = .ok (.iload_n 1, 1) := by decide +kernel
theorem dX12_bells_222 : decode cX12_bells 222 = .ok (.imul, 1) := by decide +kernel
theorem dX12_bells_223 : decode cX12_bells 223 = .ok (.iload 13, 2) := by decide +kernel
theorem dX12_bells_225 : decode cX12_bells 225 = .ok (.iadd, 1) := by decide +kernel
theorem dX12_bells_226 : decode cX12_bells 226 = .ok (.iaload, 1) := by decide +kernel
theorem dX12_bells_227 : decode cX12_bells 227 = .ok (.ineg, 1) := by decide +kernel
theorem dX12_bells_228 : decode cX12_bells 228 = .ok (.iadd, 1) := by decide +kernel
theorem dX12_bells_229 : decode cX12_bells 229 = .ok (.istore 10, 2) := by decide +kernel
theorem dX12_bells_231 : decode cX12_bells 231 = .ok (.iload 11, 2) := by decide +kernel
theorem dX12_bells_233 : decode cX12_bells 233 = .ok (.iload 10, 2) := by decide +kernel
theorem dX12_bells_235 : decode cX12_bells 235 = .ok (.invokestatic 174, 3) := by decide +kernel
theorem dX12_bells_238 : decode cX12_bells 238 = .ok (.invokestatic 177, 3) := by decide +kernel
theorem dX12_bells_241 : decode cX12_bells 241 = .ok (.istore 11, 2) := by decide +kernel
theorem dX12_bells_243 : decode cX12_bells 243 = .ok (.iinc 12 1, 3) := by decide +kernel
theorem dX12_bells_246 : decode cX12_bells 246 = .ok (.goto (-85), 3) := by decide +kernel
theorem dX12_bells_249 : decode cX12_bells 249 = .ok (.iload 8, 2) := by decide +kernel
theorem dX12_bells_251 : decode cX12_bells 251 = .ok (.iconst 1, 1) := by decide +kernel
theorem dX12_bells_252 : decode cX12_bells 252 = .ok (.iload_n 2, 1) := by decide +kernel
theorem dX12_bells_253 : decode cX12_bells 253 = .ok (.ishl, 1) := by decide +kernel
theorem dX12_bells_254 : decode cX12_bells 254 = .ok (.iconst 1, 1) := by decide +kernel
theorem dX12_bells_255 : decode cX12_bells 255 = .ok (.isub, 1) := by decide +kernel
theorem dX12_bells_256 : decode cX12_bells 256 = .ok (.if_icmp .ne 23, 3) := by decide +kernel
theorem dX12_bells_259 : decode cX12_bells 259 = .ok (.iload 5, 2) := by decide +kernel
theorem dX12_bells_261 : decode cX12_bells 261 = .ok (.ifCond .lt 10, 3) := by decide +kernel
theorem dX12_bells_264 : decode cX12_bells 264 = .ok (.iload 11, 2) := by decide +kernel
theorem dX12_bells_266 : decode cX12_bells 266 = .ok (.iload 6, 2) := by decide +kernel
theorem dX12_bells_268 : decode cX12_bells 268 = .ok (.if_icmp .ge 11, 3) := by decide +kernel
theorem dX12_bells_271 : decode cX12_bells 271 = .ok (.iload 7, 2) := by decide +kernel
theorem dX12_bells_273 : decode cX12_bells 273 = .ok (.istore 5, 2) := by decide +kernel
theorem dX12_bells_275 : decode cX12_bells 275 = .ok (.iload 11, 2) := by decide +kernel
theorem dX12_bells_277 : decode cX12_bells 277 = .ok (.istore 6, 2) := by decide +kernel
theorem dX12_bells_279 : decode cX12_bells 279 = .ok (.iinc 7 1, 3) := by decide +kernel
theorem dX12_bells_282 : decode cX12_bells 282 = .ok (.goto (-144), 3) := by decide +kernel
theorem dX12_bells_285 : decode cX12_bells 285 = .ok (.iload_n 3, 1) := by decide +kernel
theorem dX12_bells_286 : decode cX12_bells 286 = .ok (.ifCond .ge 6, 3) := by decide +kernel
theorem dX12_bells_289 : decode cX12_bells 289 = .ok (.iload 6, 2) := by decide +kernel
theorem dX12_bells_291 : decode cX12_bells 291 = .ok (.ireturn, 1) := by decide +kernel
theorem dX12_bells_292 : decode cX12_bells 292 = .ok (.iload 4, 2) := by decide +kernel
theorem dX12_bells_294 : decode cX12_bells 294 = .ok (.istore 7, 2) := by decide +kernel
theorem dX12_bells_296 : decode cX12_bells 296 = .ok (.iconst 0, 1) := by decide +kernel
theorem dX12_bells_297 : decode cX12_bells 297 = .ok (.istore 8, 2) := by decide +kernel
theorem dX12_bells_299 : decode cX12_bells 299 = .ok (.iload 8, 2) := by decide +kernel
theorem dX12_bells_301 : decode cX12_bells 301 = .ok (.iload_n 3, 1) := by decide +kernel
theorem dX12_bells_302 : decode cX12_bells 302 = .ok (.if_icmp .gt 21, 3) := by decide +kernel
theorem dX12_bells_305 : decode cX12_bells 305 = .ok (.iload 8, 2) := by decide +kernel
theorem dX12_bells_307 : decode cX12_bells 307 = .ok (.iload_n 2, 1) := by decide +kernel
theorem dX12_bells_308 : decode cX12_bells 308 = .ok (.if_icmp .ge 15, 3) := by decide +kernel
theorem dX12_bells_311 : decode cX12_bells 311 = .ok (.iload 7, 2) := by decide +kernel
theorem dX12_bells_313 : decode cX12_bells 313 = .ok (.iload_n 2, 1) := by decide +kernel
theorem dX12_bells_314 : decode cX12_bells 314 = .ok (.idiv, 1) := by decide +kernel
theorem dX12_bells_315 : decode cX12_bells 315 = .ok (.istore 7, 2) := by decide +kernel
theorem dX12_bells_317 : decode cX12_bells 317 = .ok (.iinc 8 1, 3) := by decide +kernel
theorem dX12_bells_320 : decode cX12_bells 320 = .ok (.goto (-21), 3) := by decide +kernel
theorem dX12_bells_323 : decode cX12_bells 323 = .ok (.iload_n 3, 1) := by decide +kernel
theorem dX12_bells_324 : decode cX12_bells 324 = .ok (.iload_n 2, 1) := by decide +kernel
theorem dX12_bells_325 : decode cX12_bells 325 = .ok (.if_icmp .ge 13, 3) := by decide +kernel
theorem dX12_bells_328 : decode cX12_bells 328 = .ok (.iload 5, 2) := by decide +kernel
theorem dX12_bells_330 : decode cX12_bells 330 = .ok (.iload 7, 2) := by decide +kernel
theorem dX12_bells_332 : decode cX12_bells 332 = .ok (.idiv, 1) := by decide +kernel
theorem dX12_bells_333 : decode cX12_bells 333 = .ok (.iload_n 2, 1) := by decide +kernel
theorem dX12_bells_334 : decode cX12_bells 334 = .ok (.irem, 1) := by decide +kernel
theorem dX12_bells_335 : decode cX12_bells 335 = .ok (.goto 5, 3) := by decide +kernel
theorem dX12_bells_338 : decode cX12_bells 338 = .ok (.ldc 195, 2) := by decide +kernel
theorem dX12_bells_340 : decode cX12_bells 340 = .ok (.ireturn, 1) := by decide +kernel
theorem dX12_image_0 : decode cX12_image 0 = .ok (.iload_n 1, 1) := by decide +kernel
theorem dX12_image_1 : decode cX12_image 1 = .ok (.i2l, 1) := by decide +kernel
theorem dX12_image_2 : decode cX12_image 2 = .ok (.lconst 0, 1) := by decide +kernel
theorem dX12_image_3 : decode cX12_image 3 = .ok (.lconst 1, 1) := by decide +kernel
theorem dX12_image_4 : decode cX12_image 4 = .ok (.invokestatic 40, 3) := by decide +kernel
theorem dX12_image_7 : decode cX12_image 7 = .ok (.ifCond .ne 6, 3) := by decide +kernel
theorem dX12_image_10 : decode cX12_image 10 = .ok (.ldc 55, 2) := by decide +kernel
theorem dX12_image_12 : decode cX12_image 12 = .ok (.ireturn, 1) := by decide +kernel
theorem dX12_image_13 : decode cX12_image 13 = .ok (.aload_n 0, 1) := by decide +kernel
theorem dX12_image_14 : decode cX12_image 14 = .ok (.invokevirtual 188, 3) := by decide +kernel
theorem dX12_image_17 : decode cX12_image 17 = .ok (.ifCond .ne 6, 3) := by decide +kernel
theorem dX12_image_20 : decode cX12_image 20 = .ok (.ldc 192, 2) := by decide +kernel
theorem dX12_image_22 : decode cX12_image 22 = .ok (.ireturn, 1) := by decide +kernel
theorem dX12_image_23 : decode cX12_image 23 = .ok (.aload_n 0, 1) := by decide +kernel
theorem dX12_image_24 : decode cX12_image 24 = .ok (.iconst 0, 1) := by decide +kernel
theorem dX12_image_25 : decode cX12_image 25 = .ok (.bipush 50, 2) := by decide +kernel
theorem dX12_image_27 : decode cX12_image 27 = .ok (.iconst 1, 1) := by decide +kernel
theorem dX12_image_28 : decode cX12_image 28 = .ok (.iload_n 1, 1) := by decide +kernel
theorem dX12_image_29 : decode cX12_image 29 = .ok (.iadd, 1) := by decide +kernel
theorem dX12_image_30 : decode cX12_image 30 = .ok (.imul, 1) := by decide +kernel
theorem dX12_image_31 : decode cX12_image 31 = .ok (.invokevirtual 154, 3) := by decide +kernel
theorem dX12_image_34 : decode cX12_image 34 = .ok (.aload_n 0, 1) := by decide +kernel
theorem dX12_image_35 : decode cX12_image 35 = .ok (.getfield 13, 3) := by decide +kernel
theorem dX12_image_38 : decode cX12_image 38 = .ok (.iload_n 1, 1) := by decide +kernel
theorem dX12_image_39 : decode cX12_image 39 = .ok (.iconst 1, 1) := by decide +kernel
theorem dX12_image_40 : decode cX12_image 40 = .ok (.bastore, 1) := by decide +kernel
theorem dX12_image_41 : decode cX12_image 41 = .ok (.iconst 1, 1) := by decide +kernel
theorem dX12_image_42 : decode cX12_image 42 = .ok (.ireturn, 1) := by decide +kernel
theorem dX12_restore_0 : decode cX12_restore 0 = .ok (.iload_n 1, 1) := by decide +kernel
theorem dX12_restore_1 : decode cX12_restore 1 = .ok (.i2l, 1) := by decide +kernel
theorem dX12_restore_2 : decode cX12_restore 2 = .ok (.lconst 0, 1) := by decide +kernel
theorem dX12_restore_3 : decode cX12_restore 3 = .ok (.lconst 1, 1) := by decide +kernel
theorem dX12_restore_4 : decode cX12_restore 4 = .ok (.invokestatic 40, 3) := by decide +kernel
theorem dX12_restore_7 : decode cX12_restore 7 = .ok (.ifCond .ne 6, 3) := by decide +kernel
theorem dX12_restore_10 : decode cX12_restore 10 = .ok (.ldc 55, 2) := by decide +kernel
theorem dX12_restore_12 : decode cX12_restore 12 = .ok (.ireturn, 1) := by decide +kernel
theorem dX12_restore_13 : decode cX12_restore 13 = .ok (.aload_n 0, 1) := by decide +kernel
theorem dX12_restore_14 : decode cX12_restore 14 = .ok (.getfield 13, 3) := by decide +kernel
theorem dX12_restore_17 : decode cX12_restore 17 = .ok (.iload_n 1, 1) := by decide +kernel
theorem dX12_restore_18 : decode cX12_restore 18 = .ok (.baload, 1) := by decide +kernel
theorem dX12_restore_19 : decode cX12_restore 19 = .ok (.ifCond .ne 6, 3) := by decide +kernel
theorem dX12_restore_22 : decode cX12_restore 22 = .ok (.ldc 192, 2) := by decide +kernel
theorem dX12_restore_24 : decode cX12_restore 24 = .ok (.ireturn, 1) := by decide +kernel
theorem dX12_restore_25 : decode cX12_restore 25 = .ok (.aload_n 0, 1) := by decide +kernel
theorem dX12_restore_26 : decode cX12_restore 26 = .ok (.bipush 50, 2) := by decide +kernel
theorem dX12_restore_28 : decode cX12_restore 28 = .ok (.iconst 1, 1) := by decide +kernel
theorem dX12_restore_29 : decode cX12_restore 29 = .ok (.iload_n 1, 1) := by decide +kernel
theorem dX12_restore_30 : decode cX12_restore 30 = .ok (.iadd, 1) := by decide +kernel
theorem dX12_restore_31 : decode cX12_restore 31 = .ok (.imul, 1) := by decide +kernel
theorem dX12_restore_32 : decode cX12_restore 32 = .ok (.iconst 0, 1) := by decide +kernel
theorem dX12_restore_33 : decode cX12_restore 33 = .ok (.invokevirtual 154, 3) := by decide +kernel
theorem dX12_restore_36 : decode cX12_restore 36 = .ok (.aload_n 0, 1) := by decide +kernel
theorem dX12_restore_37 : decode cX12_restore 37 = .ok (.iconst 0, 1) := by decide +kernel
theorem dX12_restore_38 : decode cX12_restore 38 = .ok (.putfield 158, 3) := by decide +kernel
theorem dX12_restore_41 : decode cX12_restore 41 = .ok (.iconst 1, 1) := by decide +kernel
theorem dX12_restore_42 : decode cX12_restore 42 = .ok (.ireturn, 1) := by decide +kernel
theorem dX12_kind_0 : decode cX12_kind 0 = .ok (.aload_n 0, 1) := by decide +kernel
theorem dX12_kind_1 : decode cX12_kind 1 = .ok (.iload_n 1, 1) := by decide +kernel
theorem dX12_kind_2 : decode cX12_kind 2 = .ok (.invokevirtual 180, 3) := by decide +kernel
theorem dX12_kind_5 : decode cX12_kind 5 = .ok (.ifCond .eq 14, 3) := by decide +kernel
theorem dX12_kind_8 : decode cX12_kind 8 = .ok (.aload_n 0, 1) := by decide +kernel
theorem dX12_kind_9 : decode cX12_kind 9 = .ok (.getfield 7, 3) := by decide +kernel
theorem dX12_kind_12 : decode cX12_kind 12 = .ok (.iconst 3, 1) := by decide +kernel
theorem dX12_kind_13 : decode cX12_kind 13 = .ok (.iload_n 1, 1) := by decide +kernel
theorem dX12_kind_14 : decode cX12_kind 14 = .ok (.iadd, 1) := by decide +kernel
theorem dX12_kind_15 : decode cX12_kind 15 = .ok (.iaload, 1) := by decide +kernel
theorem dX12_kind_16 : decode cX12_kind 16 = .ok (.goto 5, 3) := by decide +kernel
theorem dX12_kind_19 : decode cX12_kind 19 = .ok (.ldc 55, 2) := by decide +kernel
theorem dX12_kind_21 : decode cX12_kind 21 = .ok (.ireturn, 1) := by decide +kernel
theorem dX12_isOf_0 : decode cX12_isOf 0 = .ok (.iload_n 1, 1) := by decide +kernel
theorem dX12_isOf_1 : decode cX12_isOf 1 = .ok (.ifCond .eq 28, 3) := by decide +kernel
theorem dX12_isOf_4 : decode cX12_isOf 4 = .ok (.iload_n 0, 1) := by decide +kernel
theorem dX12_isOf_5 : decode cX12_isOf 5 = .ok (.iload_n 1, 1) := by decide +kernel
theorem dX12_isOf_6 : decode cX12_isOf 6 = .ok (.if_icmp .eq 23, 3) := by decide +kernel
theorem dX12_isOf_9 : decode cX12_isOf 9 = .ok (.iload_n 1, 1) := by decide +kernel
theorem dX12_isOf_10 : decode cX12_isOf 10 = .ok (.iconst 1, 1) := by decide +kernel
theorem dX12_isOf_11 : decode cX12_isOf 11 = .ok (.if_icmp .ne 8, 3) := by decide +kernel
theorem dX12_isOf_14 : decode cX12_isOf 14 = .ok (.iload_n 0, 1) := by decide +kernel
theorem dX12_isOf_15 : decode cX12_isOf 15 = .ok (.iconst 3, 1) := by decide +kernel
theorem dX12_isOf_16 : decode cX12_isOf 16 = .ok (.if_icmp .le 13, 3) := by decide +kernel
theorem dX12_isOf_19 : decode cX12_isOf 19 = .ok (.iload_n 1, 1) := by decide +kernel
theorem dX12_isOf_20 : decode cX12_isOf 20 = .ok (.iconst 4, 1) := by decide +kernel
theorem dX12_isOf_21 : decode cX12_isOf 21 = .ok (.if_icmp .ne 12, 3) := by decide +kernel
theorem dX12_isOf_24 : decode cX12_isOf 24 = .ok (.iload_n 0, 1) := by decide +kernel
theorem dX12_isOf_25 : decode cX12_isOf 25 = .ok (.iconst 5, 1) := by decide +kernel
theorem dX12_isOf_26 : decode cX12_isOf 26 = .ok (.if_icmp .ne 7, 3) := by decide +kernel
theorem dX12_isOf_29 : decode cX12_isOf 29 = .ok (.iconst 1, 1) := by decide +kernel
theorem dX12_isOf_30 : decode cX12_isOf 30 = .ok (.goto 4, 3) := by decide +kernel
theorem dX12_isOf_33 : decode cX12_isOf 33 = .ok (.iconst 0, 1) := by decide +kernel
theorem dX12_isOf_34 : decode cX12_isOf 34 = .ok (.ireturn, 1) := by decide +kernel
theorem dX12_as_0 : decode cX12_as 0 = .ok (.aload_n 0, 1) := by decide +kernel
theorem dX12_as_1 : decode cX12_as 1 = .ok (.iload_n 1, 1) := by decide +kernel
theorem dX12_as_2 : decode cX12_as 2 = .ok (.invokevirtual 180, 3) := by decide +kernel
theorem dX12_as_5 : decode cX12_as 5 = .ok (.ifCond .eq 15, 3) := by decide +kernel
theorem dX12_as_8 : decode cX12_as 8 = .ok (.iload_n 2, 1) := by decide +kernel
theorem dX12_as_9 : decode cX12_as 9 = .ok (.i2l, 1) := by decide +kernel
theorem dX12_as_10 : decode cX12_as 10 = .ok (.lconst 0, 1) := by decide +kernel
theorem dX12_as_11 : decode cX12_as 11 = .ok (.ldc2_w 232, 3) := by decide +kernel
theorem dX12_as_14 : decode cX12_as 14 = .ok (.invokestatic 40, 3) := by decide +kernel
theorem dX12_as_17 : decode cX12_as 17 = .ok (.ifCond .ne 6, 3) := by decide +kernel
theorem dX12_as_20 : decode cX12_as 20 = .ok (.ldc 55, 2) := by decide +kernel
theorem dX12_as_22 : decode cX12_as 22 = .ok (.ireturn, 1) := by decide +kernel
theorem dX12_as_23 : decode cX12_as 23 = .ok (.aload_n 0, 1) := by decide +kernel
theorem dX12_as_24 : decode cX12_as 24 = .ok (.getfield 7, 3) := by decide +kernel
theorem dX12_as_27 : decode cX12_as 27 = .ok (.iconst 3, 1) := by decide +kernel
theorem dX12_as_28 : decode cX12_as 28 = .ok (.iload_n 1, 1) := by decide +kernel
theorem dX12_as_29 : decode cX12_as 29 = .ok (.iadd, 1) := by decide +kernel
theorem dX12_as_30 : decode cX12_as 30 = .ok (.iaload, 1) := by decide +kernel
theorem dX12_as_31 : decode cX12_as 31 = .ok (.iload_n 2, 1) := by decide +kernel
theorem dX12_as_32 : decode cX12_as 32 = .ok (.invokestatic 236, 3) := by decide +kernel
theorem dX12_as_35 : decode cX12_as 35 = .ok (.ifCond .eq 11, 3) := by decide +kernel
theorem dX12_as_38 : decode cX12_as 38 = .ok (.aload_n 0, 1) := by decide +kernel
theorem dX12_as_39 : decode cX12_as 39 = .ok (.iload_n 1, 1) := by decide +kernel
theorem dX12_as_40 : decode cX12_as 40 = .ok (.invokevirtual 60, 3) := by decide +kernel
theorem dX12_as_43 : decode cX12_as 43 = .ok (.goto 8, 3) := by decide +kernel
theorem dX12_as_46 : decode cX12_as 46 = .ok (.aload_n 0, 1) := by decide +kernel
theorem dX12_as_47 : decode cX12_as 47 = .ok (.iconst 3, 1) := by decide +kernel
theorem dX12_as_48 : decode cX12_as 48 = .ok (.invokevirtual 56, 3) := by decide +kernel
theorem dX12_as_51 : decode cX12_as 51 = .ok (.ireturn, 1) := by decide +kernel
theorem dX12_leaves_0 : decode cX12_leaves 0 = .ok (.aload_n 0, 1) := by decide +kernel
theorem dX12_leaves_1 : decode cX12_leaves 1 = .ok (.getfield 35, 3) := by decide +kernel
theorem dX12_leaves_4 : decode cX12_leaves 4 = .ok (.aload_n 0, 1) := by decide +kernel
theorem dX12_leaves_5 : decode cX12_leaves 5 = .ok (.getfield 239, 3) := by decide +kernel
theorem dX12_leaves_8 : decode cX12_leaves 8 = .ok (.iload_n 1, 1) := by decide +kernel
theorem dX12_leaves_9 : decode cX12_leaves 9 = .ok (.iastore, 1) := by decide +kernel
theorem dX12_leaves_10 : decode cX12_leaves 10 = .ok (.aload_n 0, 1) := by decide +kernel
theorem dX12_leaves_11 : decode cX12_leaves 11 = .ok (.getfield 35, 3) := by decide +kernel
theorem dX12_leaves_14 : decode cX12_leaves 14 = .ok (.aload_n 0, 1) := by decide +kernel
theorem dX12_leaves_15 : decode cX12_leaves 15 = .ok (.getfield 239, 3) := by decide +kernel
theorem dX12_leaves_18 : decode cX12_leaves 18 = .ok (.iconst 1, 1) := by decide +kernel
theorem dX12_leaves_19 : decode cX12_leaves 19 = .ok (.iadd, 1) := by decide +kernel
theorem dX12_leaves_20 : decode cX12_leaves 20 = .ok (.iload_n 2, 1) := by decide +kernel
theorem dX12_leaves_21 : decode cX12_leaves 21 = .ok (.iastore, 1) := by decide +kernel
theorem dX12_leaves_22 : decode cX12_leaves 22 = .ok (.aload_n 0, 1) := by decide +kernel
theorem dX12_leaves_23 : decode cX12_leaves 23 = .ok (.getfield 35, 3) := by decide +kernel
theorem dX12_leaves_26 : decode cX12_leaves 26 = .ok (.aload_n 0, 1) := by decide +kernel
theorem dX12_leaves_27 : decode cX12_leaves 27 = .ok (.getfield 239, 3) := by decide +kernel
theorem dX12_leaves_30 : decode cX12_leaves 30 = .ok (.iconst 2, 1) := by decide +kernel
theorem dX12_leaves_31 : decode cX12_leaves 31 = .ok (.iadd, 1) := by decide +kernel
theorem dX12_leaves_32 : decode cX12_leaves 32 = .ok (.iload_n 3, 1) := by decide +kernel
theorem dX12_leaves_33 : decode cX12_leaves 33 = .ok (.iastore, 1) := by decide +kernel
theorem dX12_leaves_34 : decode cX12_leaves 34 = .ok (.aload_n 0, 1) := by decide +kernel
theorem dX12_leaves_35 : decode cX12_leaves 35 = .ok (.dup, 1) := by decide +kernel
theorem dX12_leaves_36 : decode cX12_leaves 36 = .ok (.getfield 239, 3) := by decide +kernel
theorem dX12_leaves_39 : decode cX12_leaves 39 = .ok (.iload_n 3, 1) := by decide +kernel
theorem dX12_leaves_40 : decode cX12_leaves 40 = .ok (.ifCond .le 7, 3) := by decide +kernel
theorem dX12_leaves_43 : decode cX12_leaves 43 = .ok (.iconst 3, 1) := by decide +kernel
theorem dX12_leaves_44 : decode cX12_leaves 44 = .ok (.goto 12, 3) := by decide +kernel
theorem dX12_leaves_47 : decode cX12_leaves 47 = .ok (.iload_n 2, 1) := by decide +kernel
theorem dX12_leaves_48 : decode cX12_leaves 48 = .ok (.ifCond .le 7, 3) := by decide +kernel
theorem dX12_leaves_51 : decode cX12_leaves 51 = .ok (.iconst 2, 1) := by decide +kernel
theorem dX12_leaves_52 : decode cX12_leaves 52 = .ok (.goto 4, 3) := by decide +kernel
theorem dX12_leaves_55 : decode cX12_leaves 55 = .ok (.iconst 1, 1) := by decide +kernel
theorem dX12_leaves_56 : decode cX12_leaves 56 = .ok (.iadd, 1) := by decide +kernel
theorem dX12_leaves_57 : decode cX12_leaves 57 = .ok (.putfield 239, 3) := by decide +kernel
theorem dX12_leaves_60 : decode cX12_leaves 60 = .ok (.return_, 1) := by decide +kernel
theorem dX12_plainMark_0 : decode cX12_plainMark 0 = .ok (.iload_n 1, 1) := by decide +kernel
theorem dX12_plainMark_1 : decode cX12_plainMark 1 = .ok (.aload_n 0, 1) := by decide +kernel
theorem dX12_plainMark_2 : decode cX12_plainMark 2 = .ok (.getfield 7, 3) := by decide +kernel
theorem dX12_plainMark_5 : decode cX12_plainMark 5 = .ok (.bipush 17, 2) := by decide +kernel
theorem dX12_plainMark_7 : decode cX12_plainMark 7 = .ok (.iload_n 1, 1) := by decide +kernel
theorem dX12_plainMark_8 : decode cX12_plainMark 8 = .ok (.iadd, 1) := by decide +kernel
theorem dX12_plainMark_9 : decode cX12_plainMark 9 = .ok (.iaload, 1) := by decide +kernel
theorem dX12_plainMark_10 : decode cX12_plainMark 10 = .ok (.iadd, 1) := by decide +kernel
theorem dX12_plainMark_11 : decode cX12_plainMark 11 = .ok (.istore_n 2, 1) := by decide +kernel
theorem dX12_plainMark_12 : decode cX12_plainMark 12 = .ok (.aload_n 0, 1) := by decide +kernel
theorem dX12_plainMark_13 : decode cX12_plainMark 13 = .ok (.getfield 7, 3) := by decide +kernel
theorem dX12_plainMark_16 : decode cX12_plainMark 16 = .ok (.iconst 3, 1) := by decide +kernel
theorem dX12_plainMark_17 : decode cX12_plainMark 17 = .ok (.iload_n 1, 1) := by decide +kernel
theorem dX12_plainMark_18 : decode cX12_plainMark 18 = .ok (.iadd, 1) := by decide +kernel
theorem dX12_plainMark_19 : decode cX12_plainMark 19 = .ok (.iaload, 1) := by decide +kernel
theorem dX12_plainMark_20 : decode cX12_plainMark 20 = .ok (.lookupswitch 58 #[(2, 28), (3, 44)], 28) := by decide +kernel
theorem dX12_plainMark_48 : decode cX12_plainMark 48 = .ok (.aload_n 0, 1) := by decide +kernel
theorem dX12_plainMark_49 : decode cX12_plainMark 49 = .ok (.bipush 22, 2) := by decide +kernel
theorem dX12_plainMark_51 : decode cX12_plainMark 51 = .ok (.bipush 21, 2) := by decide +kernel
theorem dX12_plainMark_53 : decode cX12_plainMark 53 = .ok (.bipush 20, 2) := by decide +kernel
theorem dX12_plainMark_55 : decode cX12_plainMark 55 = .ok (.invokevirtual 242, 3) := by decide +kernel
theorem dX12_plainMark_58 : decode cX12_plainMark 58 = .ok (.iload_n 2, 1) := by decide +kernel
theorem dX12_plainMark_59 : decode cX12_plainMark 59 = .ok (.sipush 1000, 3) := by decide +kernel
theorem dX12_plainMark_62 : decode cX12_plainMark 62 = .ok (.isub, 1) := by decide +kernel
theorem dX12_plainMark_63 : decode cX12_plainMark 63 = .ok (.ireturn, 1) := by decide +kernel
theorem dX12_plainMark_64 : decode cX12_plainMark 64 = .ok (.aload_n 0, 1) := by decide +kernel
theorem dX12_plainMark_65 : decode cX12_plainMark 65 = .ok (.bipush 24, 2) := by decide +kernel
theorem dX12_plainMark_67 : decode cX12_plainMark 67 = .ok (.bipush 21, 2) := by decide +kernel
theorem dX12_plainMark_69 : decode cX12_plainMark 69 = .ok (.bipush 20, 2) := by decide +kernel
theorem dX12_plainMark_71 : decode cX12_plainMark 71 = .ok (.invokevirtual 242, 3) := by decide +kernel
theorem dX12_plainMark_74 : decode cX12_plainMark 74 = .ok (.iconst 2, 1) := by decide +kernel
theorem dX12_plainMark_75 : decode cX12_plainMark 75 = .ok (.iload_n 2, 1) := by decide +kernel
theorem dX12_plainMark_76 : decode cX12_plainMark 76 = .ok (.imul, 1) := by decide +kernel
theorem dX12_plainMark_77 : decode cX12_plainMark 77 = .ok (.ireturn, 1) := by decide +kernel
theorem dX12_plainMark_78 : decode cX12_plainMark 78 = .ok (.aload_n 0, 1) := by decide +kernel
theorem dX12_plainMark_79 : decode cX12_plainMark 79 = .ok (.bipush 21, 2) := by decide +kernel
theorem dX12_plainMark_81 : decode cX12_plainMark 81 = .ok (.bipush 20, 2) := by decide +kernel
theorem dX12_plainMark_83 : decode cX12_plainMark 83 = .ok (.iconst 0, 1) := by decide +kernel
theorem dX12_plainMark_84 : decode cX12_plainMark 84 = .ok (.invokevirtual 242, 3) := by decide +kernel
theorem dX12_plainMark_87 : decode cX12_plainMark 87 = .ok (.iload_n 2, 1) := by decide +kernel
theorem dX12_plainMark_88 : decode cX12_plainMark 88 = .ok (.ireturn, 1) := by decide +kernel
theorem dX12_size_0 : decode cX12_size 0 = .ok (.aload_n 0, 1) := by decide +kernel
theorem dX12_size_1 : decode cX12_size 1 = .ok (.iload_n 1, 1) := by decide +kernel
theorem dX12_size_2 : decode cX12_size 2 = .ok (.invokevirtual 161, 3) := by decide +kernel
theorem dX12_size_5 : decode cX12_size 5 = .ok (.istore_n 2, 1) := by decide +kernel
theorem dX12_size_6 : decode cX12_size 6 = .ok (.aload_n 0, 1) := by decide +kernel
theorem dX12_size_7 : decode cX12_size 7 = .ok (.getfield 7, 3) := by decide +kernel
theorem dX12_size_10 : decode cX12_size 10 = .ok (.iconst 3, 1) := by decide +kernel
theorem dX12_size_11 : decode cX12_size 11 = .ok (.iload_n 1, 1) := by decide +kernel
theorem dX12_size_12 : decode cX12_size 12 = .ok (.iadd, 1) := by decide +kernel
theorem dX12_size_13 : decode cX12_size 13 = .ok (.iaload, 1) := by decide +kernel
theorem dX12_size_14 : decode cX12_size 14 = .ok (.tableswitch 76 3 5 #[57, 26, 40], 26) := by decide +kernel
theorem dX12_size_40 : decode cX12_size 40 = .ok (.aload_n 0, 1) := by decide +kernel
theorem dX12_size_41 : decode cX12_size 41 = .ok (.bipush 13, 2) := by decide +kernel
theorem dX12_size_43 : decode cX12_size 43 = .ok (.bipush 10, 2) := by decide +kernel
theorem dX12_size_45 : decode cX12_size 45 = .ok (.iconst 0, 1) := by decide +kernel
theorem dX12_size_46 : decode cX12_size 46 = .ok (.invokevirtual 242, 3) := by decide +kernel
theorem dX12_size_49 : decode cX12_size 49 = .ok (.iload_n 2, 1) := by decide +kernel
theorem dX12_size_50 : decode cX12_size 50 = .ok (.bipush 100, 2) := by decide +kernel
theorem dX12_size_52 : decode cX12_size 52 = .ok (.isub, 1) := by decide +kernel
theorem dX12_size_53 : decode cX12_size 53 = .ok (.ireturn, 1) := by decide +kernel
theorem dX12_size_54 : decode cX12_size 54 = .ok (.aload_n 0, 1) := by decide +kernel
theorem dX12_size_55 : decode cX12_size 55 = .ok (.bipush 14, 2) := by decide +kernel
theorem dX12_size_57 : decode cX12_size 57 = .ok (.bipush 13, 2) := by decide +kernel
theorem dX12_size_59 : decode cX12_size 59 = .ok (.bipush 10, 2) := by decide +kernel
theorem dX12_size_61 : decode cX12_size 61 = .ok (.invokevirtual 242, 3) := by decide +kernel
theorem dX12_size_64 : decode cX12_size 64 = .ok (.iconst 2, 1) := by decide +kernel
theorem dX12_size_65 : decode cX12_size 65 = .ok (.iload_n 2, 1) := by decide +kernel
theorem dX12_size_66 : decode cX12_size 66 = .ok (.bipush 100, 2) := by decide +kernel
theorem dX12_size_68 : decode cX12_size 68 = .ok (.isub, 1) := by decide +kernel
theorem dX12_size_69 : decode cX12_size 69 = .ok (.imul, 1) := by decide +kernel
theorem dX12_size_70 : decode cX12_size 70 = .ok (.ireturn, 1) := by decide +kernel
theorem dX12_size_71 : decode cX12_size 71 = .ok (.aload_n 0, 1) := by decide +kernel
theorem dX12_size_72 : decode cX12_size 72 = .ok (.bipush 12, 2) := by decide +kernel
theorem dX12_size_74 : decode cX12_size 74 = .ok (.bipush 11, 2) := by decide +kernel
theorem dX12_size_76 : decode cX12_size 76 = .ok (.bipush 10, 2) := by decide +kernel
theorem dX12_size_78 : decode cX12_size 78 = .ok (.invokevirtual 242, 3) := by decide +kernel
theorem dX12_size_81 : decode cX12_size 81 = .ok (.iload_n 2, 1) := by decide +kernel
theorem dX12_size_82 : decode cX12_size 82 = .ok (.aload_n 0, 1) := by decide +kernel
theorem dX12_size_83 : decode cX12_size 83 = .ok (.iload_n 1, 1) := by decide +kernel
theorem dX12_size_84 : decode cX12_size 84 = .ok (.invokevirtual 246, 3) := by decide +kernel
theorem dX12_size_87 : decode cX12_size 87 = .ok (.iadd, 1) := by decide +kernel
theorem dX12_size_88 : decode cX12_size 88 = .ok (.ineg, 1) := by decide +kernel
theorem dX12_size_89 : decode cX12_size 89 = .ok (.ireturn, 1) := by decide +kernel
theorem dX12_size_90 : decode cX12_size 90 = .ok (.aload_n 0, 1) := by decide +kernel
theorem dX12_size_91 : decode cX12_size 91 = .ok (.bipush 11, 2) := by decide +kernel
theorem dX12_size_93 : decode cX12_size 93 = .ok (.bipush 10, 2) := by decide +kernel
theorem dX12_size_95 : decode cX12_size 95 = .ok (.iconst 0, 1) := by decide +kernel
theorem dX12_size_96 : decode cX12_size 96 = .ok (.invokevirtual 242, 3) := by decide +kernel
theorem dX12_size_99 : decode cX12_size 99 = .ok (.iload_n 2, 1) := by decide +kernel
theorem dX12_size_100 : decode cX12_size 100 = .ok (.aload_n 0, 1) := by decide +kernel
theorem dX12_size_101 : decode cX12_size 101 = .ok (.iload_n 1, 1) := by decide +kernel
theorem dX12_size_102 : decode cX12_size 102 = .ok (.invokevirtual 246, 3) := by decide +kernel
theorem dX12_size_105 : decode cX12_size 105 = .ok (.iadd, 1) := by decide +kernel
theorem dX12_size_106 : decode cX12_size 106 = .ok (.ireturn, 1) := by decide +kernel
theorem dX12_ask_0 : decode cX12_ask 0 = .ok (.aload_n 0, 1) := by decide +kernel
theorem dX12_ask_1 : decode cX12_ask 1 = .ok (.iload_n 1, 1) := by decide +kernel
theorem dX12_ask_2 : decode cX12_ask 2 = .ok (.invokevirtual 180, 3) := by decide +kernel
theorem dX12_ask_5 : decode cX12_ask 5 = .ok (.ifCond .eq 13, 3) := by decide +kernel
theorem dX12_ask_8 : decode cX12_ask 8 = .ok (.iload_n 2, 1) := by decide +kernel
theorem dX12_ask_9 : decode cX12_ask 9 = .ok (.i2l, 1) := by decide +kernel
theorem dX12_ask_10 : decode cX12_ask 10 = .ok (.lconst 0, 1) := by decide +kernel
theorem dX12_ask_11 : decode cX12_ask 11 = .ok (.lconst 1, 1) := by decide +kernel
theorem dX12_ask_12 : decode cX12_ask 12 = .ok (.invokestatic 40, 3) := by decide +kernel
theorem dX12_ask_15 : decode cX12_ask 15 = .ok (.ifCond .ne 6, 3) := by decide +kernel
theorem dX12_ask_18 : decode cX12_ask 18 = .ok (.ldc 55, 2) := by decide +kernel
theorem dX12_ask_20 : decode cX12_ask 20 = .ok (.ireturn, 1) := by decide +kernel
theorem dX12_ask_21 : decode cX12_ask 21 = .ok (.aload_n 0, 1) := by decide +kernel
theorem dX12_ask_22 : decode cX12_ask 22 = .ok (.iconst 0, 1) := by decide +kernel
theorem dX12_ask_23 : decode cX12_ask 23 = .ok (.putfield 239, 3) := by decide +kernel
theorem dX12_ask_26 : decode cX12_ask 26 = .ok (.iload_n 2, 1) := by decide +kernel
theorem dX12_ask_27 : decode cX12_ask 27 = .ok (.ifCond .ne 9, 3) := by decide +kernel
theorem dX12_ask_30 : decode cX12_ask 30 = .ok (.aload_n 0, 1) := by decide +kernel
theorem dX12_ask_31 : decode cX12_ask 31 = .ok (.iload_n 1, 1) := by decide +kernel
theorem dX12_ask_32 : decode cX12_ask 32 = .ok (.invokevirtual 249, 3) := by decide +kernel
theorem dX12_ask_35 : decode cX12_ask 35 = .ok (.ireturn, 1) := by decide +kernel
theorem dX12_ask_36 : decode cX12_ask 36 = .ok (.aload_n 0, 1) := by decide +kernel
theorem dX12_ask_37 : decode cX12_ask 37 = .ok (.getfield 7, 3) := by decide +kernel
theorem dX12_ask_40 : decode cX12_ask 40 = .ok (.iconst 3, 1) := by decide +kernel
theorem dX12_ask_41 : decode cX12_ask 41 = .ok (.iload_n 1, 1) := by decide +kernel
theorem dX12_ask_42 : decode cX12_ask 42 = .ok (.iadd, 1) := by decide +kernel
theorem dX12_ask_43 : decode cX12_ask 43 = .ok (.iaload, 1) := by decide +kernel
theorem dX12_ask_44 : decode cX12_ask 44 = .ok (.iconst 4, 1) := by decide +kernel
theorem dX12_ask_45 : decode cX12_ask 45 = .ok (.if_icmp .ge 9, 3) := by decide +kernel
theorem dX12_ask_48 : decode cX12_ask 48 = .ok (.aload_n 0, 1) := by decide +kernel
theorem dX12_ask_49 : decode cX12_ask 49 = .ok (.iload_n 1, 1) := by decide +kernel
theorem dX12_ask_50 : decode cX12_ask 50 = .ok (.invokevirtual 246, 3) := by decide +kernel
theorem dX12_ask_53 : decode cX12_ask 53 = .ok (.ireturn, 1) := by decide +kernel
theorem dX12_ask_54 : decode cX12_ask 54 = .ok (.aload_n 0, 1) := by decide +kernel
theorem dX12_ask_55 : decode cX12_ask 55 = .ok (.bipush 23, 2) := by decide +kernel
theorem dX12_ask_57 : decode cX12_ask 57 = .ok (.bipush 20, 2) := by decide +kernel
theorem dX12_ask_59 : decode cX12_ask 59 = .ok (.iconst 0, 1) := by decide +kernel
theorem dX12_ask_60 : decode cX12_ask 60 = .ok (.invokevirtual 242, 3) := by decide +kernel
theorem dX12_ask_63 : decode cX12_ask 63 = .ok (.iload_n 1, 1) := by decide +kernel
theorem dX12_ask_64 : decode cX12_ask 64 = .ok (.aload_n 0, 1) := by decide +kernel
theorem dX12_ask_65 : decode cX12_ask 65 = .ok (.iload_n 1, 1) := by decide +kernel
theorem dX12_ask_66 : decode cX12_ask 66 = .ok (.invokevirtual 249, 3) := by decide +kernel
theorem dX12_ask_69 : decode cX12_ask 69 = .ok (.isub, 1) := by decide +kernel
theorem dX12_ask_70 : decode cX12_ask 70 = .ok (.ireturn, 1) := by decide +kernel
theorem dX12_trace_0 : decode cX12_trace 0 = .ok (.iload_n 1, 1) := by decide +kernel
theorem dX12_trace_1 : decode cX12_trace 1 = .ok (.i2l, 1) := by decide +kernel
theorem dX12_trace_2 : decode cX12_trace 2 = .ok (.lconst 0, 1) := by decide +kernel
theorem dX12_trace_3 : decode cX12_trace 3 = .ok (.aload_n 0, 1) := by decide +kernel
theorem dX12_trace_4 : decode cX12_trace 4 = .ok (.getfield 239, 3) := by decide +kernel
theorem dX12_trace_7 : decode cX12_trace 7 = .ok (.iconst 1, 1) := by decide +kernel
theorem dX12_trace_8 : decode cX12_trace 8 = .ok (.isub, 1) := by decide +kernel
theorem dX12_trace_9 : decode cX12_trace 9 = .ok (.i2l, 1) := by decide +kernel
theorem dX12_trace_10 : decode cX12_trace 10 = .ok (.invokestatic 40, 3) := by decide +kernel
theorem dX12_trace_13 : decode cX12_trace 13 = .ok (.ifCond .eq 12, 3) := by decide +kernel
theorem dX12_trace_16 : decode cX12_trace 16 = .ok (.aload_n 0, 1) := by decide +kernel
theorem dX12_trace_17 : decode cX12_trace 17 = .ok (.getfield 35, 3) := by decide +kernel
theorem dX12_trace_20 : decode cX12_trace 20 = .ok (.iload_n 1, 1) := by decide +kernel
theorem dX12_trace_21 : decode cX12_trace 21 = .ok (.iaload, 1) := by decide +kernel
theorem dX12_trace_22 : decode cX12_trace 22 = .ok (.goto 5, 3) := by decide +kernel
theorem dX12_trace_25 : decode cX12_trace 25 = .ok (.ldc 195, 2) := by decide +kernel
theorem dX12_trace_27 : decode cX12_trace 27 = .ok (.ireturn, 1) := by decide +kernel
theorem dX12_count_0 : decode cX12_count 0 = .ok (.iconst 0, 1) := by decide +kernel
theorem dX12_count_1 : decode cX12_count 1 = .ok (.istore_n 2, 1) := by decide +kernel
theorem dX12_count_2 : decode cX12_count 2 = .ok (.iconst 0, 1) := by decide +kernel
theorem dX12_count_3 : decode cX12_count 3 = .ok (.istore_n 3, 1) := by decide +kernel
theorem dX12_count_4 : decode cX12_count 4 = .ok (.iload_n 3, 1) := by decide +kernel
theorem dX12_count_5 : decode cX12_count 5 = .ok (.bipush 8, 2) := by decide +kernel
theorem dX12_count_7 : decode cX12_count 7 = .ok (.if_icmp .ge 26, 3) := by decide +kernel
theorem dX12_count_10 : decode cX12_count 10 = .ok (.iload_n 2, 1) := by decide +kernel
theorem dX12_count_11 : decode cX12_count 11 = .ok (.aload_n 0, 1) := by decide +kernel
theorem dX12_count_12 : decode cX12_count 12 = .ok (.getfield 20, 3) := by decide +kernel
theorem dX12_count_15 : decode cX12_count 15 = .ok (.iload_n 3, 1) := by decide +kernel
theorem dX12_count_16 : decode cX12_count 16 = .ok (.iaload, 1) := by decide +kernel
theorem dX12_count_17 : decode cX12_count 17 = .ok (.ifCond .lt 7, 3) := by decide +kernel
theorem dX12_count_20 : decode cX12_count 20 = .ok (.iconst 1, 1) := by decide +kernel
theorem dX12_count_21 : decode cX12_count 21 = .ok (.goto 4, 3) := by decide +kernel
theorem dX12_count_24 : decode cX12_count 24 = .ok (.iconst 0, 1) := by decide +kernel
theorem dX12_count_25 : decode cX12_count 25 = .ok (.iadd, 1) := by decide +kernel
theorem dX12_count_26 : decode cX12_count 26 = .ok (.istore_n 2, 1) := by decide +kernel
theorem dX12_count_27 : decode cX12_count 27 = .ok (.iinc 3 1, 3) := by decide +kernel
theorem dX12_count_30 : decode cX12_count 30 = .ok (.goto (-26), 3) := by decide +kernel
theorem dX12_count_33 : decode cX12_count 33 = .ok (.iconst 0, 1) := by decide +kernel
theorem dX12_count_34 : decode cX12_count 34 = .ok (.istore_n 3, 1) := by decide +kernel
theorem dX12_count_35 : decode cX12_count 35 = .ok (.iconst 0, 1) := by decide +kernel
theorem dX12_count_36 : decode cX12_count 36 = .ok (.istore 4, 2) := by decide +kernel
theorem dX12_count_38 : decode cX12_count 38 = .ok (.iload 4, 2) := by decide +kernel
theorem dX12_count_40 : decode cX12_count 40 = .ok (.aload_n 0, 1) := by decide +kernel
theorem dX12_count_41 : decode cX12_count 41 = .ok (.getfield 7, 3) := by decide +kernel
theorem dX12_count_44 : decode cX12_count 44 = .ok (.iconst 2, 1) := by decide +kernel
theorem dX12_count_45 : decode cX12_count 45 = .ok (.iaload, 1) := by decide +kernel
theorem dX12_count_46 : decode cX12_count 46 = .ok (.if_icmp .ge 30, 3) := by decide +kernel
theorem dX12_count_49 : decode cX12_count 49 = .ok (.iload_n 3, 1) := by decide +kernel
theorem dX12_count_50 : decode cX12_count 50 = .ok (.aload_n 0, 1) := by decide +kernel
theorem dX12_count_51 : decode cX12_count 51 = .ok (.getfield 7, 3) := by decide +kernel
theorem dX12_count_54 : decode cX12_count 54 = .ok (.bipush 24, 2) := by decide +kernel
theorem dX12_count_56 : decode cX12_count 56 = .ok (.iload 4, 2) := by decide +kernel
theorem dX12_count_58 : decode cX12_count 58 = .ok (.iadd, 1) := by decide +kernel
theorem dX12_count_59 : decode cX12_count 59 = .ok (.iaload, 1) := by decide +kernel
theorem dX12_count_60 : decode cX12_count 60 = .ok (.ifCond .lt 7, 3) := by decide +kernel
theorem dX12_count_63 : decode cX12_count 63 = .ok (.iconst 1, 1) := by decide +kernel
theorem dX12_count_64 : decode cX12_count 64 = .ok (.goto 4, 3) := by decide +kernel
theorem dX12_count_67 : decode cX12_count 67 = .ok (.iconst 0, 1) := by decide +kernel
theorem dX12_count_68 : decode cX12_count 68 = .ok (.iadd, 1) := by decide +kernel
theorem dX12_count_69 : decode cX12_count 69 = .ok (.istore_n 3, 1) := by decide +kernel
theorem dX12_count_70 : decode cX12_count 70 = .ok (.iinc 4 1, 3) := by decide +kernel
theorem dX12_count_73 : decode cX12_count 73 = .ok (.goto (-35), 3) := by decide +kernel
theorem dX12_count_76 : decode cX12_count 76 = .ok (.iload_n 1, 1) := by decide +kernel
theorem dX12_count_77 : decode cX12_count 77 = .ok (.tableswitch 80 0 6 #[43, 45, 52, 60, 68, 73, 75], 43) := by decide +kernel
theorem dX12_count_120 : decode cX12_count 120 = .ok (.iload_n 2, 1) := by decide +kernel
theorem dX12_count_121 : decode cX12_count 121 = .ok (.ireturn, 1) := by decide +kernel
theorem dX12_count_122 : decode cX12_count 122 = .ok (.aload_n 0, 1) := by decide +kernel
theorem dX12_count_123 : decode cX12_count 123 = .ok (.getfield 7, 3) := by decide +kernel
theorem dX12_count_126 : decode cX12_count 126 = .ok (.iconst 2, 1) := by decide +kernel
theorem dX12_count_127 : decode cX12_count 127 = .ok (.iaload, 1) := by decide +kernel
theorem dX12_count_128 : decode cX12_count 128 = .ok (.ireturn, 1) := by decide +kernel
theorem dX12_count_129 : decode cX12_count 129 = .ok (.aload_n 0, 1) := by decide +kernel
theorem dX12_count_130 : decode cX12_count 130 = .ok (.getfield 7, 3) := by decide +kernel
theorem dX12_count_133 : decode cX12_count 133 = .ok (.bipush 38, 2) := by decide +kernel
theorem dX12_count_135 : decode cX12_count 135 = .ok (.iaload, 1) := by decide +kernel
theorem dX12_count_136 : decode cX12_count 136 = .ok (.ireturn, 1) := by decide +kernel
theorem dX12_count_137 : decode cX12_count 137 = .ok (.aload_n 0, 1) := by decide +kernel
theorem dX12_count_138 : decode cX12_count 138 = .ok (.getfield 7, 3) := by decide +kernel
theorem dX12_count_141 : decode cX12_count 141 = .ok (.bipush 47, 2) := by decide +kernel
theorem dX12_count_143 : decode cX12_count 143 = .ok (.iaload, 1) := by decide +kernel
theorem dX12_count_144 : decode cX12_count 144 = .ok (.ireturn, 1) := by decide +kernel
theorem dX12_count_145 : decode cX12_count 145 = .ok (.aload_n 0, 1) := by decide +kernel
theorem dX12_count_146 : decode cX12_count 146 = .ok (.getfield 158, 3) := by decide +kernel
theorem dX12_count_149 : decode cX12_count 149 = .ok (.ireturn, 1) := by decide +kernel
theorem dX12_count_150 : decode cX12_count 150 = .ok (.iload_n 3, 1) := by decide +kernel
theorem dX12_count_151 : decode cX12_count 151 = .ok (.ireturn, 1) := by decide +kernel
theorem dX12_count_152 : decode cX12_count 152 = .ok (.aload_n 0, 1) := by decide +kernel
theorem dX12_count_153 : decode cX12_count 153 = .ok (.getfield 69, 3) := by decide +kernel
theorem dX12_count_156 : decode cX12_count 156 = .ok (.ireturn, 1) := by decide +kernel
theorem dX12_count_157 : decode cX12_count 157 = .ok (.ldc 55, 2) := by decide +kernel
theorem dX12_count_159 : decode cX12_count 159 = .ok (.ireturn, 1) := by decide +kernel
theorem dX12_status_0 : decode cX12_status 0 = .ok (.aload_n 0, 1) := by decide +kernel
theorem dX12_status_1 : decode cX12_status 1 = .ok (.getfield 44, 3) := by decide +kernel
theorem dX12_status_4 : decode cX12_status 4 = .ok (.ireturn, 1) := by decide +kernel
theorem dJ6_bitCount_0f7a4_0 : decode cJ6_bitCount_0f7a4 0 = .ok (.iload_n 0, 1) := by decide +kernel
theorem dJ6_bitCount_0f7a4_1 : decode cJ6_bitCount_0f7a4 1 = .ok (.iload_n 0, 1) := by decide +kernel
theorem dJ6_bitCount_0f7a4_2 : decode cJ6_bitCount_0f7a4 2 = .ok (.iconst 1, 1) := by decide +kernel
theorem dJ6_bitCount_0f7a4_3 : decode cJ6_bitCount_0f7a4 3 = .ok (.iushr, 1) := by decide +kernel
theorem dJ6_bitCount_0f7a4_4 : decode cJ6_bitCount_0f7a4 4 = .ok (.ldc_w 265, 3) := by decide +kernel
theorem dJ6_bitCount_0f7a4_7 : decode cJ6_bitCount_0f7a4 7 = .ok (.iand, 1) := by decide +kernel
theorem dJ6_bitCount_0f7a4_8 : decode cJ6_bitCount_0f7a4 8 = .ok (.isub, 1) := by decide +kernel
theorem dJ6_bitCount_0f7a4_9 : decode cJ6_bitCount_0f7a4 9 = .ok (.istore_n 0, 1) := by decide +kernel
theorem dJ6_bitCount_0f7a4_10 : decode cJ6_bitCount_0f7a4 10 = .ok (.iload_n 0, 1) := by decide +kernel
theorem dJ6_bitCount_0f7a4_11 : decode cJ6_bitCount_0f7a4 11 = .ok (.ldc_w 266, 3) := by decide +kernel
theorem dJ6_bitCount_0f7a4_14 : decode cJ6_bitCount_0f7a4 14 = .ok (.iand, 1) := by decide +kernel
theorem dJ6_bitCount_0f7a4_15 : decode cJ6_bitCount_0f7a4 15 = .ok (.iload_n 0, 1) := by decide +kernel
theorem dJ6_bitCount_0f7a4_16 : decode cJ6_bitCount_0f7a4 16 = .ok (.iconst 2, 1) := by decide +kernel
theorem dJ6_bitCount_0f7a4_17 : decode cJ6_bitCount_0f7a4 17 = .ok (.iushr, 1) := by decide +kernel
theorem dJ6_bitCount_0f7a4_18 : decode cJ6_bitCount_0f7a4 18 = .ok (.ldc_w 266, 3) := by decide +kernel
theorem dJ6_bitCount_0f7a4_21 : decode cJ6_bitCount_0f7a4 21 = .ok (.iand, 1) := by decide +kernel
theorem dJ6_bitCount_0f7a4_22 : decode cJ6_bitCount_0f7a4 22 = .ok (.iadd, 1) := by decide +kernel
theorem dJ6_bitCount_0f7a4_23 : decode cJ6_bitCount_0f7a4 23 = .ok (.istore_n 0, 1) := by decide +kernel
theorem dJ6_bitCount_0f7a4_24 : decode cJ6_bitCount_0f7a4 24 = .ok (.iload_n 0, 1) := by decide +kernel
theorem dJ6_bitCount_0f7a4_25 : decode cJ6_bitCount_0f7a4 25 = .ok (.iload_n 0, 1) := by decide +kernel
theorem dJ6_bitCount_0f7a4_26 : decode cJ6_bitCount_0f7a4 26 = .ok (.iconst 4, 1) := by decide +kernel
theorem dJ6_bitCount_0f7a4_27 : decode cJ6_bitCount_0f7a4 27 = .ok (.iushr, 1) := by decide +kernel
theorem dJ6_bitCount_0f7a4_28 : decode cJ6_bitCount_0f7a4 28 = .ok (.iadd, 1) := by decide +kernel
theorem dJ6_bitCount_0f7a4_29 : decode cJ6_bitCount_0f7a4 29 = .ok (.ldc_w 267, 3) := by decide +kernel
theorem dJ6_bitCount_0f7a4_32 : decode cJ6_bitCount_0f7a4 32 = .ok (.iand, 1) := by decide +kernel
theorem dJ6_bitCount_0f7a4_33 : decode cJ6_bitCount_0f7a4 33 = .ok (.istore_n 0, 1) := by decide +kernel
theorem dJ6_bitCount_0f7a4_34 : decode cJ6_bitCount_0f7a4 34 = .ok (.iload_n 0, 1) := by decide +kernel
theorem dJ6_bitCount_0f7a4_35 : decode cJ6_bitCount_0f7a4 35 = .ok (.iload_n 0, 1) := by decide +kernel
theorem dJ6_bitCount_0f7a4_36 : decode cJ6_bitCount_0f7a4 36 = .ok (.bipush 8, 2) := by decide +kernel
theorem dJ6_bitCount_0f7a4_38 : decode cJ6_bitCount_0f7a4 38 = .ok (.iushr, 1) := by decide +kernel
theorem dJ6_bitCount_0f7a4_39 : decode cJ6_bitCount_0f7a4 39 = .ok (.iadd, 1) := by decide +kernel
theorem dJ6_bitCount_0f7a4_40 : decode cJ6_bitCount_0f7a4 40 = .ok (.istore_n 0, 1) := by decide +kernel
theorem dJ6_bitCount_0f7a4_41 : decode cJ6_bitCount_0f7a4 41 = .ok (.iload_n 0, 1) := by decide +kernel
theorem dJ6_bitCount_0f7a4_42 : decode cJ6_bitCount_0f7a4 42 = .ok (.iload_n 0, 1) := by decide +kernel
theorem dJ6_bitCount_0f7a4_43 : decode cJ6_bitCount_0f7a4 43 = .ok (.bipush 16, 2) := by decide +kernel
theorem dJ6_bitCount_0f7a4_45 : decode cJ6_bitCount_0f7a4 45 = .ok (.iushr, 1) := by decide +kernel
theorem dJ6_bitCount_0f7a4_46 : decode cJ6_bitCount_0f7a4 46 = .ok (.iadd, 1) := by decide +kernel
theorem dJ6_bitCount_0f7a4_47 : decode cJ6_bitCount_0f7a4 47 = .ok (.istore_n 0, 1) := by decide +kernel
theorem dJ6_bitCount_0f7a4_48 : decode cJ6_bitCount_0f7a4 48 = .ok (.iload_n 0, 1) := by decide +kernel
theorem dJ6_bitCount_0f7a4_49 : decode cJ6_bitCount_0f7a4 49 = .ok (.bipush 63, 2) := by decide +kernel
theorem dJ6_bitCount_0f7a4_51 : decode cJ6_bitCount_0f7a4 51 = .ok (.iand, 1) := by decide +kernel
theorem dJ6_bitCount_0f7a4_52 : decode cJ6_bitCount_0f7a4 52 = .ok (.ireturn, 1) := by decide +kernel
theorem dJ9_abs_0f7a4_0 : decode cJ9_abs_0f7a4 0 = .ok (.iload_n 0, 1) := by decide +kernel
theorem dJ9_abs_0f7a4_1 : decode cJ9_abs_0f7a4 1 = .ok (.ifCond .ge 8, 3) := by decide +kernel
theorem dJ9_abs_0f7a4_4 : decode cJ9_abs_0f7a4 4 = .ok (.iload_n 0, 1) := by decide +kernel
theorem dJ9_abs_0f7a4_5 : decode cJ9_abs_0f7a4 5 = .ok (.ineg, 1) := by decide +kernel
theorem dJ9_abs_0f7a4_6 : decode cJ9_abs_0f7a4 6 = .ok (.goto 4, 3) := by decide +kernel
theorem dJ9_abs_0f7a4_9 : decode cJ9_abs_0f7a4 9 = .ok (.iload_n 0, 1) := by decide +kernel
theorem dJ9_abs_0f7a4_10 : decode cJ9_abs_0f7a4 10 = .ok (.ireturn, 1) := by decide +kernel
theorem dJ9_max_7cf53_0 : decode cJ9_max_7cf53 0 = .ok (.iload_n 0, 1) := by decide +kernel
theorem dJ9_max_7cf53_1 : decode cJ9_max_7cf53 1 = .ok (.iload_n 1, 1) := by decide +kernel
theorem dJ9_max_7cf53_2 : decode cJ9_max_7cf53 2 = .ok (.if_icmp .lt 7, 3) := by decide +kernel
theorem dJ9_max_7cf53_5 : decode cJ9_max_7cf53 5 = .ok (.iload_n 0, 1) := by decide +kernel
theorem dJ9_max_7cf53_6 : decode cJ9_max_7cf53 6 = .ok (.goto 4, 3) := by decide +kernel
theorem dJ9_max_7cf53_9 : decode cJ9_max_7cf53 9 = .ok (.iload_n 1, 1) := by decide +kernel
theorem dJ9_max_7cf53_10 : decode cJ9_max_7cf53 10 = .ok (.ireturn, 1) := by decide +kernel
theorem dJ9_min_7cf53_0 : decode cJ9_min_7cf53 0 = .ok (.iload_n 0, 1) := by decide +kernel
theorem dJ9_min_7cf53_1 : decode cJ9_min_7cf53 1 = .ok (.iload_n 1, 1) := by decide +kernel
theorem dJ9_min_7cf53_2 : decode cJ9_min_7cf53 2 = .ok (.if_icmp .gt 7, 3) := by decide +kernel
theorem dJ9_min_7cf53_5 : decode cJ9_min_7cf53 5 = .ok (.iload_n 0, 1) := by decide +kernel
theorem dJ9_min_7cf53_6 : decode cJ9_min_7cf53 6 = .ok (.goto 4, 3) := by decide +kernel
theorem dJ9_min_7cf53_9 : decode cJ9_min_7cf53 9 = .ok (.iload_n 1, 1) := by decide +kernel
theorem dJ9_min_7cf53_10 : decode cJ9_min_7cf53 10 = .ok (.ireturn, 1) := by decide +kernel
theorem dJ0_length_8abf5_0 : decode cJ0_length_8abf5 0 = .ok (.aload_n 0, 1) := by decide +kernel
theorem dJ0_length_8abf5_1 : decode cJ0_length_8abf5 1 = .ok (.getfield 9, 3) := by decide +kernel
theorem dJ0_length_8abf5_4 : decode cJ0_length_8abf5 4 = .ok (.arraylength, 1) := by decide +kernel
theorem dJ0_length_8abf5_5 : decode cJ0_length_8abf5 5 = .ok (.aload_n 0, 1) := by decide +kernel
theorem dJ0_length_8abf5_6 : decode cJ0_length_8abf5 6 = .ok (.invokevirtual 335, 3) := by decide +kernel
theorem dJ0_length_8abf5_9 : decode cJ0_length_8abf5 9 = .ok (.ishr, 1) := by decide +kernel
theorem dJ0_length_8abf5_10 : decode cJ0_length_8abf5 10 = .ok (.ireturn, 1) := by decide +kernel
theorem dJ0_charAt_5068e_0 : decode cJ0_charAt_5068e 0 = .ok (.aload_n 0, 1) := by decide +kernel
theorem dJ0_charAt_5068e_1 : decode cJ0_charAt_5068e 1 = .ok (.invokevirtual 492, 3) := by decide +kernel
theorem dJ0_charAt_5068e_4 : decode cJ0_charAt_5068e 4 = .ok (.ifCond .eq 12, 3) := by decide +kernel
theorem dJ0_charAt_5068e_7 : decode cJ0_charAt_5068e 7 = .ok (.aload_n 0, 1) := by decide +kernel
theorem dJ0_charAt_5068e_8 : decode cJ0_charAt_5068e 8 = .ok (.getfield 9, 3) := by decide +kernel
theorem dJ0_charAt_5068e_11 : decode cJ0_charAt_5068e 11 = .ok (.iload_n 1, 1) := by decide +kernel
theorem dJ0_charAt_5068e_12 : decode cJ0_charAt_5068e 12 = .ok (.invokestatic 495, 3) := by decide +kernel
theorem dJ0_charAt_5068e_15 : decode cJ0_charAt_5068e 15 = .ok (.ireturn, 1) := by decide +kernel
theorem dJ0_charAt_5068e_16 : decode cJ0_charAt_5068e 16 = .ok (.aload_n 0, 1) := by decide +kernel
theorem dJ0_charAt_5068e_17 : decode cJ0_charAt_5068e 17 = .ok (.getfield 9, 3) := by decide +kernel
theorem dJ0_charAt_5068e_20 : decode cJ0_charAt_5068e 20 = .ok (.iload_n 1, 1) := by decide +kernel
theorem dJ0_charAt_5068e_21 : decode cJ0_charAt_5068e 21 = .ok (.invokestatic 498, 3) := by decide +kernel
theorem dJ0_charAt_5068e_24 : decode cJ0_charAt_5068e 24 = .ok (.ireturn, 1) := by decide +kernel
theorem dJ0_coder_7d493_0 : decode cJ0_coder_7d493 0 = .ok (.getstatic 38, 3) := by decide +kernel
theorem dJ0_coder_7d493_3 : decode cJ0_coder_7d493 3 = .ok (.ifCond .eq 10, 3) := by decide +kernel
theorem dJ0_coder_7d493_6 : decode cJ0_coder_7d493 6 = .ok (.aload_n 0, 1) := by decide +kernel
theorem dJ0_coder_7d493_7 : decode cJ0_coder_7d493 7 = .ok (.getfield 15, 3) := by decide +kernel
theorem dJ0_coder_7d493_10 : decode cJ0_coder_7d493 10 = .ok (.goto 4, 3) := by decide +kernel
theorem dJ0_coder_7d493_13 : decode cJ0_coder_7d493 13 = .ok (.iconst 1, 1) := by decide +kernel
theorem dJ0_coder_7d493_14 : decode cJ0_coder_7d493 14 = .ok (.ireturn, 1) := by decide +kernel
theorem dJ0_isLatin1_aae02_0 : decode cJ0_isLatin1_aae02 0 = .ok (.getstatic 38, 3) := by decide +kernel
theorem dJ0_isLatin1_aae02_3 : decode cJ0_isLatin1_aae02 3 = .ok (.ifCond .eq 14, 3) := by decide +kernel
theorem dJ0_isLatin1_aae02_6 : decode cJ0_isLatin1_aae02 6 = .ok (.aload_n 0, 1) := by decide +kernel
theorem dJ0_isLatin1_aae02_7 : decode cJ0_isLatin1_aae02 7 = .ok (.getfield 15, 3) := by decide +kernel
theorem dJ0_isLatin1_aae02_10 : decode cJ0_isLatin1_aae02 10 = .ok (.ifCond .ne 7, 3) := by decide +kernel
theorem dJ0_isLatin1_aae02_13 : decode cJ0_isLatin1_aae02 13 = .ok (.iconst 1, 1) := by decide +kernel
theorem dJ0_isLatin1_aae02_14 : decode cJ0_isLatin1_aae02 14 = .ok (.goto 4, 3) := by decide +kernel
theorem dJ0_isLatin1_aae02_17 : decode cJ0_isLatin1_aae02 17 = .ok (.iconst 0, 1) := by decide +kernel
theorem dJ0_isLatin1_aae02_18 : decode cJ0_isLatin1_aae02 18 = .ok (.ireturn, 1) := by decide +kernel
theorem dJ0_checkIndex_df160_0 : decode cJ0_checkIndex_df160 0 = .ok (.iload_n 0, 1) := by decide +kernel
theorem dJ0_checkIndex_df160_1 : decode cJ0_checkIndex_df160 1 = .ok (.iload_n 1, 1) := by decide +kernel
theorem dJ0_checkIndex_df160_2 : decode cJ0_checkIndex_df160 2 = .ok (.getstatic 1053, 3) := by decide +kernel
theorem dJ0_checkIndex_df160_5 : decode cJ0_checkIndex_df160 5 = .ok (.invokestatic 1059, 3) := by decide +kernel
theorem dJ0_checkIndex_df160_8 : decode cJ0_checkIndex_df160 8 = .ok (.pop, 1) := by decide +kernel
theorem dJ0_checkIndex_df160_9 : decode cJ0_checkIndex_df160 9 = .ok (.return_, 1) := by decide +kernel
theorem dJ1_charAt_3b067_0 : decode cJ1_charAt_3b067 0 = .ok (.iload_n 1, 1) := by decide +kernel
theorem dJ1_charAt_3b067_1 : decode cJ1_charAt_3b067 1 = .ok (.aload_n 0, 1) := by decide +kernel
theorem dJ1_charAt_3b067_2 : decode cJ1_charAt_3b067 2 = .ok (.arraylength, 1) := by decide +kernel
theorem dJ1_charAt_3b067_3 : decode cJ1_charAt_3b067 3 = .ok (.invokestatic 9, 3) := by decide +kernel
theorem dJ1_charAt_3b067_6 : decode cJ1_charAt_3b067 6 = .ok (.aload_n 0, 1) := by decide +kernel
theorem dJ1_charAt_3b067_7 : decode cJ1_charAt_3b067 7 = .ok (.iload_n 1, 1) := by decide +kernel
theorem dJ1_charAt_3b067_8 : decode cJ1_charAt_3b067 8 = .ok (.baload, 1) := by decide +kernel
theorem dJ1_charAt_3b067_9 : decode cJ1_charAt_3b067 9 = .ok (.sipush 255, 3) := by decide +kernel
theorem dJ1_charAt_3b067_12 : decode cJ1_charAt_3b067 12 = .ok (.iand, 1) := by decide +kernel
theorem dJ1_charAt_3b067_13 : decode cJ1_charAt_3b067 13 = .ok (.i2c, 1) := by decide +kernel
theorem dJ1_charAt_3b067_14 : decode cJ1_charAt_3b067 14 = .ok (.ireturn, 1) := by decide +kernel
theorem dJ2_getChar_3b067_0 : decode cJ2_getChar_3b067 0 = .ok (.getstatic 44, 3) := by decide +kernel
theorem dJ2_getChar_3b067_3 : decode cJ2_getChar_3b067 3 = .ok (.ifCond .ne 25, 3) := by decide +kernel
theorem dJ2_getChar_3b067_6 : decode cJ2_getChar_3b067 6 = .ok (.iload_n 1, 1) := by decide +kernel
theorem dJ2_getChar_3b067_7 : decode cJ2_getChar_3b067 7 = .ok (.ifCond .lt 11, 3) := by decide +kernel
theorem dJ2_getChar_3b067_10 : decode cJ2_getChar_3b067 10 = .ok (.iload_n 1, 1) := by decide +kernel
theorem dJ2_getChar_3b067_11 : decode cJ2_getChar_3b067 11 = .ok (.aload_n 0, 1) := by decide +kernel
theorem dJ2_getChar_3b067_12 : decode cJ2_getChar_3b067 12 = .ok (.invokestatic 48, 3) := by decide +kernel
theorem dJ2_getChar_3b067_15 : decode cJ2_getChar_3b067 15 = .ok (.if_icmp .lt 13, 3) := by decide +kernel
theorem dJ2_getChar_3b067_18 : decode cJ2_getChar_3b067 18 = .ok (.new 52, 3) := by decide +kernel
theorem dJ2_getChar_3b067_21 : decode cJ2_getChar_3b067 21 = .ok (.dup, 1) := by decide +kernel
theorem dJ2_getChar_3b067_22 : decode cJ2_getChar_3b067 22 = .ok (.ldc 54, 2) := by decide +kernel
theorem dJ2_getChar_3b067_24 : decode cJ2_getChar_3b067 24 = .ok (.invokespecial 56, 3) := by decide +kernel
theorem dJ2_getChar_3b067_27 : decode cJ2_getChar_3b067 27 = .ok (.athrow, 1) := by decide +kernel
theorem dJ2_getChar_3b067_28 : decode cJ2_getChar_3b067 28 = .ok (.iload_n 1, 1) := by decide +kernel
theorem dJ2_getChar_3b067_29 : decode cJ2_getChar_3b067 29 = .ok (.iconst 1, 1) := by decide +kernel
theorem dJ2_getChar_3b067_30 : decode cJ2_getChar_3b067 30 = .ok (.ishl, 1) := by decide +kernel
theorem dJ2_getChar_3b067_31 : decode cJ2_getChar_3b067 31 = .ok (.istore_n 1, 1) := by decide +kernel
theorem dJ2_getChar_3b067_32 : decode cJ2_getChar_3b067 32 = .ok (.aload_n 0, 1) := by decide +kernel
theorem dJ2_getChar_3b067_33 : decode cJ2_getChar_3b067 33 = .ok (.iload_n 1, 1) := by decide +kernel
theorem dJ2_getChar_3b067_34 : decode cJ2_getChar_3b067 34 = .ok (.iinc 1 1, 3) := by decide +kernel
theorem dJ2_getChar_3b067_37 : decode cJ2_getChar_3b067 37 = .ok (.baload, 1) := by decide +kernel
theorem dJ2_getChar_3b067_38 : decode cJ2_getChar_3b067 38 = .ok (.sipush 255, 3) := by decide +kernel
theorem dJ2_getChar_3b067_41 : decode cJ2_getChar_3b067 41 = .ok (.iand, 1) := by decide +kernel
theorem dJ2_getChar_3b067_42 : decode cJ2_getChar_3b067 42 = .ok (.getstatic 59, 3) := by decide +kernel
theorem dJ2_getChar_3b067_45 : decode cJ2_getChar_3b067 45 = .ok (.ishl, 1) := by decide +kernel
theorem dJ2_getChar_3b067_46 : decode cJ2_getChar_3b067 46 = .ok (.aload_n 0, 1) := by decide +kernel
theorem dJ2_getChar_3b067_47 : decode cJ2_getChar_3b067 47 = .ok (.iload_n 1, 1) := by decide +kernel
theorem dJ2_getChar_3b067_48 : decode cJ2_getChar_3b067 48 = .ok (.baload, 1) := by decide +kernel
theorem dJ2_getChar_3b067_49 : decode cJ2_getChar_3b067 49 = .ok (.sipush 255, 3) := by decide +kernel
theorem dJ2_getChar_3b067_52 : decode cJ2_getChar_3b067 52 = .ok (.iand, 1) := by decide +kernel
theorem dJ2_getChar_3b067_53 : decode cJ2_getChar_3b067 53 = .ok (.getstatic 63, 3) := by decide +kernel
theorem dJ2_getChar_3b067_56 : decode cJ2_getChar_3b067 56 = .ok (.ishl, 1) := by decide +kernel
theorem dJ2_getChar_3b067_57 : decode cJ2_getChar_3b067 57 = .ok (.ior, 1) := by decide +kernel
theorem dJ2_getChar_3b067_58 : decode cJ2_getChar_3b067 58 = .ok (.i2c, 1) := by decide +kernel
theorem dJ2_getChar_3b067_59 : decode cJ2_getChar_3b067 59 = .ok (.ireturn, 1) := by decide +kernel
theorem dJ2_length_9d52b_0 : decode cJ2_length_9d52b 0 = .ok (.aload_n 0, 1) := by decide +kernel
theorem dJ2_length_9d52b_1 : decode cJ2_length_9d52b 1 = .ok (.arraylength, 1) := by decide +kernel
theorem dJ2_length_9d52b_2 : decode cJ2_length_9d52b 2 = .ok (.iconst 1, 1) := by decide +kernel
theorem dJ2_length_9d52b_3 : decode cJ2_length_9d52b 3 = .ok (.ishr, 1) := by decide +kernel
theorem dJ2_length_9d52b_4 : decode cJ2_length_9d52b 4 = .ok (.ireturn, 1) := by decide +kernel
theorem dJ2_charAt_3b067_0 : decode cJ2_charAt_3b067 0 = .ok (.iload_n 1, 1) := by decide +kernel
theorem dJ2_charAt_3b067_1 : decode cJ2_charAt_3b067 1 = .ok (.aload_n 0, 1) := by decide +kernel
theorem dJ2_charAt_3b067_2 : decode cJ2_charAt_3b067 2 = .ok (.invokestatic 67, 3) := by decide +kernel
theorem dJ2_charAt_3b067_5 : decode cJ2_charAt_3b067 5 = .ok (.aload_n 0, 1) := by decide +kernel
theorem dJ2_charAt_3b067_6 : decode cJ2_charAt_3b067 6 = .ok (.iload_n 1, 1) := by decide +kernel
theorem dJ2_charAt_3b067_7 : decode cJ2_charAt_3b067 7 = .ok (.invokestatic 71, 3) := by decide +kernel
theorem dJ2_charAt_3b067_10 : decode cJ2_charAt_3b067 10 = .ok (.ireturn, 1) := by decide +kernel
theorem dJ2_checkIndex_2214a_0 : decode cJ2_checkIndex_2214a 0 = .ok (.iload_n 0, 1) := by decide +kernel
theorem dJ2_checkIndex_2214a_1 : decode cJ2_checkIndex_2214a 1 = .ok (.aload_n 1, 1) := by decide +kernel
theorem dJ2_checkIndex_2214a_2 : decode cJ2_checkIndex_2214a 2 = .ok (.invokestatic 48, 3) := by decide +kernel
theorem dJ2_checkIndex_2214a_5 : decode cJ2_checkIndex_2214a 5 = .ok (.invokestatic 414, 3) := by decide +kernel
theorem dJ2_checkIndex_2214a_8 : decode cJ2_checkIndex_2214a 8 = .ok (.return_, 1) := by decide +kernel
theorem dJ3_checkIndex_8e157_0 : decode cJ3_checkIndex_8e157 0 = .ok (.iload_n 0, 1) := by decide +kernel
theorem dJ3_checkIndex_8e157_1 : decode cJ3_checkIndex_8e157 1 = .ok (.ifCond .lt 8, 3) := by decide +kernel
theorem dJ3_checkIndex_8e157_4 : decode cJ3_checkIndex_8e157 4 = .ok (.iload_n 0, 1) := by decide +kernel
theorem dJ3_checkIndex_8e157_5 : decode cJ3_checkIndex_8e157 5 = .ok (.iload_n 1, 1) := by decide +kernel
theorem dJ3_checkIndex_8e157_6 : decode cJ3_checkIndex_8e157 6 = .ok (.if_icmp .lt 10, 3) := by decide +kernel
theorem dJ3_checkIndex_8e157_9 : decode cJ3_checkIndex_8e157 9 = .ok (.aload_n 2, 1) := by decide +kernel
theorem dJ3_checkIndex_8e157_10 : decode cJ3_checkIndex_8e157 10 = .ok (.iload_n 0, 1) := by decide +kernel
theorem dJ3_checkIndex_8e157_11 : decode cJ3_checkIndex_8e157 11 = .ok (.iload_n 1, 1) := by decide +kernel
theorem dJ3_checkIndex_8e157_12 : decode cJ3_checkIndex_8e157 12 = .ok (.invokestatic 95, 3) := by decide +kernel
theorem dJ3_checkIndex_8e157_15 : decode cJ3_checkIndex_8e157 15 = .ok (.athrow, 1) := by decide +kernel
theorem dJ3_checkIndex_8e157_16 : decode cJ3_checkIndex_8e157 16 = .ok (.iload_n 0, 1) := by decide +kernel
theorem dJ3_checkIndex_8e157_17 : decode cJ3_checkIndex_8e157 17 = .ok (.ireturn, 1) := by decide +kernel
theorem dL_law_0 : decode cL_law 0 = .ok (.new 7, 3) := by decide +kernel
theorem dL_law_3 : decode cL_law 3 = .ok (.dup, 1) := by decide +kernel
theorem dL_law_4 : decode cL_law 4 = .ok (.invokespecial 9, 3) := by decide +kernel
theorem dL_law_7 : decode cL_law 7 = .ok (.astore_n 1, 1) := by decide +kernel
theorem dL_law_8 : decode cL_law 8 = .ok (.new 10, 3) := by decide +kernel
theorem dL_law_11 : decode cL_law 11 = .ok (.dup, 1) := by decide +kernel
theorem dL_law_12 : decode cL_law 12 = .ok (.invokespecial 12, 3) := by decide +kernel
theorem dL_law_15 : decode cL_law 15 = .ok (.astore_n 2, 1) := by decide +kernel
theorem dL_law_16 : decode cL_law 16 = .ok (.iconst 0, 1) := by decide +kernel
theorem dL_law_17 : decode cL_law 17 = .ok (.istore_n 3, 1) := by decide +kernel
theorem dL_law_18 : decode cL_law 18 = .ok (.iload_n 3, 1) := by decide +kernel
theorem dL_law_19 : decode cL_law 19 = .ok (.aload_n 0, 1) := by decide +kernel
theorem dL_law_20 : decode cL_law 20 = .ok (.arraylength, 1) := by decide +kernel
theorem dL_law_21 : decode cL_law 21 = .ok (.bipush 6, 2) := by decide +kernel
theorem dL_law_23 : decode cL_law 23 = .ok (.isub, 1) := by decide +kernel
theorem dL_law_24 : decode cL_law 24 = .ok (.if_icmp .gt 1010, 3) := by decide +kernel
theorem dL_law_27 : decode cL_law 27 = .ok (.aload_n 0, 1) := by decide +kernel
theorem dL_law_28 : decode cL_law 28 = .ok (.iload_n 3, 1) := by decide +kernel
theorem dL_law_29 : decode cL_law 29 = .ok (.iaload, 1) := by decide +kernel
theorem dL_law_30 : decode cL_law 30 = .ok (.bipush 31, 2) := by decide +kernel
theorem dL_law_32 : decode cL_law 32 = .ok (.iand, 1) := by decide +kernel
theorem dL_law_33 : decode cL_law 33 = .ok (.tableswitch 995 0 29 #[135, 178, 221, 284, 307, 370, 383, 396, 429, 462, 485, 498, 511, 544, 567, 590, 603, 646, 669, 722, 745, 758, 801, 824, 847, 870, 903, 936, 959, 982], 135) := by decide +kernel
theorem dL_law_168 : decode cL_law 168 = .ok (.aload_n 1, 1) := by decide +kernel
theorem dL_law_169 : decode cL_law 169 = .ok (.aload_n 0, 1) := by decide +kernel
theorem dL_law_170 : decode cL_law 170 = .ok (.iload_n 3, 1) := by decide +kernel
theorem dL_law_171 : decode cL_law 171 = .ok (.iconst 1, 1) := by decide +kernel
theorem dL_law_172 : decode cL_law 172 = .ok (.iadd, 1) := by decide +kernel
theorem dL_law_173 : decode cL_law 173 = .ok (.iaload, 1) := by decide +kernel
theorem dL_law_174 : decode cL_law 174 = .ok (.aload_n 0, 1) := by decide +kernel
theorem dL_law_175 : decode cL_law 175 = .ok (.iload_n 3, 1) := by decide +kernel
theorem dL_law_176 : decode cL_law 176 = .ok (.iconst 2, 1) := by decide +kernel
theorem dL_law_177 : decode cL_law 177 = .ok (.iadd, 1) := by decide +kernel
theorem dL_law_178 : decode cL_law 178 = .ok (.iaload, 1) := by decide +kernel
theorem dL_law_179 : decode cL_law 179 = .ok (.aload_n 0, 1) := by decide +kernel
theorem dL_law_180 : decode cL_law 180 = .ok (.iload_n 3, 1) := by decide +kernel
theorem dL_law_181 : decode cL_law 181 = .ok (.iconst 3, 1) := by decide +kernel
theorem dL_law_182 : decode cL_law 182 = .ok (.iadd, 1) := by decide +kernel
theorem dL_law_183 : decode cL_law 183 = .ok (.iaload, 1) := by decide +kernel
theorem dL_law_184 : decode cL_law 184 = .ok (.invokevirtual 13, 3) := by decide +kernel
theorem dL_law_187 : decode cL_law 187 = .ok (.pop, 1) := by decide +kernel
theorem dL_law_188 : decode cL_law 188 = .ok (.aload_n 2, 1) := by decide +kernel
theorem dL_law_189 : decode cL_law 189 = .ok (.aload_n 0, 1) := by decide +kernel
theorem dL_law_190 : decode cL_law 190 = .ok (.iload_n 3, 1) := by decide +kernel
theorem dL_law_191 : decode cL_law 191 = .ok (.iconst 1, 1) := by decide +kernel
theorem dL_law_192 : decode cL_law 192 = .ok (.iadd, 1) := by decide +kernel
theorem dL_law_193 : decode cL_law 193 = .ok (.iaload, 1) := by decide +kernel
theorem dL_law_194 : decode cL_law 194 = .ok (.aload_n 0, 1) := by decide +kernel
theorem dL_law_195 : decode cL_law 195 = .ok (.iload_n 3, 1) := by decide +kernel
theorem dL_law_196 : decode cL_law 196 = .ok (.iconst 2, 1) := by decide +kernel
theorem dL_law_197 : decode cL_law 197 = .ok (.iadd, 1) := by decide +kernel
theorem dL_law_198 : decode cL_law 198 = .ok (.iaload, 1) := by decide +kernel
theorem dL_law_199 : decode cL_law 199 = .ok (.aload_n 0, 1) := by decide +kernel
theorem dL_law_200 : decode cL_law 200 = .ok (.iload_n 3, 1) := by decide +kernel
theorem dL_law_201 : decode cL_law 201 = .ok (.iconst 3, 1) := by decide +kernel
theorem dL_law_202 : decode cL_law 202 = .ok (.iadd, 1) := by decide +kernel
theorem dL_law_203 : decode cL_law 203 = .ok (.iaload, 1) := by decide +kernel
theorem dL_law_204 : decode cL_law 204 = .ok (.invokevirtual 17, 3) := by decide +kernel
theorem dL_law_207 : decode cL_law 207 = .ok (.pop, 1) := by decide +kernel
theorem dL_law_208 : decode cL_law 208 = .ok (.goto 820, 3) := by decide +kernel
theorem dL_law_211 : decode cL_law 211 = .ok (.aload_n 1, 1) := by decide +kernel
theorem dL_law_212 : decode cL_law 212 = .ok (.aload_n 0, 1) := by decide +kernel
theorem dL_law_213 : decode cL_law 213 = .ok (.iload_n 3, 1) := by decide +kernel
theorem dL_law_214 : decode cL_law 214 = .ok (.iconst 1, 1) := by decide +kernel
theorem dL_law_215 : decode cL_law 215 = .ok (.iadd, 1) := by decide +kernel
theorem dL_law_216 : decode cL_law 216 = .ok (.iaload, 1) := by decide +kernel
theorem dL_law_217 : decode cL_law 217 = .ok (.aload_n 0, 1) := by decide +kernel
theorem dL_law_218 : decode cL_law 218 = .ok (.iload_n 3, 1) := by decide +kernel
theorem dL_law_219 : decode cL_law 219 = .ok (.iconst 2, 1) := by decide +kernel
theorem dL_law_220 : decode cL_law 220 = .ok (.iadd, 1) := by decide +kernel
theorem dL_law_221 : decode cL_law 221 = .ok (.iaload, 1) := by decide +kernel
theorem dL_law_222 : decode cL_law 222 = .ok (.aload_n 0, 1) := by decide +kernel
theorem dL_law_223 : decode cL_law 223 = .ok (.iload_n 3, 1) := by decide +kernel
theorem dL_law_224 : decode cL_law 224 = .ok (.iconst 3, 1) := by decide +kernel
theorem dL_law_225 : decode cL_law 225 = .ok (.iadd, 1) := by decide +kernel
theorem dL_law_226 : decode cL_law 226 = .ok (.iaload, 1) := by decide +kernel
theorem dL_law_227 : decode cL_law 227 = .ok (.invokevirtual 18, 3) := by decide +kernel
theorem dL_law_230 : decode cL_law 230 = .ok (.pop, 1) := by decide +kernel
theorem dL_law_231 : decode cL_law 231 = .ok (.aload_n 2, 1) := by decide +kernel
theorem dL_law_232 : decode cL_law 232 = .ok (.aload_n 0, 1) := by decide +kernel
theorem dL_law_233 : decode cL_law 233 = .ok (.iload_n 3, 1) := by decide +kernel
theorem dL_law_234 : decode cL_law 234 = .ok (.iconst 1, 1) := by decide +kernel
theorem dL_law_235 : decode cL_law 235 = .ok (.iadd, 1) := by decide +kernel
theorem dL_law_236 : decode cL_law 236 = .ok (.iaload, 1) := by decide +kernel
theorem dL_law_237 : decode cL_law 237 = .ok (.aload_n 0, 1) := by decide +kernel
theorem dL_law_238 : decode cL_law 238 = .ok (.iload_n 3, 1) := by decide +kernel
theorem dL_law_239 : decode cL_law 239 = .ok (.iconst 2, 1) := by decide +kernel
theorem dL_law_240 : decode cL_law 240 = .ok (.iadd, 1) := by decide +kernel
theorem dL_law_241 : decode cL_law 241 = .ok (.iaload, 1) := by decide +kernel
theorem dL_law_242 : decode cL_law 242 = .ok (.aload_n 0, 1) := by decide +kernel
theorem dL_law_243 : decode cL_law 243 = .ok (.iload_n 3, 1) := by decide +kernel
theorem dL_law_244 : decode cL_law 244 = .ok (.iconst 3, 1) := by decide +kernel
theorem dL_law_245 : decode cL_law 245 = .ok (.iadd, 1) := by decide +kernel
theorem dL_law_246 : decode cL_law 246 = .ok (.iaload, 1) := by decide +kernel
theorem dL_law_247 : decode cL_law 247 = .ok (.invokevirtual 21, 3) := by decide +kernel
theorem dL_law_250 : decode cL_law 250 = .ok (.pop, 1) := by decide +kernel
theorem dL_law_251 : decode cL_law 251 = .ok (.goto 777, 3) := by decide +kernel
theorem dL_law_254 : decode cL_law 254 = .ok (.aload_n 1, 1) := by decide +kernel
theorem dL_law_255 : decode cL_law 255 = .ok (.aload_n 0, 1) := by decide +kernel
theorem dL_law_256 : decode cL_law 256 = .ok (.iload_n 3, 1) := by decide +kernel
theorem dL_law_257 : decode cL_law 257 = .ok (.iconst 1, 1) := by decide +kernel
theorem dL_law_258 : decode cL_law 258 = .ok (.iadd, 1) := by decide +kernel
theorem dL_law_259 : decode cL_law 259 = .ok (.iaload, 1) := by decide +kernel
theorem dL_law_260 : decode cL_law 260 = .ok (.aload_n 0, 1) := by decide +kernel
theorem dL_law_261 : decode cL_law 261 = .ok (.iload_n 3, 1) := by decide +kernel
theorem dL_law_262 : decode cL_law 262 = .ok (.iconst 2, 1) := by decide +kernel
theorem dL_law_263 : decode cL_law 263 = .ok (.iadd, 1) := by decide +kernel
theorem dL_law_264 : decode cL_law 264 = .ok (.iaload, 1) := by decide +kernel
theorem dL_law_265 : decode cL_law 265 = .ok (.aload_n 0, 1) := by decide +kernel
theorem dL_law_266 : decode cL_law 266 = .ok (.iload_n 3, 1) := by decide +kernel
theorem dL_law_267 : decode cL_law 267 = .ok (.iconst 3, 1) := by decide +kernel
theorem dL_law_268 : decode cL_law 268 = .ok (.iadd, 1) := by decide +kernel
theorem dL_law_269 : decode cL_law 269 = .ok (.iaload, 1) := by decide +kernel
theorem dL_law_270 : decode cL_law 270 = .ok (.aload_n 0, 1) := by decide +kernel
theorem dL_law_271 : decode cL_law 271 = .ok (.iload_n 3, 1) := by decide +kernel
theorem dL_law_272 : decode cL_law 272 = .ok (.iconst 4, 1) := by decide +kernel
theorem dL_law_273 : decode cL_law 273 = .ok (.iadd, 1) := by decide +kernel
theorem dL_law_274 : decode cL_law 274 = .ok (.iaload, 1) := by decide +kernel
theorem dL_law_275 : decode cL_law 275 = .ok (.aload_n 0, 1) := by decide +kernel
theorem dL_law_276 : decode cL_law 276 = .ok (.iload_n 3, 1) := by decide +kernel
theorem dL_law_277 : decode cL_law 277 = .ok (.iconst 5, 1) := by decide +kernel
theorem dL_law_278 : decode cL_law 278 = .ok (.iadd, 1) := by decide +kernel
theorem dL_law_279 : decode cL_law 279 = .ok (.iaload, 1) := by decide +kernel
theorem dL_law_280 : decode cL_law 280 = .ok (.invokevirtual 22, 3) := by decide +kernel
theorem dL_law_283 : decode cL_law 283 = .ok (.pop, 1) := by decide +kernel
theorem dL_law_284 : decode cL_law 284 = .ok (.aload_n 2, 1) := by decide +kernel
theorem dL_law_285 : decode cL_law 285 = .ok (.aload_n 0, 1) := by decide +kernel
theorem dL_law_286 : decode cL_law 286 = .ok (.iload_n 3, 1) := by decide +kernel
theorem dL_law_287 : decode cL_law 287 = .ok (.iconst 1, 1) := by decide +kernel
theorem dL_law_288 : decode cL_law 288 = .ok (.iadd, 1) := by decide +kernel
theorem dL_law_289 : decode cL_law 289 = .ok (.iaload, 1) := by decide +kernel
theorem dL_law_290 : decode cL_law 290 = .ok (.aload_n 0, 1) := by decide +kernel
theorem dL_law_291 : decode cL_law 291 = .ok (.iload_n 3, 1) := by decide +kernel
theorem dL_law_292 : decode cL_law 292 = .ok (.iconst 2, 1) := by decide +kernel
theorem dL_law_293 : decode cL_law 293 = .ok (.iadd, 1) := by decide +kernel
theorem dL_law_294 : decode cL_law 294 = .ok (.iaload, 1) := by decide +kernel
theorem dL_law_295 : decode cL_law 295 = .ok (.aload_n 0, 1) := by decide +kernel
theorem dL_law_296 : decode cL_law 296 = .ok (.iload_n 3, 1) := by decide +kernel
theorem dL_law_297 : decode cL_law 297 = .ok (.iconst 3, 1) := by decide +kernel
theorem dL_law_298 : decode cL_law 298 = .ok (.iadd, 1) := by decide +kernel
theorem dL_law_299 : decode cL_law 299 = .ok (.iaload, 1) := by decide +kernel
theorem dL_law_300 : decode cL_law 300 = .ok (.aload_n 0, 1) := by decide +kernel
theorem dL_law_301 : decode cL_law 301 = .ok (.iload_n 3, 1) := by decide +kernel
theorem dL_law_302 : decode cL_law 302 = .ok (.iconst 4, 1) := by decide +kernel
theorem dL_law_303 : decode cL_law 303 = .ok (.iadd, 1) := by decide +kernel
theorem dL_law_304 : decode cL_law 304 = .ok (.iaload, 1) := by decide +kernel
theorem dL_law_305 : decode cL_law 305 = .ok (.aload_n 0, 1) := by decide +kernel
theorem dL_law_306 : decode cL_law 306 = .ok (.iload_n 3, 1) := by decide +kernel
theorem dL_law_307 : decode cL_law 307 = .ok (.iconst 5, 1) := by decide +kernel
theorem dL_law_308 : decode cL_law 308 = .ok (.iadd, 1) := by decide +kernel
theorem dL_law_309 : decode cL_law 309 = .ok (.iaload, 1) := by decide +kernel
theorem dL_law_310 : decode cL_law 310 = .ok (.invokevirtual 26, 3) := by decide +kernel
theorem dL_law_313 : decode cL_law 313 = .ok (.pop, 1) := by decide +kernel
theorem dL_law_314 : decode cL_law 314 = .ok (.goto 714, 3) := by decide +kernel
theorem dL_law_317 : decode cL_law 317 = .ok (.aload_n 1, 1) := by decide +kernel
theorem dL_law_318 : decode cL_law 318 = .ok (.aload_n 0, 1) := by decide +kernel
theorem dL_law_319 : decode cL_law 319 = .ok (.iload_n 3, 1) := by decide +kernel
theorem dL_law_320 : decode cL_law 320 = .ok (.iconst 1, 1) := by decide +kernel
theorem dL_law_321 : decode cL_law 321 = .ok (.iadd, 1) := by decide +kernel
theorem dL_law_322 : decode cL_law 322 = .ok (.iaload, 1) := by decide +kernel
theorem dL_law_323 : decode cL_law 323 = .ok (.invokevirtual 27, 3) := by decide +kernel
theorem dL_law_326 : decode cL_law 326 = .ok (.pop, 1) := by decide +kernel
theorem dL_law_327 : decode cL_law 327 = .ok (.aload_n 2, 1) := by decide +kernel
theorem dL_law_328 : decode cL_law 328 = .ok (.aload_n 0, 1) := by decide +kernel
theorem dL_law_329 : decode cL_law 329 = .ok (.iload_n 3, 1) := by decide +kernel
theorem dL_law_330 : decode cL_law 330 = .ok (.iconst 1, 1) := by decide +kernel
theorem dL_law_331 : decode cL_law 331 = .ok (.iadd, 1) := by decide +kernel
theorem dL_law_332 : decode cL_law 332 = .ok (.iaload, 1) := by decide +kernel
theorem dL_law_333 : decode cL_law 333 = .ok (.invokevirtual 31, 3) := by decide +kernel
theorem dL_law_336 : decode cL_law 336 = .ok (.pop, 1) := by decide +kernel
theorem dL_law_337 : decode cL_law 337 = .ok (.goto 691, 3) := by decide +kernel
theorem dL_law_340 : decode cL_law 340 = .ok (.aload_n 1, 1) := by decide +kernel
theorem dL_law_341 : decode cL_law 341 = .ok (.aload_n 0, 1) := by decide +kernel
theorem dL_law_342 : decode cL_law 342 = .ok (.iload_n 3, 1) := by decide +kernel
theorem dL_law_343 : decode cL_law 343 = .ok (.iconst 1, 1) := by decide +kernel
theorem dL_law_344 : decode cL_law 344 = .ok (.iadd, 1) := by decide +kernel
theorem dL_law_345 : decode cL_law 345 = .ok (.iaload, 1) := by decide +kernel
theorem dL_law_346 : decode cL_law 346 = .ok (.i2l, 1) := by decide +kernel
theorem dL_law_347 : decode cL_law 347 = .ok (.bipush 32, 2) := by decide +kernel
theorem dL_law_349 : decode cL_law 349 = .ok (.lshl, 1) := by decide +kernel
theorem dL_law_350 : decode cL_law 350 = .ok (.aload_n 0, 1) := by decide +kernel
theorem dL_law_351 : decode cL_law 351 = .ok (.iload_n 3, 1) := by decide +kernel
theorem dL_law_352 : decode cL_law 352 = .ok (.iconst 2, 1) := by decide +kernel
theorem dL_law_353 : decode cL_law 353 = .ok (.iadd, 1) := by decide +kernel
theorem dL_law_354 : decode cL_law 354 = .ok (.iaload, 1) := by decide +kernel
theorem dL_law_355 : decode cL_law 355 = .ok (.i2l, 1) := by decide +kernel
theorem dL_law_356 : decode cL_law 356 = .ok (.ldc2_w 32, 3) := by decide +kernel
theorem dL_law_359 : decode cL_law 359 = .ok (.land, 1) := by decide +kernel
theorem dL_law_360 : decode cL_law 360 = .ok (.lor, 1) := by decide +kernel
theorem dL_law_361 : decode cL_law 361 = .ok (.aload_n 0, 1) := by decide +kernel
theorem dL_law_362 : decode cL_law 362 = .ok (.iload_n 3, 1) := by decide +kernel
theorem dL_law_363 : decode cL_law 363 = .ok (.iconst 3, 1) := by decide +kernel
theorem dL_law_364 : decode cL_law 364 = .ok (.iadd, 1) := by decide +kernel
theorem dL_law_365 : decode cL_law 365 = .ok (.iaload, 1) := by decide +kernel
theorem dL_law_366 : decode cL_law 366 = .ok (.invokevirtual 34, 3) := by decide +kernel
theorem dL_law_369 : decode cL_law 369 = .ok (.pop, 1) := by decide +kernel
theorem dL_law_370 : decode cL_law 370 = .ok (.aload_n 2, 1) := by decide +kernel
theorem dL_law_371 : decode cL_law 371 = .ok (.aload_n 0, 1) := by decide +kernel
theorem dL_law_372 : decode cL_law 372 = .ok (.iload_n 3, 1) := by decide +kernel
theorem dL_law_373 : decode cL_law 373 = .ok (.iconst 1, 1) := by decide +kernel
theorem dL_law_374 : decode cL_law 374 = .ok (.iadd, 1) := by decide +kernel
theorem dL_law_375 : decode cL_law 375 = .ok (.iaload, 1) := by decide +kernel
theorem dL_law_376 : decode cL_law 376 = .ok (.i2l, 1) := by decide +kernel
theorem dL_law_377 : decode cL_law 377 = .ok (.bipush 32, 2) := by decide +kernel
theorem dL_law_379 : decode cL_law 379 = .ok (.lshl, 1) := by decide +kernel
theorem dL_law_380 : decode cL_law 380 = .ok (.aload_n 0, 1) := by decide +kernel
theorem dL_law_381 : decode cL_law 381 = .ok (.iload_n 3, 1) := by decide +kernel
theorem dL_law_382 : decode cL_law 382 = .ok (.iconst 2, 1) := by decide +kernel
theorem dL_law_383 : decode cL_law 383 = .ok (.iadd, 1) := by decide +kernel
theorem dL_law_384 : decode cL_law 384 = .ok (.iaload, 1) := by decide +kernel
theorem dL_law_385 : decode cL_law 385 = .ok (.i2l, 1) := by decide +kernel
theorem dL_law_386 : decode cL_law 386 = .ok (.ldc2_w 32, 3) := by decide +kernel
theorem dL_law_389 : decode cL_law 389 = .ok (.land, 1) := by decide +kernel
theorem dL_law_390 : decode cL_law 390 = .ok (.lor, 1) := by decide +kernel
theorem dL_law_391 : decode cL_law 391 = .ok (.aload_n 0, 1) := by decide +kernel
theorem dL_law_392 : decode cL_law 392 = .ok (.iload_n 3, 1) := by decide +kernel
theorem dL_law_393 : decode cL_law 393 = .ok (.iconst 3, 1) := by decide +kernel
theorem dL_law_394 : decode cL_law 394 = .ok (.iadd, 1) := by decide +kernel
theorem dL_law_395 : decode cL_law 395 = .ok (.iaload, 1) := by decide +kernel
theorem dL_law_396 : decode cL_law 396 = .ok (.invokevirtual 38, 3) := by decide +kernel
theorem dL_law_399 : decode cL_law 399 = .ok (.pop, 1) := by decide +kernel
theorem dL_law_400 : decode cL_law 400 = .ok (.goto 628, 3) := by decide +kernel
theorem dL_law_403 : decode cL_law 403 = .ok (.aload_n 1, 1) := by decide +kernel
theorem dL_law_404 : decode cL_law 404 = .ok (.invokevirtual 39, 3) := by decide +kernel
theorem dL_law_407 : decode cL_law 407 = .ok (.pop, 1) := by decide +kernel
theorem dL_law_408 : decode cL_law 408 = .ok (.aload_n 2, 1) := by decide +kernel
theorem dL_law_409 : decode cL_law 409 = .ok (.invokevirtual 43, 3) := by decide +kernel
theorem dL_law_412 : decode cL_law 412 = .ok (.pop, 1) := by decide +kernel
theorem dL_law_413 : decode cL_law 413 = .ok (.goto 615, 3) := by decide +kernel
theorem dL_law_416 : decode cL_law 416 = .ok (.aload_n 1, 1) := by decide +kernel
theorem dL_law_417 : decode cL_law 417 = .ok (.invokevirtual 44, 3) := by decide +kernel
theorem dL_law_420 : decode cL_law 420 = .ok (.pop, 1) := by decide +kernel
theorem dL_law_421 : decode cL_law 421 = .ok (.aload_n 2, 1) := by decide +kernel
theorem dL_law_422 : decode cL_law 422 = .ok (.invokevirtual 47, 3) := by decide +kernel
theorem dL_law_425 : decode cL_law 425 = .ok (.pop, 1) := by decide +kernel
theorem dL_law_426 : decode cL_law 426 = .ok (.goto 602, 3) := by decide +kernel
theorem dL_law_429 : decode cL_law 429 = .ok (.aload_n 1, 1) := by decide +kernel
theorem dL_law_430 : decode cL_law 430 = .ok (.aload_n 0, 1) := by decide +kernel
theorem dL_law_431 : decode cL_law 431 = .ok (.iload_n 3, 1) := by decide +kernel
theorem dL_law_432 : decode cL_law 432 = .ok (.iconst 1, 1) := by decide +kernel
theorem dL_law_433 : decode cL_law 433 = .ok (.iadd, 1) := by decide +kernel
theorem dL_law_434 : decode cL_law 434 = .ok (.iaload, 1) := by decide +kernel
theorem dL_law_435 : decode cL_law 435 = .ok (.aload_n 0, 1) := by decide +kernel
theorem dL_law_436 : decode cL_law 436 = .ok (.iload_n 3, 1) := by decide +kernel
theorem dL_law_437 : decode cL_law 437 = .ok (.iconst 2, 1) := by decide +kernel
theorem dL_law_438 : decode cL_law 438 = .ok (.iadd, 1) := by decide +kernel
theorem dL_law_439 : decode cL_law 439 = .ok (.iaload, 1) := by decide +kernel
theorem dL_law_440 : decode cL_law 440 = .ok (.invokevirtual 48, 3) := by decide +kernel
theorem dL_law_443 : decode cL_law 443 = .ok (.pop, 1) := by decide +kernel
theorem dL_law_444 : decode cL_law 444 = .ok (.aload_n 2, 1) := by decide +kernel
theorem dL_law_445 : decode cL_law 445 = .ok (.aload_n 0, 1) := by decide +kernel
theorem dL_law_446 : decode cL_law 446 = .ok (.iload_n 3, 1) := by decide +kernel
theorem dL_law_447 : decode cL_law 447 = .ok (.iconst 1, 1) := by decide +kernel
theorem dL_law_448 : decode cL_law 448 = .ok (.iadd, 1) := by decide +kernel
theorem dL_law_449 : decode cL_law 449 = .ok (.iaload, 1) := by decide +kernel
theorem dL_law_450 : decode cL_law 450 = .ok (.aload_n 0, 1) := by decide +kernel
theorem dL_law_451 : decode cL_law 451 = .ok (.iload_n 3, 1) := by decide +kernel
theorem dL_law_452 : decode cL_law 452 = .ok (.iconst 2, 1) := by decide +kernel
theorem dL_law_453 : decode cL_law 453 = .ok (.iadd, 1) := by decide +kernel
theorem dL_law_454 : decode cL_law 454 = .ok (.iaload, 1) := by decide +kernel
theorem dL_law_455 : decode cL_law 455 = .ok (.invokevirtual 52, 3) := by decide +kernel
theorem dL_law_458 : decode cL_law 458 = .ok (.pop, 1) := by decide +kernel
theorem dL_law_459 : decode cL_law 459 = .ok (.goto 569, 3) := by decide +kernel
theorem dL_law_462 : decode cL_law 462 = .ok (.aload_n 1, 1) := by decide +kernel
theorem dL_law_463 : decode cL_law 463 = .ok (.aload_n 0, 1) := by decide +kernel
theorem dL_law_464 : decode cL_law 464 = .ok (.iload_n 3, 1) := by decide +kernel
theorem dL_law_465 : decode cL_law 465 = .ok (.iconst 1, 1) := by decide +kernel
theorem dL_law_466 : decode cL_law 466 = .ok (.iadd, 1) := by decide +kernel
theorem dL_law_467 : decode cL_law 467 = .ok (.iaload, 1) := by decide +kernel
theorem dL_law_468 : decode cL_law 468 = .ok (.aload_n 0, 1) := by decide +kernel
theorem dL_law_469 : decode cL_law 469 = .ok (.iload_n 3, 1) := by decide +kernel
theorem dL_law_470 : decode cL_law 470 = .ok (.iconst 2, 1) := by decide +kernel
theorem dL_law_471 : decode cL_law 471 = .ok (.iadd, 1) := by decide +kernel
theorem dL_law_472 : decode cL_law 472 = .ok (.iaload, 1) := by decide +kernel
theorem dL_law_473 : decode cL_law 473 = .ok (.invokevirtual 53, 3) := by decide +kernel
theorem dL_law_476 : decode cL_law 476 = .ok (.pop, 1) := by decide +kernel
theorem dL_law_477 : decode cL_law 477 = .ok (.aload_n 2, 1) := by decide +kernel
theorem dL_law_478 : decode cL_law 478 = .ok (.aload_n 0, 1) := by decide +kernel
theorem dL_law_479 : decode cL_law 479 = .ok (.iload_n 3, 1) := by decide +kernel
theorem dL_law_480 : decode cL_law 480 = .ok (.iconst 1, 1) := by decide +kernel
theorem dL_law_481 : decode cL_law 481 = .ok (.iadd, 1) := by decide +kernel
theorem dL_law_482 : decode cL_law 482 = .ok (.iaload, 1) := by decide +kernel
theorem dL_law_483 : decode cL_law 483 = .ok (.aload_n 0, 1) := by decide +kernel
theorem dL_law_484 : decode cL_law 484 = .ok (.iload_n 3, 1) := by decide +kernel
theorem dL_law_485 : decode cL_law 485 = .ok (.iconst 2, 1) := by decide +kernel
theorem dL_law_486 : decode cL_law 486 = .ok (.iadd, 1) := by decide +kernel
theorem dL_law_487 : decode cL_law 487 = .ok (.iaload, 1) := by decide +kernel
theorem dL_law_488 : decode cL_law 488 = .ok (.invokevirtual 56, 3) := by decide +kernel
theorem dL_law_491 : decode cL_law 491 = .ok (.pop, 1) := by decide +kernel
theorem dL_law_492 : decode cL_law 492 = .ok (.goto 536, 3) := by decide +kernel
theorem dL_law_495 : decode cL_law 495 = .ok (.aload_n 1, 1) := by decide +kernel
theorem dL_law_496 : decode cL_law 496 = .ok (.aload_n 0, 1) := by decide +kernel
theorem dL_law_497 : decode cL_law 497 = .ok (.iload_n 3, 1) := by decide +kernel
theorem dL_law_498 : decode cL_law 498 = .ok (.iconst 1, 1) := by decide +kernel
theorem dL_law_499 : decode cL_law 499 = .ok (.iadd, 1) := by decide +kernel
theorem dL_law_500 : decode cL_law 500 = .ok (.iaload, 1) := by decide +kernel
theorem dL_law_501 : decode cL_law 501 = .ok (.invokevirtual 57, 3) := by decide +kernel
theorem dL_law_504 : decode cL_law 504 = .ok (.pop, 1) := by decide +kernel
theorem dL_law_505 : decode cL_law 505 = .ok (.aload_n 2, 1) := by decide +kernel
theorem dL_law_506 : decode cL_law 506 = .ok (.aload_n 0, 1) := by decide +kernel
theorem dL_law_507 : decode cL_law 507 = .ok (.iload_n 3, 1) := by decide +kernel
theorem dL_law_508 : decode cL_law 508 = .ok (.iconst 1, 1) := by decide +kernel
theorem dL_law_509 : decode cL_law 509 = .ok (.iadd, 1) := by decide +kernel
theorem dL_law_510 : decode cL_law 510 = .ok (.iaload, 1) := by decide +kernel
theorem dL_law_511 : decode cL_law 511 = .ok (.invokevirtual 60, 3) := by decide +kernel
theorem dL_law_514 : decode cL_law 514 = .ok (.pop, 1) := by decide +kernel
theorem dL_law_515 : decode cL_law 515 = .ok (.goto 513, 3) := by decide +kernel
theorem dL_law_518 : decode cL_law 518 = .ok (.aload_n 1, 1) := by decide +kernel
theorem dL_law_519 : decode cL_law 519 = .ok (.invokevirtual 61, 3) := by decide +kernel
theorem dL_law_522 : decode cL_law 522 = .ok (.pop, 1) := by decide +kernel
theorem dL_law_523 : decode cL_law 523 = .ok (.aload_n 2, 1) := by decide +kernel
theorem dL_law_524 : decode cL_law 524 = .ok (.invokevirtual 64, 3) := by decide +kernel
theorem dL_law_527 : decode cL_law 527 = .ok (.pop, 1) := by decide +kernel
theorem dL_law_528 : decode cL_law 528 = .ok (.goto 500, 3) := by decide +kernel
theorem dL_law_531 : decode cL_law 531 = .ok (.aload_n 1, 1) := by decide +kernel
theorem dL_law_532 : decode cL_law 532 = .ok (.invokevirtual 65, 3) := by decide +kernel
theorem dL_law_535 : decode cL_law 535 = .ok (.pop, 1) := by decide +kernel
theorem dL_law_536 : decode cL_law 536 = .ok (.aload_n 2, 1) := by decide +kernel
theorem dL_law_537 : decode cL_law 537 = .ok (.invokevirtual 68, 3) := by decide +kernel
theorem dL_law_540 : decode cL_law 540 = .ok (.pop, 1) := by decide +kernel
theorem dL_law_541 : decode cL_law 541 = .ok (.goto 487, 3) := by decide +kernel
theorem dL_law_544 : decode cL_law 544 = .ok (.aload_n 1, 1) := by decide +kernel
theorem dL_law_545 : decode cL_law 545 = .ok (.aload_n 0, 1) := by decide +kernel
theorem dL_law_546 : decode cL_law 546 = .ok (.iload_n 3, 1) := by decide +kernel
theorem dL_law_547 : decode cL_law 547 = .ok (.iconst 1, 1) := by decide +kernel
theorem dL_law_548 : decode cL_law 548 = .ok (.iadd, 1) := by decide +kernel
theorem dL_law_549 : decode cL_law 549 = .ok (.iaload, 1) := by decide +kernel
theorem dL_law_550 : decode cL_law 550 = .ok (.aload_n 0, 1) := by decide +kernel
theorem dL_law_551 : decode cL_law 551 = .ok (.iload_n 3, 1) := by decide +kernel
theorem dL_law_552 : decode cL_law 552 = .ok (.iconst 2, 1) := by decide +kernel
theorem dL_law_553 : decode cL_law 553 = .ok (.iadd, 1) := by decide +kernel
theorem dL_law_554 : decode cL_law 554 = .ok (.iaload, 1) := by decide +kernel
theorem dL_law_555 : decode cL_law 555 = .ok (.invokevirtual 69, 3) := by decide +kernel
theorem dL_law_558 : decode cL_law 558 = .ok (.pop, 1) := by decide +kernel
theorem dL_law_559 : decode cL_law 559 = .ok (.aload_n 2, 1) := by decide +kernel
theorem dL_law_560 : decode cL_law 560 = .ok (.aload_n 0, 1) := by decide +kernel
theorem dL_law_561 : decode cL_law 561 = .ok (.iload_n 3, 1) := by decide +kernel
theorem dL_law_562 : decode cL_law 562 = .ok (.iconst 1, 1) := by decide +kernel
theorem dL_law_563 : decode cL_law 563 = .ok (.iadd, 1) := by decide +kernel
theorem dL_law_564 : decode cL_law 564 = .ok (.iaload, 1) := by decide +kernel
theorem dL_law_565 : decode cL_law 565 = .ok (.aload_n 0, 1) := by decide +kernel
theorem dL_law_566 : decode cL_law 566 = .ok (.iload_n 3, 1) := by decide +kernel
theorem dL_law_567 : decode cL_law 567 = .ok (.iconst 2, 1) := by decide +kernel
theorem dL_law_568 : decode cL_law 568 = .ok (.iadd, 1) := by decide +kernel
theorem dL_law_569 : decode cL_law 569 = .ok (.iaload, 1) := by decide +kernel
theorem dL_law_570 : decode cL_law 570 = .ok (.invokevirtual 72, 3) := by decide +kernel
theorem dL_law_573 : decode cL_law 573 = .ok (.pop, 1) := by decide +kernel
theorem dL_law_574 : decode cL_law 574 = .ok (.goto 454, 3) := by decide +kernel
theorem dL_law_577 : decode cL_law 577 = .ok (.aload_n 1, 1) := by decide +kernel
theorem dL_law_578 : decode cL_law 578 = .ok (.aload_n 0, 1) := by decide +kernel
theorem dL_law_579 : decode cL_law 579 = .ok (.iload_n 3, 1) := by decide +kernel
theorem dL_law_580 : decode cL_law 580 = .ok (.iconst 1, 1) := by decide +kernel
theorem dL_law_581 : decode cL_law 581 = .ok (.iadd, 1) := by decide +kernel
theorem dL_law_582 : decode cL_law 582 = .ok (.iaload, 1) := by decide +kernel
theorem dL_law_583 : decode cL_law 583 = .ok (.invokevirtual 73, 3) := by decide +kernel
theorem dL_law_586 : decode cL_law 586 = .ok (.pop, 1) := by decide +kernel
theorem dL_law_587 : decode cL_law 587 = .ok (.aload_n 2, 1) := by decide +kernel
theorem dL_law_588 : decode cL_law 588 = .ok (.aload_n 0, 1) := by decide +kernel
theorem dL_law_589 : decode cL_law 589 = .ok (.iload_n 3, 1) := by decide +kernel
theorem dL_law_590 : decode cL_law 590 = .ok (.iconst 1, 1) := by decide +kernel
theorem dL_law_591 : decode cL_law 591 = .ok (.iadd, 1) := by decide +kernel
theorem dL_law_592 : decode cL_law 592 = .ok (.iaload, 1) := by decide +kernel
theorem dL_law_593 : decode cL_law 593 = .ok (.invokevirtual 76, 3) := by decide +kernel
theorem dL_law_596 : decode cL_law 596 = .ok (.pop, 1) := by decide +kernel
theorem dL_law_597 : decode cL_law 597 = .ok (.goto 431, 3) := by decide +kernel
theorem dL_law_600 : decode cL_law 600 = .ok (.aload_n 1, 1) := by decide +kernel
theorem dL_law_601 : decode cL_law 601 = .ok (.aload_n 0, 1) := by decide +kernel
theorem dL_law_602 : decode cL_law 602 = .ok (.iload_n 3, 1) := by decide +kernel
theorem dL_law_603 : decode cL_law 603 = .ok (.iconst 1, 1) := by decide +kernel
theorem dL_law_604 : decode cL_law 604 = .ok (.iadd, 1) := by decide +kernel
theorem dL_law_605 : decode cL_law 605 = .ok (.iaload, 1) := by decide +kernel
theorem dL_law_606 : decode cL_law 606 = .ok (.invokevirtual 77, 3) := by decide +kernel
theorem dL_law_609 : decode cL_law 609 = .ok (.pop, 1) := by decide +kernel
theorem dL_law_610 : decode cL_law 610 = .ok (.aload_n 2, 1) := by decide +kernel
theorem dL_law_611 : decode cL_law 611 = .ok (.aload_n 0, 1) := by decide +kernel
theorem dL_law_612 : decode cL_law 612 = .ok (.iload_n 3, 1) := by decide +kernel
theorem dL_law_613 : decode cL_law 613 = .ok (.iconst 1, 1) := by decide +kernel
theorem dL_law_614 : decode cL_law 614 = .ok (.iadd, 1) := by decide +kernel
theorem dL_law_615 : decode cL_law 615 = .ok (.iaload, 1) := by decide +kernel
theorem dL_law_616 : decode cL_law 616 = .ok (.invokevirtual 80, 3) := by decide +kernel
theorem dL_law_619 : decode cL_law 619 = .ok (.pop, 1) := by decide +kernel
theorem dL_law_620 : decode cL_law 620 = .ok (.goto 408, 3) := by decide +kernel
theorem dL_law_623 : decode cL_law 623 = .ok (.aload_n 1, 1) := by decide +kernel
theorem dL_law_624 : decode cL_law 624 = .ok (.invokevirtual 81, 3) := by decide +kernel
theorem dL_law_627 : decode cL_law 627 = .ok (.pop, 1) := by decide +kernel
theorem dL_law_628 : decode cL_law 628 = .ok (.aload_n 2, 1) := by decide +kernel
theorem dL_law_629 : decode cL_law 629 = .ok (.invokevirtual 84, 3) := by decide +kernel
theorem dL_law_632 : decode cL_law 632 = .ok (.pop, 1) := by decide +kernel
theorem dL_law_633 : decode cL_law 633 = .ok (.goto 395, 3) := by decide +kernel
theorem dL_law_636 : decode cL_law 636 = .ok (.aload_n 1, 1) := by decide +kernel
theorem dL_law_637 : decode cL_law 637 = .ok (.aload_n 0, 1) := by decide +kernel
theorem dL_law_638 : decode cL_law 638 = .ok (.iload_n 3, 1) := by decide +kernel
theorem dL_law_639 : decode cL_law 639 = .ok (.iconst 1, 1) := by decide +kernel
theorem dL_law_640 : decode cL_law 640 = .ok (.iadd, 1) := by decide +kernel
theorem dL_law_641 : decode cL_law 641 = .ok (.iaload, 1) := by decide +kernel
theorem dL_law_642 : decode cL_law 642 = .ok (.aload_n 0, 1) := by decide +kernel
theorem dL_law_643 : decode cL_law 643 = .ok (.iload_n 3, 1) := by decide +kernel
theorem dL_law_644 : decode cL_law 644 = .ok (.iconst 2, 1) := by decide +kernel
theorem dL_law_645 : decode cL_law 645 = .ok (.iadd, 1) := by decide +kernel
theorem dL_law_646 : decode cL_law 646 = .ok (.iaload, 1) := by decide +kernel
theorem dL_law_647 : decode cL_law 647 = .ok (.aload_n 0, 1) := by decide +kernel
theorem dL_law_648 : decode cL_law 648 = .ok (.iload_n 3, 1) := by decide +kernel
theorem dL_law_649 : decode cL_law 649 = .ok (.iconst 3, 1) := by decide +kernel
theorem dL_law_650 : decode cL_law 650 = .ok (.iadd, 1) := by decide +kernel
theorem dL_law_651 : decode cL_law 651 = .ok (.iaload, 1) := by decide +kernel
theorem dL_law_652 : decode cL_law 652 = .ok (.invokevirtual 85, 3) := by decide +kernel
theorem dL_law_655 : decode cL_law 655 = .ok (.pop, 1) := by decide +kernel
theorem dL_law_656 : decode cL_law 656 = .ok (.aload_n 2, 1) := by decide +kernel
theorem dL_law_657 : decode cL_law 657 = .ok (.aload_n 0, 1) := by decide +kernel
theorem dL_law_658 : decode cL_law 658 = .ok (.iload_n 3, 1) := by decide +kernel
theorem dL_law_659 : decode cL_law 659 = .ok (.iconst 1, 1) := by decide +kernel
theorem dL_law_660 : decode cL_law 660 = .ok (.iadd, 1) := by decide +kernel
theorem dL_law_661 : decode cL_law 661 = .ok (.iaload, 1) := by decide +kernel
theorem dL_law_662 : decode cL_law 662 = .ok (.aload_n 0, 1) := by decide +kernel
theorem dL_law_663 : decode cL_law 663 = .ok (.iload_n 3, 1) := by decide +kernel
theorem dL_law_664 : decode cL_law 664 = .ok (.iconst 2, 1) := by decide +kernel
theorem dL_law_665 : decode cL_law 665 = .ok (.iadd, 1) := by decide +kernel
theorem dL_law_666 : decode cL_law 666 = .ok (.iaload, 1) := by decide +kernel
theorem dL_law_667 : decode cL_law 667 = .ok (.aload_n 0, 1) := by decide +kernel
theorem dL_law_668 : decode cL_law 668 = .ok (.iload_n 3, 1) := by decide +kernel
theorem dL_law_669 : decode cL_law 669 = .ok (.iconst 3, 1) := by decide +kernel
theorem dL_law_670 : decode cL_law 670 = .ok (.iadd, 1) := by decide +kernel
theorem dL_law_671 : decode cL_law 671 = .ok (.iaload, 1) := by decide +kernel
theorem dL_law_672 : decode cL_law 672 = .ok (.invokevirtual 88, 3) := by decide +kernel
theorem dL_law_675 : decode cL_law 675 = .ok (.pop, 1) := by decide +kernel
theorem dL_law_676 : decode cL_law 676 = .ok (.goto 352, 3) := by decide +kernel
theorem dL_law_679 : decode cL_law 679 = .ok (.aload_n 1, 1) := by decide +kernel
theorem dL_law_680 : decode cL_law 680 = .ok (.aload_n 0, 1) := by decide +kernel
theorem dL_law_681 : decode cL_law 681 = .ok (.iload_n 3, 1) := by decide +kernel
theorem dL_law_682 : decode cL_law 682 = .ok (.iconst 1, 1) := by decide +kernel
theorem dL_law_683 : decode cL_law 683 = .ok (.iadd, 1) := by decide +kernel
theorem dL_law_684 : decode cL_law 684 = .ok (.iaload, 1) := by decide +kernel
theorem dL_law_685 : decode cL_law 685 = .ok (.invokevirtual 89, 3) := by decide +kernel
theorem dL_law_688 : decode cL_law 688 = .ok (.pop, 1) := by decide +kernel
theorem dL_law_689 : decode cL_law 689 = .ok (.aload_n 2, 1) := by decide +kernel
theorem dL_law_690 : decode cL_law 690 = .ok (.aload_n 0, 1) := by decide +kernel
theorem dL_law_691 : decode cL_law 691 = .ok (.iload_n 3, 1) := by decide +kernel
theorem dL_law_692 : decode cL_law 692 = .ok (.iconst 1, 1) := by decide +kernel
theorem dL_law_693 : decode cL_law 693 = .ok (.iadd, 1) := by decide +kernel
theorem dL_law_694 : decode cL_law 694 = .ok (.iaload, 1) := by decide +kernel
theorem dL_law_695 : decode cL_law 695 = .ok (.invokevirtual 92, 3) := by decide +kernel
theorem dL_law_698 : decode cL_law 698 = .ok (.pop, 1) := by decide +kernel
theorem dL_law_699 : decode cL_law 699 = .ok (.goto 329, 3) := by decide +kernel
theorem dL_law_702 : decode cL_law 702 = .ok (.aload_n 1, 1) := by decide +kernel
theorem dL_law_703 : decode cL_law 703 = .ok (.aload_n 0, 1) := by decide +kernel
theorem dL_law_704 : decode cL_law 704 = .ok (.iload_n 3, 1) := by decide +kernel
theorem dL_law_705 : decode cL_law 705 = .ok (.iconst 1, 1) := by decide +kernel
theorem dL_law_706 : decode cL_law 706 = .ok (.iadd, 1) := by decide +kernel
theorem dL_law_707 : decode cL_law 707 = .ok (.iaload, 1) := by decide +kernel
theorem dL_law_708 : decode cL_law 708 = .ok (.aload_n 0, 1) := by decide +kernel
theorem dL_law_709 : decode cL_law 709 = .ok (.iload_n 3, 1) := by decide +kernel
theorem dL_law_710 : decode cL_law 710 = .ok (.iconst 2, 1) := by decide +kernel
theorem dL_law_711 : decode cL_law 711 = .ok (.iadd, 1) := by decide +kernel
theorem dL_law_712 : decode cL_law 712 = .ok (.iaload, 1) := by decide +kernel
theorem dL_law_713 : decode cL_law 713 = .ok (.aload_n 0, 1) := by decide +kernel
theorem dL_law_714 : decode cL_law 714 = .ok (.iload_n 3, 1) := by decide +kernel
theorem dL_law_715 : decode cL_law 715 = .ok (.iconst 3, 1) := by decide +kernel
theorem dL_law_716 : decode cL_law 716 = .ok (.iadd, 1) := by decide +kernel
theorem dL_law_717 : decode cL_law 717 = .ok (.iaload, 1) := by decide +kernel
theorem dL_law_718 : decode cL_law 718 = .ok (.aload_n 0, 1) := by decide +kernel
theorem dL_law_719 : decode cL_law 719 = .ok (.iload_n 3, 1) := by decide +kernel
theorem dL_law_720 : decode cL_law 720 = .ok (.iconst 4, 1) := by decide +kernel
theorem dL_law_721 : decode cL_law 721 = .ok (.iadd, 1) := by decide +kernel
theorem dL_law_722 : decode cL_law 722 = .ok (.iaload, 1) := by decide +kernel
theorem dL_law_723 : decode cL_law 723 = .ok (.invokevirtual 93, 3) := by decide +kernel
theorem dL_law_726 : decode cL_law 726 = .ok (.pop, 1) := by decide +kernel
theorem dL_law_727 : decode cL_law 727 = .ok (.aload_n 2, 1) := by decide +kernel
theorem dL_law_728 : decode cL_law 728 = .ok (.aload_n 0, 1) := by decide +kernel
theorem dL_law_729 : decode cL_law 729 = .ok (.iload_n 3, 1) := by decide +kernel
theorem dL_law_730 : decode cL_law 730 = .ok (.iconst 1, 1) := by decide +kernel
theorem dL_law_731 : decode cL_law 731 = .ok (.iadd, 1) := by decide +kernel
theorem dL_law_732 : decode cL_law 732 = .ok (.iaload, 1) := by decide +kernel
theorem dL_law_733 : decode cL_law 733 = .ok (.aload_n 0, 1) := by decide +kernel
theorem dL_law_734 : decode cL_law 734 = .ok (.iload_n 3, 1) := by decide +kernel
theorem dL_law_735 : decode cL_law 735 = .ok (.iconst 2, 1) := by decide +kernel
theorem dL_law_736 : decode cL_law 736 = .ok (.iadd, 1) := by decide +kernel
theorem dL_law_737 : decode cL_law 737 = .ok (.iaload, 1) := by decide +kernel
theorem dL_law_738 : decode cL_law 738 = .ok (.aload_n 0, 1) := by decide +kernel
theorem dL_law_739 : decode cL_law 739 = .ok (.iload_n 3, 1) := by decide +kernel
theorem dL_law_740 : decode cL_law 740 = .ok (.iconst 3, 1) := by decide +kernel
theorem dL_law_741 : decode cL_law 741 = .ok (.iadd, 1) := by decide +kernel
theorem dL_law_742 : decode cL_law 742 = .ok (.iaload, 1) := by decide +kernel
theorem dL_law_743 : decode cL_law 743 = .ok (.aload_n 0, 1) := by decide +kernel
theorem dL_law_744 : decode cL_law 744 = .ok (.iload_n 3, 1) := by decide +kernel
theorem dL_law_745 : decode cL_law 745 = .ok (.iconst 4, 1) := by decide +kernel
theorem dL_law_746 : decode cL_law 746 = .ok (.iadd, 1) := by decide +kernel
theorem dL_law_747 : decode cL_law 747 = .ok (.iaload, 1) := by decide +kernel
theorem dL_law_748 : decode cL_law 748 = .ok (.invokevirtual 97, 3) := by decide +kernel
theorem dL_law_751 : decode cL_law 751 = .ok (.pop, 1) := by decide +kernel
theorem dL_law_752 : decode cL_law 752 = .ok (.goto 276, 3) := by decide +kernel
theorem dL_law_755 : decode cL_law 755 = .ok (.aload_n 1, 1) := by decide +kernel
theorem dL_law_756 : decode cL_law 756 = .ok (.aload_n 0, 1) := by decide +kernel
theorem dL_law_757 : decode cL_law 757 = .ok (.iload_n 3, 1) := by decide +kernel
theorem dL_law_758 : decode cL_law 758 = .ok (.iconst 1, 1) := by decide +kernel
theorem dL_law_759 : decode cL_law 759 = .ok (.iadd, 1) := by decide +kernel
theorem dL_law_760 : decode cL_law 760 = .ok (.iaload, 1) := by decide +kernel
theorem dL_law_761 : decode cL_law 761 = .ok (.invokevirtual 98, 3) := by decide +kernel
theorem dL_law_764 : decode cL_law 764 = .ok (.pop, 1) := by decide +kernel
theorem dL_law_765 : decode cL_law 765 = .ok (.aload_n 2, 1) := by decide +kernel
theorem dL_law_766 : decode cL_law 766 = .ok (.aload_n 0, 1) := by decide +kernel
theorem dL_law_767 : decode cL_law 767 = .ok (.iload_n 3, 1) := by decide +kernel
theorem dL_law_768 : decode cL_law 768 = .ok (.iconst 1, 1) := by decide +kernel
theorem dL_law_769 : decode cL_law 769 = .ok (.iadd, 1) := by decide +kernel
theorem dL_law_770 : decode cL_law 770 = .ok (.iaload, 1) := by decide +kernel
theorem dL_law_771 : decode cL_law 771 = .ok (.invokevirtual 101, 3) := by decide +kernel
theorem dL_law_774 : decode cL_law 774 = .ok (.pop, 1) := by decide +kernel
theorem dL_law_775 : decode cL_law 775 = .ok (.goto 253, 3) := by decide +kernel
theorem dL_law_778 : decode cL_law 778 = .ok (.aload_n 1, 1) := by decide +kernel
theorem dL_law_779 : decode cL_law 779 = .ok (.invokevirtual 102, 3) := by decide +kernel
theorem dL_law_782 : decode cL_law 782 = .ok (.pop, 1) := by decide +kernel
theorem dL_law_783 : decode cL_law 783 = .ok (.aload_n 2, 1) := by decide +kernel
theorem dL_law_784 : decode cL_law 784 = .ok (.invokevirtual 105, 3) := by decide +kernel
theorem dL_law_787 : decode cL_law 787 = .ok (.pop, 1) := by decide +kernel
theorem dL_law_788 : decode cL_law 788 = .ok (.goto 240, 3) := by decide +kernel
theorem dL_law_791 : decode cL_law 791 = .ok (.aload_n 1, 1) := by decide +kernel
theorem dL_law_792 : decode cL_law 792 = .ok (.aload_n 0, 1) := by decide +kernel
theorem dL_law_793 : decode cL_law 793 = .ok (.iload_n 3, 1) := by decide +kernel
theorem dL_law_794 : decode cL_law 794 = .ok (.iconst 1, 1) := by decide +kernel
theorem dL_law_795 : decode cL_law 795 = .ok (.iadd, 1) := by decide +kernel
theorem dL_law_796 : decode cL_law 796 = .ok (.iaload, 1) := by decide +kernel
theorem dL_law_797 : decode cL_law 797 = .ok (.aload_n 0, 1) := by decide +kernel
theorem dL_law_798 : decode cL_law 798 = .ok (.iload_n 3, 1) := by decide +kernel
theorem dL_law_799 : decode cL_law 799 = .ok (.iconst 2, 1) := by decide +kernel
theorem dL_law_800 : decode cL_law 800 = .ok (.iadd, 1) := by decide +kernel
theorem dL_law_801 : decode cL_law 801 = .ok (.iaload, 1) := by decide +kernel
theorem dL_law_802 : decode cL_law 802 = .ok (.aload_n 0, 1) := by decide +kernel
theorem dL_law_803 : decode cL_law 803 = .ok (.iload_n 3, 1) := by decide +kernel
theorem dL_law_804 : decode cL_law 804 = .ok (.iconst 3, 1) := by decide +kernel
theorem dL_law_805 : decode cL_law 805 = .ok (.iadd, 1) := by decide +kernel
theorem dL_law_806 : decode cL_law 806 = .ok (.iaload, 1) := by decide +kernel
theorem dL_law_807 : decode cL_law 807 = .ok (.invokevirtual 106, 3) := by decide +kernel
theorem dL_law_810 : decode cL_law 810 = .ok (.pop, 1) := by decide +kernel
theorem dL_law_811 : decode cL_law 811 = .ok (.aload_n 2, 1) := by decide +kernel
theorem dL_law_812 : decode cL_law 812 = .ok (.aload_n 0, 1) := by decide +kernel
theorem dL_law_813 : decode cL_law 813 = .ok (.iload_n 3, 1) := by decide +kernel
theorem dL_law_814 : decode cL_law 814 = .ok (.iconst 1, 1) := by decide +kernel
theorem dL_law_815 : decode cL_law 815 = .ok (.iadd, 1) := by decide +kernel
theorem dL_law_816 : decode cL_law 816 = .ok (.iaload, 1) := by decide +kernel
theorem dL_law_817 : decode cL_law 817 = .ok (.aload_n 0, 1) := by decide +kernel
theorem dL_law_818 : decode cL_law 818 = .ok (.iload_n 3, 1) := by decide +kernel
theorem dL_law_819 : decode cL_law 819 = .ok (.iconst 2, 1) := by decide +kernel
theorem dL_law_820 : decode cL_law 820 = .ok (.iadd, 1) := by decide +kernel
theorem dL_law_821 : decode cL_law 821 = .ok (.iaload, 1) := by decide +kernel
theorem dL_law_822 : decode cL_law 822 = .ok (.aload_n 0, 1) := by decide +kernel
theorem dL_law_823 : decode cL_law 823 = .ok (.iload_n 3, 1) := by decide +kernel
theorem dL_law_824 : decode cL_law 824 = .ok (.iconst 3, 1) := by decide +kernel
theorem dL_law_825 : decode cL_law 825 = .ok (.iadd, 1) := by decide +kernel
theorem dL_law_826 : decode cL_law 826 = .ok (.iaload, 1) := by decide +kernel
theorem dL_law_827 : decode cL_law 827 = .ok (.invokevirtual 109, 3) := by decide +kernel
theorem dL_law_830 : decode cL_law 830 = .ok (.pop, 1) := by decide +kernel
theorem dL_law_831 : decode cL_law 831 = .ok (.goto 197, 3) := by decide +kernel
theorem dL_law_834 : decode cL_law 834 = .ok (.aload_n 1, 1) := by decide +kernel
theorem dL_law_835 : decode cL_law 835 = .ok (.aload_n 0, 1) := by decide +kernel
theorem dL_law_836 : decode cL_law 836 = .ok (.iload_n 3, 1) := by decide +kernel
theorem dL_law_837 : decode cL_law 837 = .ok (.iconst 1, 1) := by decide +kernel
theorem dL_law_838 : decode cL_law 838 = .ok (.iadd, 1) := by decide +kernel
theorem dL_law_839 : decode cL_law 839 = .ok (.iaload, 1) := by decide +kernel
theorem dL_law_840 : decode cL_law 840 = .ok (.invokevirtual 110, 3) := by decide +kernel
theorem dL_law_843 : decode cL_law 843 = .ok (.pop, 1) := by decide +kernel
theorem dL_law_844 : decode cL_law 844 = .ok (.aload_n 2, 1) := by decide +kernel
theorem dL_law_845 : decode cL_law 845 = .ok (.aload_n 0, 1) := by decide +kernel
theorem dL_law_846 : decode cL_law 846 = .ok (.iload_n 3, 1) := by decide +kernel
theorem dL_law_847 : decode cL_law 847 = .ok (.iconst 1, 1) := by decide +kernel
theorem dL_law_848 : decode cL_law 848 = .ok (.iadd, 1) := by decide +kernel
theorem dL_law_849 : decode cL_law 849 = .ok (.iaload, 1) := by decide +kernel
theorem dL_law_850 : decode cL_law 850 = .ok (.invokevirtual 113, 3) := by decide +kernel
theorem dL_law_853 : decode cL_law 853 = .ok (.pop, 1) := by decide +kernel
theorem dL_law_854 : decode cL_law 854 = .ok (.goto 174, 3) := by decide +kernel
theorem dL_law_857 : decode cL_law 857 = .ok (.aload_n 1, 1) := by decide +kernel
theorem dL_law_858 : decode cL_law 858 = .ok (.aload_n 0, 1) := by decide +kernel
theorem dL_law_859 : decode cL_law 859 = .ok (.iload_n 3, 1) := by decide +kernel
theorem dL_law_860 : decode cL_law 860 = .ok (.iconst 1, 1) := by decide +kernel
theorem dL_law_861 : decode cL_law 861 = .ok (.iadd, 1) := by decide +kernel
theorem dL_law_862 : decode cL_law 862 = .ok (.iaload, 1) := by decide +kernel
theorem dL_law_863 : decode cL_law 863 = .ok (.invokevirtual 114, 3) := by decide +kernel
theorem dL_law_866 : decode cL_law 866 = .ok (.pop, 1) := by decide +kernel
theorem dL_law_867 : decode cL_law 867 = .ok (.aload_n 2, 1) := by decide +kernel
theorem dL_law_868 : decode cL_law 868 = .ok (.aload_n 0, 1) := by decide +kernel
theorem dL_law_869 : decode cL_law 869 = .ok (.iload_n 3, 1) := by decide +kernel
theorem dL_law_870 : decode cL_law 870 = .ok (.iconst 1, 1) := by decide +kernel
theorem dL_law_871 : decode cL_law 871 = .ok (.iadd, 1) := by decide +kernel
theorem dL_law_872 : decode cL_law 872 = .ok (.iaload, 1) := by decide +kernel
theorem dL_law_873 : decode cL_law 873 = .ok (.invokevirtual 117, 3) := by decide +kernel
theorem dL_law_876 : decode cL_law 876 = .ok (.pop, 1) := by decide +kernel
theorem dL_law_877 : decode cL_law 877 = .ok (.goto 151, 3) := by decide +kernel
theorem dL_law_880 : decode cL_law 880 = .ok (.aload_n 1, 1) := by decide +kernel
theorem dL_law_881 : decode cL_law 881 = .ok (.aload_n 0, 1) := by decide +kernel
theorem dL_law_882 : decode cL_law 882 = .ok (.iload_n 3, 1) := by decide +kernel
theorem dL_law_883 : decode cL_law 883 = .ok (.iconst 1, 1) := by decide +kernel
theorem dL_law_884 : decode cL_law 884 = .ok (.iadd, 1) := by decide +kernel
theorem dL_law_885 : decode cL_law 885 = .ok (.iaload, 1) := by decide +kernel
theorem dL_law_886 : decode cL_law 886 = .ok (.invokevirtual 118, 3) := by decide +kernel
theorem dL_law_889 : decode cL_law 889 = .ok (.pop, 1) := by decide +kernel
theorem dL_law_890 : decode cL_law 890 = .ok (.aload_n 2, 1) := by decide +kernel
theorem dL_law_891 : decode cL_law 891 = .ok (.aload_n 0, 1) := by decide +kernel
theorem dL_law_892 : decode cL_law 892 = .ok (.iload_n 3, 1) := by decide +kernel
theorem dL_law_893 : decode cL_law 893 = .ok (.iconst 1, 1) := by decide +kernel
theorem dL_law_894 : decode cL_law 894 = .ok (.iadd, 1) := by decide +kernel
theorem dL_law_895 : decode cL_law 895 = .ok (.iaload, 1) := by decide +kernel
theorem dL_law_896 : decode cL_law 896 = .ok (.invokevirtual 121, 3) := by decide +kernel
theorem dL_law_899 : decode cL_law 899 = .ok (.pop, 1) := by decide +kernel
theorem dL_law_900 : decode cL_law 900 = .ok (.goto 128, 3) := by decide +kernel
theorem dL_law_903 : decode cL_law 903 = .ok (.aload_n 1, 1) := by decide +kernel
theorem dL_law_904 : decode cL_law 904 = .ok (.aload_n 0, 1) := by decide +kernel
theorem dL_law_905 : decode cL_law 905 = .ok (.iload_n 3, 1) := by decide +kernel
theorem dL_law_906 : decode cL_law 906 = .ok (.iconst 1, 1) := by decide +kernel
theorem dL_law_907 : decode cL_law 907 = .ok (.iadd, 1) := by decide +kernel
theorem dL_law_908 : decode cL_law 908 = .ok (.iaload, 1) := by decide +kernel
theorem dL_law_909 : decode cL_law 909 = .ok (.aload_n 0, 1) := by decide +kernel
theorem dL_law_910 : decode cL_law 910 = .ok (.iload_n 3, 1) := by decide +kernel
theorem dL_law_911 : decode cL_law 911 = .ok (.iconst 2, 1) := by decide +kernel
theorem dL_law_912 : decode cL_law 912 = .ok (.iadd, 1) := by decide +kernel
theorem dL_law_913 : decode cL_law 913 = .ok (.iaload, 1) := by decide +kernel
theorem dL_law_914 : decode cL_law 914 = .ok (.invokevirtual 122, 3) := by decide +kernel
theorem dL_law_917 : decode cL_law 917 = .ok (.aload_n 2, 1) := by decide +kernel
theorem dL_law_918 : decode cL_law 918 = .ok (.aload_n 0, 1) := by decide +kernel
theorem dL_law_919 : decode cL_law 919 = .ok (.iload_n 3, 1) := by decide +kernel
theorem dL_law_920 : decode cL_law 920 = .ok (.iconst 1, 1) := by decide +kernel
theorem dL_law_921 : decode cL_law 921 = .ok (.iadd, 1) := by decide +kernel
theorem dL_law_922 : decode cL_law 922 = .ok (.iaload, 1) := by decide +kernel
theorem dL_law_923 : decode cL_law 923 = .ok (.aload_n 0, 1) := by decide +kernel
theorem dL_law_924 : decode cL_law 924 = .ok (.iload_n 3, 1) := by decide +kernel
theorem dL_law_925 : decode cL_law 925 = .ok (.iconst 2, 1) := by decide +kernel
theorem dL_law_926 : decode cL_law 926 = .ok (.iadd, 1) := by decide +kernel
theorem dL_law_927 : decode cL_law 927 = .ok (.iaload, 1) := by decide +kernel
theorem dL_law_928 : decode cL_law 928 = .ok (.invokevirtual 125, 3) := by decide +kernel
theorem dL_law_931 : decode cL_law 931 = .ok (.if_icmp .eq 97, 3) := by decide +kernel
theorem dL_law_934 : decode cL_law 934 = .ok (.iconst 0, 1) := by decide +kernel
theorem dL_law_935 : decode cL_law 935 = .ok (.ireturn, 1) := by decide +kernel
theorem dL_law_936 : decode cL_law 936 = .ok (.aload_n 1, 1) := by decide +kernel
theorem dL_law_937 : decode cL_law 937 = .ok (.aload_n 0, 1) := by decide +kernel
theorem dL_law_938 : decode cL_law 938 = .ok (.iload_n 3, 1) := by decide +kernel
theorem dL_law_939 : decode cL_law 939 = .ok (.iconst 1, 1) := by decide +kernel
theorem dL_law_940 : decode cL_law 940 = .ok (.iadd, 1) := by decide +kernel
theorem dL_law_941 : decode cL_law 941 = .ok (.iaload, 1) := by decide +kernel
theorem dL_law_942 : decode cL_law 942 = .ok (.aload_n 0, 1) := by decide +kernel
theorem dL_law_943 : decode cL_law 943 = .ok (.iload_n 3, 1) := by decide +kernel
theorem dL_law_944 : decode cL_law 944 = .ok (.iconst 2, 1) := by decide +kernel
theorem dL_law_945 : decode cL_law 945 = .ok (.iadd, 1) := by decide +kernel
theorem dL_law_946 : decode cL_law 946 = .ok (.iaload, 1) := by decide +kernel
theorem dL_law_947 : decode cL_law 947 = .ok (.invokevirtual 126, 3) := by decide +kernel
theorem dL_law_950 : decode cL_law 950 = .ok (.pop, 1) := by decide +kernel
theorem dL_law_951 : decode cL_law 951 = .ok (.aload_n 2, 1) := by decide +kernel
theorem dL_law_952 : decode cL_law 952 = .ok (.aload_n 0, 1) := by decide +kernel
theorem dL_law_953 : decode cL_law 953 = .ok (.iload_n 3, 1) := by decide +kernel
theorem dL_law_954 : decode cL_law 954 = .ok (.iconst 1, 1) := by decide +kernel
theorem dL_law_955 : decode cL_law 955 = .ok (.iadd, 1) := by decide +kernel
theorem dL_law_956 : decode cL_law 956 = .ok (.iaload, 1) := by decide +kernel
theorem dL_law_957 : decode cL_law 957 = .ok (.aload_n 0, 1) := by decide +kernel
theorem dL_law_958 : decode cL_law 958 = .ok (.iload_n 3, 1) := by decide +kernel
theorem dL_law_959 : decode cL_law 959 = .ok (.iconst 2, 1) := by decide +kernel
theorem dL_law_960 : decode cL_law 960 = .ok (.iadd, 1) := by decide +kernel
theorem dL_law_961 : decode cL_law 961 = .ok (.iaload, 1) := by decide +kernel
theorem dL_law_962 : decode cL_law 962 = .ok (.invokevirtual 129, 3) := by decide +kernel
theorem dL_law_965 : decode cL_law 965 = .ok (.pop, 1) := by decide +kernel
theorem dL_law_966 : decode cL_law 966 = .ok (.goto 62, 3) := by decide +kernel
theorem dL_law_969 : decode cL_law 969 = .ok (.aload_n 1, 1) := by decide +kernel
theorem dL_law_970 : decode cL_law 970 = .ok (.aload_n 0, 1) := by decide +kernel
theorem dL_law_971 : decode cL_law 971 = .ok (.iload_n 3, 1) := by decide +kernel
theorem dL_law_972 : decode cL_law 972 = .ok (.iconst 1, 1) := by decide +kernel
theorem dL_law_973 : decode cL_law 973 = .ok (.iadd, 1) := by decide +kernel
theorem dL_law_974 : decode cL_law 974 = .ok (.iaload, 1) := by decide +kernel
theorem dL_law_975 : decode cL_law 975 = .ok (.invokevirtual 130, 3) := by decide +kernel
theorem dL_law_978 : decode cL_law 978 = .ok (.pop, 1) := by decide +kernel
theorem dL_law_979 : decode cL_law 979 = .ok (.aload_n 2, 1) := by decide +kernel
theorem dL_law_980 : decode cL_law 980 = .ok (.aload_n 0, 1) := by decide +kernel
theorem dL_law_981 : decode cL_law 981 = .ok (.iload_n 3, 1) := by decide +kernel
theorem dL_law_982 : decode cL_law 982 = .ok (.iconst 1, 1) := by decide +kernel
theorem dL_law_983 : decode cL_law 983 = .ok (.iadd, 1) := by decide +kernel
theorem dL_law_984 : decode cL_law 984 = .ok (.iaload, 1) := by decide +kernel
theorem dL_law_985 : decode cL_law 985 = .ok (.invokevirtual 133, 3) := by decide +kernel
theorem dL_law_988 : decode cL_law 988 = .ok (.pop, 1) := by decide +kernel
theorem dL_law_989 : decode cL_law 989 = .ok (.goto 39, 3) := by decide +kernel
theorem dL_law_992 : decode cL_law 992 = .ok (.aload_n 1, 1) := by decide +kernel
theorem dL_law_993 : decode cL_law 993 = .ok (.aload_n 0, 1) := by decide +kernel
theorem dL_law_994 : decode cL_law 994 = .ok (.iload_n 3, 1) := by decide +kernel
theorem dL_law_995 : decode cL_law 995 = .ok (.iconst 1, 1) := by decide +kernel
theorem dL_law_996 : decode cL_law 996 = .ok (.iadd, 1) := by decide +kernel
theorem dL_law_997 : decode cL_law 997 = .ok (.iaload, 1) := by decide +kernel
theorem dL_law_998 : decode cL_law 998 = .ok (.invokevirtual 134, 3) := by decide +kernel
theorem dL_law_1001 : decode cL_law 1001 = .ok (.pop, 1) := by decide +kernel
theorem dL_law_1002 : decode cL_law 1002 = .ok (.aload_n 2, 1) := by decide +kernel
theorem dL_law_1003 : decode cL_law 1003 = .ok (.aload_n 0, 1) := by decide +kernel
theorem dL_law_1004 : decode cL_law 1004 = .ok (.iload_n 3, 1) := by decide +kernel
theorem dL_law_1005 : decode cL_law 1005 = .ok (.iconst 1, 1) := by decide +kernel
theorem dL_law_1006 : decode cL_law 1006 = .ok (.iadd, 1) := by decide +kernel
theorem dL_law_1007 : decode cL_law 1007 = .ok (.iaload, 1) := by decide +kernel
theorem dL_law_1008 : decode cL_law 1008 = .ok (.invokevirtual 137, 3) := by decide +kernel
theorem dL_law_1011 : decode cL_law 1011 = .ok (.pop, 1) := by decide +kernel
theorem dL_law_1012 : decode cL_law 1012 = .ok (.goto 16, 3) := by decide +kernel
theorem dL_law_1015 : decode cL_law 1015 = .ok (.aload_n 1, 1) := by decide +kernel
theorem dL_law_1016 : decode cL_law 1016 = .ok (.invokevirtual 138, 3) := by decide +kernel
theorem dL_law_1019 : decode cL_law 1019 = .ok (.pop, 1) := by decide +kernel
theorem dL_law_1020 : decode cL_law 1020 = .ok (.aload_n 2, 1) := by decide +kernel
theorem dL_law_1021 : decode cL_law 1021 = .ok (.invokevirtual 141, 3) := by decide +kernel
theorem dL_law_1024 : decode cL_law 1024 = .ok (.pop, 1) := by decide +kernel
theorem dL_law_1025 : decode cL_law 1025 = .ok (.goto 3, 3) := by decide +kernel
theorem dL_law_1028 : decode cL_law 1028 = .ok (.iinc 3 6, 3) := by decide +kernel
theorem dL_law_1031 : decode cL_law 1031 = .ok (.goto (-1013), 3) := by decide +kernel
theorem dL_law_1034 : decode cL_law 1034 = .ok (.iconst 1, 1) := by decide +kernel
theorem dL_law_1035 : decode cL_law 1035 = .ok (.ireturn, 1) := by decide +kernel

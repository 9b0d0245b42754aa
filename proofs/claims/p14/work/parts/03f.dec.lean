theorem dX12_encode_112 : decode cX12_encode 112 = .ok (.invokevirtual 339, 3) := by decide +kernel
theorem dX12_encode_115 : decode cX12_encode 115 = .ok (.iinc 3 1, 3) := by decide +kernel
theorem dX12_encode_118 : decode cX12_encode 118 = .ok (.goto (-50), 3) := by decide +kernel
theorem dX12_encode_121 : decode cX12_encode 121 = .ok (.aload_n 0, 1) := by decide +kernel
theorem dX12_encode_122 : decode cX12_encode 122 = .ok (.iconst 0, 1) := by decide +kernel
theorem dX12_encode_123 : decode cX12_encode 123 = .ok (.aload_n 0, 1) := by decide +kernel
theorem dX12_encode_124 : decode cX12_encode 124 = .ok (.getfield 16, 3) := by decide +kernel
theorem dX12_encode_127 : decode cX12_encode 127 = .ok (.aload_n 0, 1) := by decide +kernel
theorem dX12_encode_128 : decode cX12_encode 128 = .ok (.getfield 20, 3) := by decide +kernel
theorem dX12_encode_131 : decode cX12_encode 131 = .ok (.iload_n 1, 1) := by decide +kernel
theorem dX12_encode_132 : decode cX12_encode 132 = .ok (.invokevirtual 342, 3) := by decide +kernel
theorem dX12_encode_135 : decode cX12_encode 135 = .ok (.aload_n 0, 1) := by decide +kernel
theorem dX12_encode_136 : decode cX12_encode 136 = .ok (.iconst 3, 1) := by decide +kernel
theorem dX12_encode_137 : decode cX12_encode 137 = .ok (.iload_n 1, 1) := by decide +kernel
theorem dX12_encode_138 : decode cX12_encode 138 = .ok (.imul, 1) := by decide +kernel
theorem dX12_encode_139 : decode cX12_encode 139 = .ok (.iconst 1, 1) := by decide +kernel
theorem dX12_encode_140 : decode cX12_encode 140 = .ok (.iadd, 1) := by decide +kernel
theorem dX12_encode_141 : decode cX12_encode 141 = .ok (.putfield 345, 3) := by decide +kernel
theorem dX12_encode_144 : decode cX12_encode 144 = .ok (.iconst 0, 1) := by decide +kernel
theorem dX12_encode_145 : decode cX12_encode 145 = .ok (.istore_n 3, 1) := by decide +kernel
theorem dX12_encode_146 : decode cX12_encode 146 = .ok (.iconst 0, 1) := by decide +kernel
theorem dX12_encode_147 : decode cX12_encode 147 = .ok (.istore 4, 2) := by decide +kernel
theorem dX12_encode_149 : decode cX12_encode 149 = .ok (.iload 4, 2) := by decide +kernel
theorem dX12_encode_151 : decode cX12_encode 151 = .ok (.aload_n 0, 1) := by decide +kernel
theorem dX12_encode_152 : decode cX12_encode 152 = .ok (.getfield 345, 3) := by decide +kernel
theorem dX12_encode_155 : decode cX12_encode 155 = .ok (.if_icmp .ge 46, 3) := by decide +kernel
theorem dX12_encode_158 : decode cX12_encode 158 = .ok (.aload_n 0, 1) := by decide +kernel
theorem dX12_encode_159 : decode cX12_encode 159 = .ok (.iload 4, 2) := by decide +kernel
theorem dX12_encode_161 : decode cX12_encode 161 = .ok (.iload 4, 2) := by decide +kernel
theorem dX12_encode_163 : decode cX12_encode 163 = .ok (.aload_n 0, 1) := by decide +kernel
theorem dX12_encode_164 : decode cX12_encode 164 = .ok (.getfield 16, 3) := by decide +kernel
theorem dX12_encode_167 : decode cX12_encode 167 = .ok (.aload_n 0, 1) := by decide +kernel
theorem dX12_encode_168 : decode cX12_encode 168 = .ok (.getfield 20, 3) := by decide +kernel
theorem dX12_encode_171 : decode cX12_encode 171 = .ok (.iload_n 1, 1) := by decide +kernel
theorem dX12_encode_172 : decode cX12_encode 172 = .ok (.invokestatic 348, 3) := by decide +kernel
theorem dX12_encode_175 : decode cX12_encode 175 = .ok (.invokevirtual 352, 3) := by decide +kernel
theorem dX12_encode_178 : decode cX12_encode 178 = .ok (.aload_n 0, 1) := by decide +kernel
theorem dX12_encode_179 : decode cX12_encode 179 = .ok (.iload 4, 2) := by decide +kernel
theorem dX12_encode_181 : decode cX12_encode 181 = .ok (.iload_n 3, 1) := by decide +kernel
theorem dX12_encode_182 : decode cX12_encode 182 = .ok (.invokevirtual 355, 3) := by decide +kernel
theorem dX12_encode_185 : decode cX12_encode 185 = .ok (.iload_n 3, 1) := by decide +kernel
theorem dX12_encode_186 : decode cX12_encode 186 = .ok (.aload_n 0, 1) := by decide +kernel
theorem dX12_encode_187 : decode cX12_encode 187 = .ok (.getfield 69, 3) := by decide +kernel
theorem dX12_encode_190 : decode cX12_encode 190 = .ok (.iload 4, 2) := by decide +kernel
theorem dX12_encode_192 : decode cX12_encode 192 = .ok (.iaload, 1) := by decide +kernel
theorem dX12_encode_193 : decode cX12_encode 193 = .ok (.iadd, 1) := by decide +kernel
theorem dX12_encode_194 : decode cX12_encode 194 = .ok (.istore_n 3, 1) := by decide +kernel
theorem dX12_encode_195 : decode cX12_encode 195 = .ok (.iinc 4 1, 3) := by decide +kernel
theorem dX12_encode_198 : decode cX12_encode 198 = .ok (.goto (-49), 3) := by decide +kernel
theorem dX12_encode_201 : decode cX12_encode 201 = .ok (.aload_n 0, 1) := by decide +kernel
theorem dX12_encode_202 : decode cX12_encode 202 = .ok (.getfield 96, 3) := by decide +kernel
theorem dX12_encode_205 : decode cX12_encode 205 = .ok (.iconst 0, 1) := by decide +kernel
theorem dX12_encode_206 : decode cX12_encode 206 = .ok (.aload_n 0, 1) := by decide +kernel
theorem dX12_encode_207 : decode cX12_encode 207 = .ok (.getfield 16, 3) := by decide +kernel
theorem dX12_encode_210 : decode cX12_encode 210 = .ok (.iastore, 1) := by decide +kernel
theorem dX12_encode_211 : decode cX12_encode 211 = .ok (.aload_n 0, 1) := by decide +kernel
theorem dX12_encode_212 : decode cX12_encode 212 = .ok (.getfield 96, 3) := by decide +kernel
theorem dX12_encode_215 : decode cX12_encode 215 = .ok (.iconst 1, 1) := by decide +kernel
theorem dX12_encode_216 : decode cX12_encode 216 = .ok (.aload_n 0, 1) := by decide +kernel
theorem dX12_encode_217 : decode cX12_encode 217 = .ok (.getfield 20, 3) := by decide +kernel
theorem dX12_encode_220 : decode cX12_encode 220 = .ok (.iastore, 1) := by decide +kernel
theorem dX12_encode_221 : decode cX12_encode 221 = .ok (.aload_n 0, 1) := by decide +kernel
theorem dX12_encode_222 : decode cX12_encode 222 = .ok (.getfield 96, 3) := by decide +kernel
theorem dX12_encode_225 : decode cX12_encode 225 = .ok (.iconst 2, 1) := by decide +kernel
theorem dX12_encode_226 : decode cX12_encode 226 = .ok (.iload_n 1, 1) := by decide +kernel
theorem dX12_encode_227 : decode cX12_encode 227 = .ok (.iastore, 1) := by decide +kernel
theorem dX12_encode_228 : decode cX12_encode 228 = .ok (.aload_n 0, 1) := by decide +kernel
theorem dX12_encode_229 : decode cX12_encode 229 = .ok (.getfield 96, 3) := by decide +kernel
theorem dX12_encode_232 : decode cX12_encode 232 = .ok (.iconst 3, 1) := by decide +kernel
theorem dX12_encode_233 : decode cX12_encode 233 = .ok (.iload_n 2, 1) := by decide +kernel
theorem dX12_encode_234 : decode cX12_encode 234 = .ok (.iastore, 1) := by decide +kernel
theorem dX12_encode_235 : decode cX12_encode 235 = .ok (.aload_n 0, 1) := by decide +kernel
theorem dX12_encode_236 : decode cX12_encode 236 = .ok (.iconst 4, 1) := by decide +kernel
theorem dX12_encode_237 : decode cX12_encode 237 = .ok (.putfield 329, 3) := by decide +kernel
theorem dX12_encode_240 : decode cX12_encode 240 = .ok (.iconst 1, 1) := by decide +kernel
theorem dX12_encode_241 : decode cX12_encode 241 = .ok (.istore 4, 2) := by decide +kernel
theorem dX12_encode_243 : decode cX12_encode 243 = .ok (.iload 4, 2) := by decide +kernel
theorem dX12_encode_245 : decode cX12_encode 245 = .ok (.iload_n 2, 1) := by decide +kernel
theorem dX12_encode_246 : decode cX12_encode 246 = .ok (.if_icmp .gt 33, 3) := by decide +kernel
theorem dX12_encode_249 : decode cX12_encode 249 = .ok (.iconst 0, 1) := by decide +kernel
theorem dX12_encode_250 : decode cX12_encode 250 = .ok (.istore 5, 2) := by decide +kernel
theorem dX12_encode_252 : decode cX12_encode 252 = .ok (.iload 5, 2) := by decide +kernel
theorem dX12_encode_254 : decode cX12_encode 254 = .ok (.iload_n 1, 1) := by decide +kernel
theorem dX12_encode_255 : decode cX12_encode 255 = .ok (.if_icmp .gt 18, 3) := by decide +kernel
theorem dX12_encode_258 : decode cX12_encode 258 = .ok (.aload_n 0, 1) := by decide +kernel
theorem dX12_encode_259 : decode cX12_encode 259 = .ok (.iload 5, 2) := by decide +kernel
theorem dX12_encode_261 : decode cX12_encode 261 = .ok (.iload 4, 2) := by decide +kernel
theorem dX12_encode_263 : decode cX12_encode 263 = .ok (.iload_n 2, 1) := by decide +kernel
theorem dX12_encode_264 : decode cX12_encode 264 = .ok (.invokevirtual 358, 3) := by decide +kernel
theorem dX12_encode_267 : decode cX12_encode 267 = .ok (.iinc 5 1, 3) := by decide +kernel
theorem dX12_encode_270 : decode cX12_encode 270 = .ok (.goto (-18), 3) := by decide +kernel
theorem dX12_encode_273 : decode cX12_encode 273 = .ok (.iinc 4 1, 3) := by decide +kernel
theorem dX12_encode_276 : decode cX12_encode 276 = .ok (.goto (-33), 3) := by decide +kernel
theorem dX12_encode_279 : decode cX12_encode 279 = .ok (.aload_n 0, 1) := by decide +kernel
theorem dX12_encode_280 : decode cX12_encode 280 = .ok (.getfield 329, 3) := by decide +kernel
theorem dX12_encode_283 : decode cX12_encode 283 = .ok (.ireturn, 1) := by decide +kernel
theorem dX12_stream_0 : decode cX12_stream 0 = .ok (.aload_n 0, 1) := by decide +kernel
theorem dX12_stream_1 : decode cX12_stream 1 = .ok (.iconst 0, 1) := by decide +kernel
theorem dX12_stream_2 : decode cX12_stream 2 = .ok (.putfield 117, 3) := by decide +kernel
theorem dX12_stream_5 : decode cX12_stream 5 = .ok (.iload_n 1, 1) := by decide +kernel
theorem dX12_stream_6 : decode cX12_stream 6 = .ok (.iconst 0, 1) := by decide +kernel
theorem dX12_stream_7 : decode cX12_stream 7 = .ok (.aload_n 0, 1) := by decide +kernel
theorem dX12_stream_8 : decode cX12_stream 8 = .ok (.getfield 329, 3) := by decide +kernel
theorem dX12_stream_11 : decode cX12_stream 11 = .ok (.iconst 1, 1) := by decide +kernel
theorem dX12_stream_12 : decode cX12_stream 12 = .ok (.isub, 1) := by decide +kernel
theorem dX12_stream_13 : decode cX12_stream 13 = .ok (.invokestatic 120, 3) := by decide +kernel
theorem dX12_stream_16 : decode cX12_stream 16 = .ok (.ifCond .eq 12, 3) := by decide +kernel
theorem dX12_stream_19 : decode cX12_stream 19 = .ok (.aload_n 0, 1) := by decide +kernel
theorem dX12_stream_20 : decode cX12_stream 20 = .ok (.getfield 96, 3) := by decide +kernel
theorem dX12_stream_23 : decode cX12_stream 23 = .ok (.iload_n 1, 1) := by decide +kernel
theorem dX12_stream_24 : decode cX12_stream 24 = .ok (.iaload, 1) := by decide +kernel
theorem dX12_stream_25 : decode cX12_stream 25 = .ok (.goto 5, 3) := by decide +kernel
theorem dX12_stream_28 : decode cX12_stream 28 = .ok (.ldc 128, 2) := by decide +kernel
theorem dX12_stream_30 : decode cX12_stream 30 = .ok (.ireturn, 1) := by decide +kernel
theorem dX12_poke_0 : decode cX12_poke 0 = .ok (.aload_n 0, 1) := by decide +kernel
theorem dX12_poke_1 : decode cX12_poke 1 = .ok (.iconst 0, 1) := by decide +kernel
theorem dX12_poke_2 : decode cX12_poke 2 = .ok (.putfield 117, 3) := by decide +kernel
theorem dX12_poke_5 : decode cX12_poke 5 = .ok (.iload_n 1, 1) := by decide +kernel
theorem dX12_poke_6 : decode cX12_poke 6 = .ok (.iconst 0, 1) := by decide +kernel
theorem dX12_poke_7 : decode cX12_poke 7 = .ok (.aload_n 0, 1) := by decide +kernel
theorem dX12_poke_8 : decode cX12_poke 8 = .ok (.getfield 329, 3) := by decide +kernel
theorem dX12_poke_11 : decode cX12_poke 11 = .ok (.iconst 1, 1) := by decide +kernel
theorem dX12_poke_12 : decode cX12_poke 12 = .ok (.isub, 1) := by decide +kernel
theorem dX12_poke_13 : decode cX12_poke 13 = .ok (.invokestatic 120, 3) := by decide +kernel
theorem dX12_poke_16 : decode cX12_poke 16 = .ok (.ifCond .eq 14, 3) := by decide +kernel
theorem dX12_poke_19 : decode cX12_poke 19 = .ok (.iload_n 2, 1) := by decide +kernel
theorem dX12_poke_20 : decode cX12_poke 20 = .ok (.iconst 0, 1) := by decide +kernel
theorem dX12_poke_21 : decode cX12_poke 21 = .ok (.sipush 255, 3) := by decide +kernel
theorem dX12_poke_24 : decode cX12_poke 24 = .ok (.invokestatic 120, 3) := by decide +kernel
theorem dX12_poke_27 : decode cX12_poke 27 = .ok (.ifCond .ne 5, 3) := by decide +kernel
theorem dX12_poke_30 : decode cX12_poke 30 = .ok (.iconst 0, 1) := by decide +kernel
theorem dX12_poke_31 : decode cX12_poke 31 = .ok (.ireturn, 1) := by decide +kernel
theorem dX12_poke_32 : decode cX12_poke 32 = .ok (.aload_n 0, 1) := by decide +kernel
theorem dX12_poke_33 : decode cX12_poke 33 = .ok (.getfield 96, 3) := by decide +kernel
theorem dX12_poke_36 : decode cX12_poke 36 = .ok (.iload_n 1, 1) := by decide +kernel
theorem dX12_poke_37 : decode cX12_poke 37 = .ok (.iload_n 2, 1) := by decide +kernel
theorem dX12_poke_38 : decode cX12_poke 38 = .ok (.iastore, 1) := by decide +kernel
theorem dX12_poke_39 : decode cX12_poke 39 = .ok (.iconst 1, 1) := by decide +kernel
theorem dX12_poke_40 : decode cX12_poke 40 = .ok (.ireturn, 1) := by decide +kernel
theorem dX12_isBand_0 : decode cX12_isBand 0 = .ok (.iload_n 1, 1) := by decide +kernel
theorem dX12_isBand_1 : decode cX12_isBand 1 = .ok (.iconst 0, 1) := by decide +kernel
theorem dX12_isBand_2 : decode cX12_isBand 2 = .ok (.aload_n 0, 1) := by decide +kernel
theorem dX12_isBand_3 : decode cX12_isBand 3 = .ok (.getfield 345, 3) := by decide +kernel
theorem dX12_isBand_6 : decode cX12_isBand 6 = .ok (.iconst 1, 1) := by decide +kernel
theorem dX12_isBand_7 : decode cX12_isBand 7 = .ok (.isub, 1) := by decide +kernel
theorem dX12_isBand_8 : decode cX12_isBand 8 = .ok (.invokestatic 120, 3) := by decide +kernel
theorem dX12_isBand_11 : decode cX12_isBand 11 = .ok (.ireturn, 1) := by decide +kernel
theorem dX12_band_0 : decode cX12_band 0 = .ok (.aload_n 0, 1) := by decide +kernel
theorem dX12_band_1 : decode cX12_band 1 = .ok (.iconst 0, 1) := by decide +kernel
theorem dX12_band_2 : decode cX12_band 2 = .ok (.putfield 117, 3) := by decide +kernel
theorem dX12_band_5 : decode cX12_band 5 = .ok (.aload_n 0, 1) := by decide +kernel
theorem dX12_band_6 : decode cX12_band 6 = .ok (.iload_n 1, 1) := by decide +kernel
theorem dX12_band_7 : decode cX12_band 7 = .ok (.invokevirtual 361, 3) := by decide +kernel
theorem dX12_band_10 : decode cX12_band 10 = .ok (.ifCond .ne 6, 3) := by decide +kernel
theorem dX12_band_13 : decode cX12_band 13 = .ok (.ldc 128, 2) := by decide +kernel
theorem dX12_band_15 : decode cX12_band 15 = .ok (.ireturn, 1) := by decide +kernel
theorem dX12_band_16 : decode cX12_band 16 = .ok (.iload_n 2, 1) := by decide +kernel
theorem dX12_band_17 : decode cX12_band 17 = .ok (.ifCond .ne 12, 3) := by decide +kernel
theorem dX12_band_20 : decode cX12_band 20 = .ok (.aload_n 0, 1) := by decide +kernel
theorem dX12_band_21 : decode cX12_band 21 = .ok (.getfield 35, 3) := by decide +kernel
theorem dX12_band_24 : decode cX12_band 24 = .ok (.iload_n 1, 1) := by decide +kernel
theorem dX12_band_25 : decode cX12_band 25 = .ok (.iaload, 1) := by decide +kernel
theorem dX12_band_26 : decode cX12_band 26 = .ok (.goto 60, 3) := by decide +kernel
theorem dX12_band_29 : decode cX12_band 29 = .ok (.iload_n 2, 1) := by decide +kernel
theorem dX12_band_30 : decode cX12_band 30 = .ok (.iconst 1, 1) := by decide +kernel
theorem dX12_band_31 : decode cX12_band 31 = .ok (.if_icmp .ne 12, 3) := by decide +kernel
theorem dX12_band_34 : decode cX12_band 34 = .ok (.aload_n 0, 1) := by decide +kernel
theorem dX12_band_35 : decode cX12_band 35 = .ok (.getfield 38, 3) := by decide +kernel
theorem dX12_band_38 : decode cX12_band 38 = .ok (.iload_n 1, 1) := by decide +kernel
theorem dX12_band_39 : decode cX12_band 39 = .ok (.iaload, 1) := by decide +kernel
theorem dX12_band_40 : decode cX12_band 40 = .ok (.goto 46, 3) := by decide +kernel
theorem dX12_band_43 : decode cX12_band 43 = .ok (.iload_n 2, 1) := by decide +kernel
theorem dX12_band_44 : decode cX12_band 44 = .ok (.iconst 2, 1) := by decide +kernel
theorem dX12_band_45 : decode cX12_band 45 = .ok (.if_icmp .ne 12, 3) := by decide +kernel
theorem dX12_band_48 : decode cX12_band 48 = .ok (.aload_n 0, 1) := by decide +kernel
theorem dX12_band_49 : decode cX12_band 49 = .ok (.getfield 44, 3) := by decide +kernel
theorem dX12_band_52 : decode cX12_band 52 = .ok (.iload_n 1, 1) := by decide +kernel
theorem dX12_band_53 : decode cX12_band 53 = .ok (.iaload, 1) := by decide +kernel
theorem dX12_band_54 : decode cX12_band 54 = .ok (.goto 32, 3) := by decide +kernel
theorem dX12_band_57 : decode cX12_band 57 = .ok (.iload_n 2, 1) := by decide +kernel
theorem dX12_band_58 : decode cX12_band 58 = .ok (.iconst 3, 1) := by decide +kernel
theorem dX12_band_59 : decode cX12_band 59 = .ok (.if_icmp .ne 11, 3) := by decide +kernel
theorem dX12_band_62 : decode cX12_band 62 = .ok (.aload_n 0, 1) := by decide +kernel
theorem dX12_band_63 : decode cX12_band 63 = .ok (.iload_n 1, 1) := by decide +kernel
theorem dX12_band_64 : decode cX12_band 64 = .ok (.invokevirtual 296, 3) := by decide +kernel
theorem dX12_band_67 : decode cX12_band 67 = .ok (.goto 19, 3) := by decide +kernel
theorem dX12_band_70 : decode cX12_band 70 = .ok (.iload_n 2, 1) := by decide +kernel
theorem dX12_band_71 : decode cX12_band 71 = .ok (.iconst 4, 1) := by decide +kernel
theorem dX12_band_72 : decode cX12_band 72 = .ok (.if_icmp .ne 12, 3) := by decide +kernel
theorem dX12_band_75 : decode cX12_band 75 = .ok (.aload_n 0, 1) := by decide +kernel
theorem dX12_band_76 : decode cX12_band 76 = .ok (.getfield 69, 3) := by decide +kernel
theorem dX12_band_79 : decode cX12_band 79 = .ok (.iload_n 1, 1) := by decide +kernel
theorem dX12_band_80 : decode cX12_band 80 = .ok (.iaload, 1) := by decide +kernel
theorem dX12_band_81 : decode cX12_band 81 = .ok (.goto 5, 3) := by decide +kernel
theorem dX12_band_84 : decode cX12_band 84 = .ok (.ldc 128, 2) := by decide +kernel
theorem dX12_band_86 : decode cX12_band 86 = .ok (.ireturn, 1) := by decide +kernel
theorem dX12_number_0 : decode cX12_number 0 = .ok (.aload_n 0, 1) := by decide +kernel
theorem dX12_number_1 : decode cX12_number 1 = .ok (.iconst 0, 1) := by decide +kernel
theorem dX12_number_2 : decode cX12_number 2 = .ok (.putfield 117, 3) := by decide +kernel
theorem dX12_number_5 : decode cX12_number 5 = .ok (.aload_n 0, 1) := by decide +kernel
theorem dX12_number_6 : decode cX12_number 6 = .ok (.iload_n 1, 1) := by decide +kernel
theorem dX12_number_7 : decode cX12_number 7 = .ok (.invokevirtual 361, 3) := by decide +kernel
theorem dX12_number_10 : decode cX12_number 10 = .ok (.ifCond .eq 35, 3) := by decide +kernel
theorem dX12_number_13 : decode cX12_number 13 = .ok (.iload_n 2, 1) := by decide +kernel
theorem dX12_number_14 : decode cX12_number 14 = .ok (.iconst 0, 1) := by decide +kernel
theorem dX12_number_15 : decode cX12_number 15 = .ok (.aload_n 0, 1) := by decide +kernel
theorem dX12_number_16 : decode cX12_number 16 = .ok (.getfield 35, 3) := by decide +kernel
theorem dX12_number_19 : decode cX12_number 19 = .ok (.iload_n 1, 1) := by decide +kernel
theorem dX12_number_20 : decode cX12_number 20 = .ok (.iaload, 1) := by decide +kernel
theorem dX12_number_21 : decode cX12_number 21 = .ok (.iconst 1, 1) := by decide +kernel
theorem dX12_number_22 : decode cX12_number 22 = .ok (.isub, 1) := by decide +kernel
theorem dX12_number_23 : decode cX12_number 23 = .ok (.invokestatic 120, 3) := by decide +kernel
theorem dX12_number_26 : decode cX12_number 26 = .ok (.ifCond .eq 19, 3) := by decide +kernel
theorem dX12_number_29 : decode cX12_number 29 = .ok (.iload_n 3, 1) := by decide +kernel
theorem dX12_number_30 : decode cX12_number 30 = .ok (.iconst 0, 1) := by decide +kernel
theorem dX12_number_31 : decode cX12_number 31 = .ok (.aload_n 0, 1) := by decide +kernel
theorem dX12_number_32 : decode cX12_number 32 = .ok (.getfield 38, 3) := by decide +kernel
theorem dX12_number_35 : decode cX12_number 35 = .ok (.iload_n 1, 1) := by decide +kernel
theorem dX12_number_36 : decode cX12_number 36 = .ok (.iaload, 1) := by decide +kernel
theorem dX12_number_37 : decode cX12_number 37 = .ok (.iconst 1, 1) := by decide +kernel
theorem dX12_number_38 : decode cX12_number 38 = .ok (.isub, 1) := by decide +kernel
theorem dX12_number_39 : decode cX12_number 39 = .ok (.invokestatic 120, 3) := by decide +kernel
theorem dX12_number_42 : decode cX12_number 42 = .ok (.ifCond .ne 6, 3) := by decide +kernel
theorem dX12_number_45 : decode cX12_number 45 = .ok (.ldc 128, 2) := by decide +kernel
theorem dX12_number_47 : decode cX12_number 47 = .ok (.ireturn, 1) := by decide +kernel
theorem dX12_number_48 : decode cX12_number 48 = .ok (.bipush 64, 2) := by decide +kernel
theorem dX12_number_50 : decode cX12_number 50 = .ok (.iload_n 1, 1) := by decide +kernel
theorem dX12_number_51 : decode cX12_number 51 = .ok (.imul, 1) := by decide +kernel
theorem dX12_number_52 : decode cX12_number 52 = .ok (.bipush 8, 2) := by decide +kernel
theorem dX12_number_54 : decode cX12_number 54 = .ok (.iload_n 3, 1) := by decide +kernel
theorem dX12_number_55 : decode cX12_number 55 = .ok (.imul, 1) := by decide +kernel
theorem dX12_number_56 : decode cX12_number 56 = .ok (.iadd, 1) := by decide +kernel
theorem dX12_number_57 : decode cX12_number 57 = .ok (.iload_n 2, 1) := by decide +kernel
theorem dX12_number_58 : decode cX12_number 58 = .ok (.iadd, 1) := by decide +kernel
theorem dX12_number_59 : decode cX12_number 59 = .ok (.istore 4, 2) := by decide +kernel
theorem dX12_number_61 : decode cX12_number 61 = .ok (.aload_n 0, 1) := by decide +kernel
theorem dX12_number_62 : decode cX12_number 62 = .ok (.getfield 50, 3) := by decide +kernel
theorem dX12_number_65 : decode cX12_number 65 = .ok (.iload 4, 2) := by decide +kernel
theorem dX12_number_67 : decode cX12_number 67 = .ok (.baload, 1) := by decide +kernel
theorem dX12_number_68 : decode cX12_number 68 = .ok (.ifCond .eq 14, 3) := by decide +kernel
theorem dX12_number_71 : decode cX12_number 71 = .ok (.aload_n 0, 1) := by decide +kernel
theorem dX12_number_72 : decode cX12_number 72 = .ok (.getfield 47, 3) := by decide +kernel
theorem dX12_number_75 : decode cX12_number 75 = .ok (.iload 4, 2) := by decide +kernel
theorem dX12_number_77 : decode cX12_number 77 = .ok (.iaload, 1) := by decide +kernel
theorem dX12_number_78 : decode cX12_number 78 = .ok (.ineg, 1) := by decide +kernel
theorem dX12_number_79 : decode cX12_number 79 = .ok (.goto 10, 3) := by decide +kernel
theorem dX12_number_82 : decode cX12_number 82 = .ok (.aload_n 0, 1) := by decide +kernel
theorem dX12_number_83 : decode cX12_number 83 = .ok (.getfield 47, 3) := by decide +kernel
theorem dX12_number_86 : decode cX12_number 86 = .ok (.iload 4, 2) := by decide +kernel
theorem dX12_number_88 : decode cX12_number 88 = .ok (.iaload, 1) := by decide +kernel
theorem dX12_number_89 : decode cX12_number 89 = .ok (.ireturn, 1) := by decide +kernel
theorem dX12_codeword_0 : decode cX12_codeword 0 = .ok (.aload_n 0, 1) := by decide +kernel
theorem dX12_codeword_1 : decode cX12_codeword 1 = .ok (.iconst 0, 1) := by decide +kernel
theorem dX12_codeword_2 : decode cX12_codeword 2 = .ok (.putfield 117, 3) := by decide +kernel
theorem dX12_codeword_5 : decode cX12_codeword 5 = .ok (.aload_n 0, 1) := by decide +kernel
theorem dX12_codeword_6 : decode cX12_codeword 6 = .ok (.iload_n 1, 1) := by decide +kernel
theorem dX12_codeword_7 : decode cX12_codeword 7 = .ok (.invokevirtual 361, 3) := by decide +kernel
theorem dX12_codeword_10 : decode cX12_codeword 10 = .ok (.ifCond .eq 35, 3) := by decide +kernel
theorem dX12_codeword_13 : decode cX12_codeword 13 = .ok (.iload_n 2, 1) := by decide +kernel
theorem dX12_codeword_14 : decode cX12_codeword 14 = .ok (.iconst 0, 1) := by decide +kernel
theorem dX12_codeword_15 : decode cX12_codeword 15 = .ok (.aload_n 0, 1) := by decide +kernel
theorem dX12_codeword_16 : decode cX12_codeword 16 = .ok (.getfield 69, 3) := by decide +kernel
theorem dX12_codeword_19 : decode cX12_codeword 19 = .ok (.iload_n 1, 1) := by decide +kernel
theorem dX12_codeword_20 : decode cX12_codeword 20 = .ok (.iaload, 1) := by decide +kernel
theorem dX12_codeword_21 : decode cX12_codeword 21 = .ok (.iconst 1, 1) := by decide +kernel
theorem dX12_codeword_22 : decode cX12_codeword 22 = .ok (.isub, 1) := by decide +kernel
theorem dX12_codeword_23 : decode cX12_codeword 23 = .ok (.invokestatic 120, 3) := by decide +kernel
theorem dX12_codeword_26 : decode cX12_codeword 26 = .ok (.ifCond .eq 19, 3) := by decide +kernel
theorem dX12_codeword_29 : decode cX12_codeword 29 = .ok (.aload_n 0, 1) := by decide +kernel
theorem dX12_codeword_30 : decode cX12_codeword 30 = .ok (.getfield 63, 3) := by decide +kernel
theorem dX12_codeword_33 : decode cX12_codeword 33 = .ok (.aload_n 0, 1) := by decide +kernel
theorem dX12_codeword_34 : decode cX12_codeword 34 = .ok (.getfield 66, 3) := by decide +kernel
theorem dX12_codeword_37 : decode cX12_codeword 37 = .ok (.iload_n 1, 1) := by decide +kernel
theorem dX12_codeword_38 : decode cX12_codeword 38 = .ok (.iaload, 1) := by decide +kernel
theorem dX12_codeword_39 : decode cX12_codeword 39 = .ok (.iload_n 2, 1) := by decide +kernel
theorem dX12_codeword_40 : decode cX12_codeword 40 = .ok (.iadd, 1) := by decide +kernel
theorem dX12_codeword_41 : decode cX12_codeword 41 = .ok (.iaload, 1) := by decide +kernel
theorem dX12_codeword_42 : decode cX12_codeword 42 = .ok (.goto 5, 3) := by decide +kernel
theorem dX12_codeword_45 : decode cX12_codeword 45 = .ok (.ldc 128, 2) := by decide +kernel
theorem dX12_codeword_47 : decode cX12_codeword 47 = .ok (.ireturn, 1) := by decide +kernel
theorem dX12_least_0 : decode cX12_least 0 = .ok (.aload_n 0, 1) := by decide +kernel
theorem dX12_least_1 : decode cX12_least 1 = .ok (.iconst 0, 1) := by decide +kernel
theorem dX12_least_2 : decode cX12_least 2 = .ok (.putfield 117, 3) := by decide +kernel
theorem dX12_least_5 : decode cX12_least 5 = .ok (.aload_n 0, 1) := by decide +kernel
theorem dX12_least_6 : decode cX12_least 6 = .ok (.iload_n 1, 1) := by decide +kernel
theorem dX12_least_7 : decode cX12_least 7 = .ok (.invokevirtual 361, 3) := by decide +kernel
theorem dX12_least_10 : decode cX12_least 10 = .ok (.ifCond .eq 30, 3) := by decide +kernel
theorem dX12_least_13 : decode cX12_least 13 = .ok (.iload_n 2, 1) := by decide +kernel
theorem dX12_least_14 : decode cX12_least 14 = .ok (.iconst 0, 1) := by decide +kernel
theorem dX12_least_15 : decode cX12_least 15 = .ok (.aload_n 0, 1) := by decide +kernel
theorem dX12_least_16 : decode cX12_least 16 = .ok (.iload_n 1, 1) := by decide +kernel
theorem dX12_least_17 : decode cX12_least 17 = .ok (.invokevirtual 296, 3) := by decide +kernel
theorem dX12_least_20 : decode cX12_least 20 = .ok (.invokestatic 120, 3) := by decide +kernel
theorem dX12_least_23 : decode cX12_least 23 = .ok (.ifCond .eq 17, 3) := by decide +kernel
theorem dX12_least_26 : decode cX12_least 26 = .ok (.aload_n 0, 1) := by decide +kernel
theorem dX12_least_27 : decode cX12_least 27 = .ok (.getfield 72, 3) := by decide +kernel
theorem dX12_least_30 : decode cX12_least 30 = .ok (.bipush 35, 2) := by decide +kernel
theorem dX12_least_32 : decode cX12_least 32 = .ok (.iload_n 1, 1) := by decide +kernel
theorem dX12_least_33 : decode cX12_least 33 = .ok (.imul, 1) := by decide +kernel
theorem dX12_least_34 : decode cX12_least 34 = .ok (.iload_n 2, 1) := by decide +kernel
theorem dX12_least_35 : decode cX12_least 35 = .ok (.iadd, 1) := by decide +kernel
theorem dX12_least_36 : decode cX12_least 36 = .ok (.iaload, 1) := by decide +kernel
theorem dX12_least_37 : decode cX12_least 37 = .ok (.goto 5, 3) := by decide +kernel
theorem dX12_least_40 : decode cX12_least 40 = .ok (.ldc 128, 2) := by decide +kernel
theorem dX12_least_42 : decode cX12_least 42 = .ok (.ireturn, 1) := by decide +kernel
theorem dX12_getBits_0 : decode cX12_getBits 0 = .ok (.iconst 0, 1) := by decide +kernel
theorem dX12_getBits_1 : decode cX12_getBits 1 = .ok (.istore_n 2, 1) := by decide +kernel
theorem dX12_getBits_2 : decode cX12_getBits 2 = .ok (.iconst 0, 1) := by decide +kernel
theorem dX12_getBits_3 : decode cX12_getBits 3 = .ok (.istore_n 3, 1) := by decide +kernel
theorem dX12_getBits_4 : decode cX12_getBits 4 = .ok (.iload_n 3, 1) := by decide +kernel
theorem dX12_getBits_5 : decode cX12_getBits 5 = .ok (.iload_n 1, 1) := by decide +kernel
theorem dX12_getBits_6 : decode cX12_getBits 6 = .ok (.if_icmp .ge 97, 3) := by decide +kernel
theorem dX12_getBits_9 : decode cX12_getBits 9 = .ok (.aload_n 0, 1) := by decide +kernel
theorem dX12_getBits_10 : decode cX12_getBits 10 = .ok (.aload_n 0, 1) := by decide +kernel
theorem dX12_getBits_11 : decode cX12_getBits 11 = .ok (.getfield 365, 3) := by decide +kernel
theorem dX12_getBits_14 : decode cX12_getBits 14 = .ok (.ifCond .ne 14, 3) := by decide +kernel
theorem dX12_getBits_17 : decode cX12_getBits 17 = .ok (.aload_n 0, 1) := by decide +kernel
theorem dX12_getBits_18 : decode cX12_getBits 18 = .ok (.getfield 311, 3) := by decide +kernel
theorem dX12_getBits_21 : decode cX12_getBits 21 = .ok (.aload_n 0, 1) := by decide +kernel
theorem dX12_getBits_22 : decode cX12_getBits 22 = .ok (.getfield 368, 3) := by decide +kernel
theorem dX12_getBits_25 : decode cX12_getBits 25 = .ok (.if_icmp .lt 7, 3) := by decide +kernel
theorem dX12_getBits_28 : decode cX12_getBits 28 = .ok (.iconst 1, 1) := by decide +kernel
theorem dX12_getBits_29 : decode cX12_getBits 29 = .ok (.goto 4, 3) := by decide +kernel
theorem dX12_getBits_32 : decode cX12_getBits 32 = .ok (.iconst 0, 1) := by decide +kernel
theorem dX12_getBits_33 : decode cX12_getBits 33 = .ok (.putfield 365, 3) := by decide +kernel
theorem dX12_getBits_36 : decode cX12_getBits 36 = .ok (.aload_n 0, 1) := by decide +kernel
theorem dX12_getBits_37 : decode cX12_getBits 37 = .ok (.getfield 365, 3) := by decide +kernel
theorem dX12_getBits_40 : decode cX12_getBits 40 = .ok (.ifCond .eq 7, 3) := by decide +kernel
theorem dX12_getBits_43 : decode cX12_getBits 43 = .ok (.iconst 0, 1) := by decide +kernel
theorem dX12_getBits_44 : decode cX12_getBits 44 = .ok (.goto 22, 3) := by decide +kernel
theorem dX12_getBits_47 : decode cX12_getBits 47 = .ok (.aload_n 0, 1) := by decide +kernel
theorem dX12_getBits_48 : decode cX12_getBits 48 = .ok (.getfield 96, 3) := by decide +kernel
theorem dX12_getBits_51 : decode cX12_getBits 51 = .ok (.aload_n 0, 1) := by decide +kernel
theorem dX12_getBits_52 : decode cX12_getBits 52 = .ok (.getfield 311, 3) := by decide +kernel
theorem dX12_getBits_55 : decode cX12_getBits 55 = .ok (.iaload, 1) := by decide +kernel
theorem dX12_getBits_56 : decode cX12_getBits 56 = .ok (.bipush 7, 2) := by decide +kernel
theorem dX12_getBits_58 : decode cX12_getBits 58 = .ok (.aload_n 0, 1) := by decide +kernel
theorem dX12_getBits_59 : decode cX12_getBits 59 = .ok (.getfield 314, 3) := by decide +kernel
theorem dX12_getBits_62 : decode cX12_getBits 62 = .ok (.isub, 1) := by decide +kernel
theorem dX12_getBits_63 : decode cX12_getBits 63 = .ok (.ishr, 1) := by decide +kernel
theorem dX12_getBits_64 : decode cX12_getBits 64 = .ok (.iconst 1, 1) := by decide +kernel
theorem dX12_getBits_65 : decode cX12_getBits 65 = .ok (.iand, 1) := by decide +kernel
theorem dX12_getBits_66 : decode cX12_getBits 66 = .ok (.istore 4, 2) := by decide +kernel
theorem dX12_getBits_68 : decode cX12_getBits 68 = .ok (.iload_n 2, 1) := by decide +kernel
theorem dX12_getBits_69 : decode cX12_getBits 69 = .ok (.ldc_w 371, 3) := by decide +kernel
theorem dX12_getBits_72 : decode cX12_getBits 72 = .ok (.if_icmp .lt 7, 3) := by decide +kernel
theorem dX12_getBits_75 : decode cX12_getBits 75 = .ok (.iload_n 2, 1) := by decide +kernel
theorem dX12_getBits_76 : decode cX12_getBits 76 = .ok (.goto 9, 3) := by decide +kernel
theorem dX12_getBits_79 : decode cX12_getBits 79 = .ok (.iconst 2, 1) := by decide +kernel
theorem dX12_getBits_80 : decode cX12_getBits 80 = .ok (.iload_n 2, 1) := by decide +kernel
theorem dX12_getBits_81 : decode cX12_getBits 81 = .ok (.imul, 1) := by decide +kernel
theorem dX12_getBits_82 : decode cX12_getBits 82 = .ok (.iload 4, 2) := by decide +kernel
theorem dX12_getBits_84 : decode cX12_getBits 84 = .ok (.iadd, 1) := by decide +kernel
theorem dX12_getBits_85 : decode cX12_getBits 85 = .ok (.istore_n 2, 1) := by decide +kernel
theorem dX12_getBits_86 : decode cX12_getBits 86 = .ok (.aload_n 0, 1) := by decide +kernel
theorem dX12_getBits_87 : decode cX12_getBits 87 = .ok (.getfield 365, 3) := by decide +kernel
theorem dX12_getBits_90 : decode cX12_getBits 90 = .ok (.ifCond .ne 7, 3) := by decide +kernel
theorem dX12_getBits_93 : decode cX12_getBits 93 = .ok (.aload_n 0, 1) := by decide +kernel
theorem dX12_getBits_94 : decode cX12_getBits 94 = .ok (.invokevirtual 317, 3) := by decide +kernel
theorem dX12_getBits_97 : decode cX12_getBits 97 = .ok (.iinc 3 1, 3) := by decide +kernel
theorem dX12_getBits_100 : decode cX12_getBits 100 = .ok (.goto (-96), 3) := by decide +kernel
theorem dX12_getBits_103 : decode cX12_getBits 103 = .ok (.iload_n 2, 1) := by decide +kernel
theorem dX12_getBits_104 : decode cX12_getBits 104 = .ok (.ireturn, 1) := by decide +kernel
theorem dX12_getPasses_0 : decode cX12_getPasses 0 = .ok (.aload_n 0, 1) := by decide +kernel
theorem dX12_getPasses_1 : decode cX12_getPasses 1 = .ok (.iconst 1, 1) := by decide +kernel
theorem dX12_getPasses_2 : decode cX12_getPasses 2 = .ok (.invokevirtual 372, 3) := by decide +kernel
theorem dX12_getPasses_5 : decode cX12_getPasses 5 = .ok (.ifCond .ne 5, 3) := by decide +kernel
theorem dX12_getPasses_8 : decode cX12_getPasses 8 = .ok (.iconst 1, 1) := by decide +kernel
theorem dX12_getPasses_9 : decode cX12_getPasses 9 = .ok (.ireturn, 1) := by decide +kernel
theorem dX12_getPasses_10 : decode cX12_getPasses 10 = .ok (.aload_n 0, 1) := by decide +kernel
theorem dX12_getPasses_11 : decode cX12_getPasses 11 = .ok (.iconst 1, 1) := by decide +kernel
theorem dX12_getPasses_12 : decode cX12_getPasses 12 = .ok (.invokevirtual 372, 3) := by decide +kernel
theorem dX12_getPasses_15 : decode cX12_getPasses 15 = .ok (.ifCond .ne 5, 3) := by decide +kernel
theorem dX12_getPasses_18 : decode cX12_getPasses 18 = .ok (.iconst 2, 1) := by decide +kernel
theorem dX12_getPasses_19 : decode cX12_getPasses 19 = .ok (.ireturn, 1) := by decide +kernel
theorem dX12_getPasses_20 : decode cX12_getPasses 20 = .ok (.aload_n 0, 1) := by decide +kernel
theorem dX12_getPasses_21 : decode cX12_getPasses 21 = .ok (.iconst 2, 1) := by decide +kernel
theorem dX12_getPasses_22 : decode cX12_getPasses 22 = .ok (.invokevirtual 372, 3) := by decide +kernel
theorem dX12_getPasses_25 : decode cX12_getPasses 25 = .ok (.istore_n 1, 1) := by decide +kernel
theorem dX12_getPasses_26 : decode cX12_getPasses 26 = .ok (.iload_n 1, 1) := by decide +kernel
theorem dX12_getPasses_27 : decode cX12_getPasses 27 = .ok (.iconst 3, 1) := by decide +kernel
theorem dX12_getPasses_28 : decode cX12_getPasses 28 = .ok (.if_icmp .ge 9, 3) := by decide +kernel
theorem dX12_getPasses_31 : decode cX12_getPasses 31 = .ok (.iconst 3, 1) := by decide +kernel
theorem dX12_getPasses_32 : decode cX12_getPasses 32 = .ok (.iload_n 1, 1) := by decide +kernel
theorem dX12_getPasses_33 : decode cX12_getPasses 33 = .ok (.iadd, 1) := by decide +kernel
theorem dX12_getPasses_34 : decode cX12_getPasses 34 = .ok (.goto 11, 3) := by decide +kernel
theorem dX12_getPasses_37 : decode cX12_getPasses 37 = .ok (.bipush 6, 2) := by decide +kernel
theorem dX12_getPasses_39 : decode cX12_getPasses 39 = .ok (.aload_n 0, 1) := by decide +kernel
theorem dX12_getPasses_40 : decode cX12_getPasses 40 = .ok (.iconst 5, 1) := by decide +kernel
theorem dX12_getPasses_41 : decode cX12_getPasses 41 = .ok (.invokevirtual 372, 3) := by decide +kernel
theorem dX12_getPasses_44 : decode cX12_getPasses 44 = .ok (.iadd, 1) := by decide +kernel
theorem dX12_getPasses_45 : decode cX12_getPasses 45 = .ok (.ireturn, 1) := by decide +kernel
theorem dX12_getHead_0 : decode cX12_getHead 0 = .ok (.aload_n 0, 1) := by decide +kernel
theorem dX12_getHead_1 : decode cX12_getHead 1 = .ok (.iconst 1, 1) := by decide +kernel
theorem dX12_getHead_2 : decode cX12_getHead 2 = .ok (.invokevirtual 372, 3) := by decide +kernel
theorem dX12_getHead_5 : decode cX12_getHead 5 = .ok (.ifCond .eq 10, 3) := by decide +kernel
theorem dX12_getHead_8 : decode cX12_getHead 8 = .ok (.aload_n 0, 1) := by decide +kernel
theorem dX12_getHead_9 : decode cX12_getHead 9 = .ok (.getfield 365, 3) := by decide +kernel
theorem dX12_getHead_12 : decode cX12_getHead 12 = .ok (.ifCond .eq 4, 3) := by decide +kernel
theorem dX12_getHead_15 : decode cX12_getHead 15 = .ok (.return_, 1) := by decide +kernel
theorem dX12_getHead_16 : decode cX12_getHead 16 = .ok (.aload_n 0, 1) := by decide +kernel
theorem dX12_getHead_17 : decode cX12_getHead 17 = .ok (.getfield 54, 3) := by decide +kernel
theorem dX12_getHead_20 : decode cX12_getHead 20 = .ok (.iload_n 1, 1) := by decide +kernel
theorem dX12_getHead_21 : decode cX12_getHead 21 = .ok (.iaload, 1) := by decide +kernel
theorem dX12_getHead_22 : decode cX12_getHead 22 = .ok (.ifCond .ne 52, 3) := by decide +kernel
theorem dX12_getHead_25 : decode cX12_getHead 25 = .ok (.aload_n 0, 1) := by decide +kernel
theorem dX12_getHead_26 : decode cX12_getHead 26 = .ok (.getfield 44, 3) := by decide +kernel
theorem dX12_getHead_29 : decode cX12_getHead 29 = .ok (.iload_n 1, 1) := by decide +kernel
theorem dX12_getHead_30 : decode cX12_getHead 30 = .ok (.aload_n 0, 1) := by decide +kernel
theorem dX12_getHead_31 : decode cX12_getHead 31 = .ok (.iconst 4, 1) := by decide +kernel
theorem dX12_getHead_32 : decode cX12_getHead 32 = .ok (.invokevirtual 372, 3) := by decide +kernel
theorem dX12_getHead_35 : decode cX12_getHead 35 = .ok (.iastore, 1) := by decide +kernel
theorem dX12_getHead_36 : decode cX12_getHead 36 = .ok (.aload_n 0, 1) := by decide +kernel
theorem dX12_getHead_37 : decode cX12_getHead 37 = .ok (.aload_n 0, 1) := by decide +kernel
theorem dX12_getHead_38 : decode cX12_getHead 38 = .ok (.getfield 375, 3) := by decide +kernel
theorem dX12_getHead_41 : decode cX12_getHead 41 = .ok (.ifCond .ne 25, 3) := by decide +kernel
theorem dX12_getHead_44 : decode cX12_getHead 44 = .ok (.aload_n 0, 1) := by decide +kernel
theorem dX12_getHead_45 : decode cX12_getHead 45 = .ok (.getfield 365, 3) := by decide +kernel
theorem dX12_getHead_48 : decode cX12_getHead 48 = .ok (.ifCond .ne 22, 3) := by decide +kernel
theorem dX12_getHead_51 : decode cX12_getHead 51 = .ok (.aload_n 0, 1) := by decide +kernel
theorem dX12_getHead_52 : decode cX12_getHead 52 = .ok (.getfield 44, 3) := by decide +kernel
theorem dX12_getHead_55 : decode cX12_getHead 55 = .ok (.iload_n 1, 1) := by decide +kernel
theorem dX12_getHead_56 : decode cX12_getHead 56 = .ok (.iaload, 1) := by decide +kernel
theorem dX12_getHead_57 : decode cX12_getHead 57 = .ok (.iconst 1, 1) := by decide +kernel
theorem dX12_getHead_58 : decode cX12_getHead 58 = .ok (.bipush 12, 2) := by decide +kernel
theorem dX12_getHead_60 : decode cX12_getHead 60 = .ok (.invokestatic 120, 3) := by decide +kernel
theorem dX12_getHead_63 : decode cX12_getHead 63 = .ok (.ifCond .ne 7, 3) := by decide +kernel
theorem dX12_getHead_66 : decode cX12_getHead 66 = .ok (.iconst 1, 1) := by decide +kernel
theorem dX12_getHead_67 : decode cX12_getHead 67 = .ok (.goto 4, 3) := by decide +kernel
theorem dX12_getHead_70 : decode cX12_getHead 70 = .ok (.iconst 0, 1) := by decide +kernel
theorem dX12_getHead_71 : decode cX12_getHead 71 = .ok (.putfield 375, 3) := by decide +kernel
theorem dX12_getHead_74 : decode cX12_getHead 74 = .ok (.aload_n 0, 1) := by decide +kernel
theorem dX12_getHead_75 : decode cX12_getHead 75 = .ok (.getfield 375, 3) := by decide +kernel
theorem dX12_getHead_78 : decode cX12_getHead 78 = .ok (.ifCond .eq 7, 3) := by decide +kernel
theorem dX12_getHead_81 : decode cX12_getHead 81 = .ok (.iconst 1, 1) := by decide +kernel
theorem dX12_getHead_82 : decode cX12_getHead 82 = .ok (.goto 7, 3) := by decide +kernel
theorem dX12_getHead_85 : decode cX12_getHead 85 = .ok (.aload_n 0, 1) := by decide +kernel
theorem dX12_getHead_86 : decode cX12_getHead 86 = .ok (.invokevirtual 378, 3) := by decide +kernel
theorem dX12_getHead_89 : decode cX12_getHead 89 = .ok (.istore_n 2, 1) := by decide +kernel
theorem dX12_getHead_90 : decode cX12_getHead 90 = .ok (.aload_n 0, 1) := by decide +kernel
theorem dX12_getHead_91 : decode cX12_getHead 91 = .ok (.aload_n 0, 1) := by decide +kernel
theorem dX12_getHead_92 : decode cX12_getHead 92 = .ok (.getfield 375, 3) := by decide +kernel
theorem dX12_getHead_95 : decode cX12_getHead 95 = .ok (.ifCond .ne 26, 3) := by decide +kernel
theorem dX12_getHead_98 : decode cX12_getHead 98 = .ok (.aload_n 0, 1) := by decide +kernel
theorem dX12_getHead_99 : decode cX12_getHead 99 = .ok (.getfield 365, 3) := by decide +kernel
theorem dX12_getHead_102 : decode cX12_getHead 102 = .ok (.ifCond .ne 23, 3) := by decide +kernel
theorem dX12_getHead_105 : decode cX12_getHead 105 = .ok (.aload_n 0, 1) := by decide +kernel
theorem dX12_getHead_106 : decode cX12_getHead 106 = .ok (.getfield 54, 3) := by decide +kernel
theorem dX12_getHead_109 : decode cX12_getHead 109 = .ok (.iload_n 1, 1) := by decide +kernel
theorem dX12_getHead_110 : decode cX12_getHead 110 = .ok (.iaload, 1) := by decide +kernel
theorem dX12_getHead_111 : decode cX12_getHead 111 = .ok (.iload_n 2, 1) := by decide +kernel
theorem dX12_getHead_112 : decode cX12_getHead 112 = .ok (.iadd, 1) := by decide +kernel
theorem dX12_getHead_113 : decode cX12_getHead 113 = .ok (.aload_n 0, 1) := by decide +kernel
theorem dX12_getHead_114 : decode cX12_getHead 114 = .ok (.iload_n 1, 1) := by decide +kernel
theorem dX12_getHead_115 : decode cX12_getHead 115 = .ok (.invokevirtual 296, 3) := by decide +kernel
theorem dX12_getHead_118 : decode cX12_getHead 118 = .ok (.if_icmp .le 7, 3) := by decide +kernel
theorem dX12_getHead_121 : decode cX12_getHead 121 = .ok (.iconst 1, 1) := by decide +kernel
theorem dX12_getHead_122 : decode cX12_getHead 122 = .ok (.goto 4, 3) := by decide +kernel
theorem dX12_getHead_125 : decode cX12_getHead 125 = .ok (.iconst 0, 1) := by decide +kernel
theorem dX12_getHead_126 : decode cX12_getHead 126 = .ok (.putfield 375, 3) := by decide +kernel
theorem dX12_getHead_129 : decode cX12_getHead 129 = .ok (.aload_n 0, 1) := by decide +kernel
theorem dX12_getHead_130 : decode cX12_getHead 130 = .ok (.getfield 375, 3) := by decide +kernel
theorem dX12_getHead_133 : decode cX12_getHead 133 = .ok (.ifCond .ne 7, 3) := by decide +kernel
theorem dX12_getHead_136 : decode cX12_getHead 136 = .ok (.iconst 1, 1) := by decide +kernel
theorem dX12_getHead_137 : decode cX12_getHead 137 = .ok (.goto 4, 3) := by decide +kernel
theorem dX12_getHead_140 : decode cX12_getHead 140 = .ok (.iconst 0, 1) := by decide +kernel
theorem dX12_getHead_141 : decode cX12_getHead 141 = .ok (.istore_n 3, 1) := by decide +kernel
theorem dX12_getHead_142 : decode cX12_getHead 142 = .ok (.iload_n 3, 1) := by decide +kernel
theorem dX12_getHead_143 : decode cX12_getHead 143 = .ok (.ifCond .eq 55, 3) := by decide +kernel
theorem dX12_getHead_146 : decode cX12_getHead 146 = .ok (.aload_n 0, 1) := by decide +kernel
theorem dX12_getHead_147 : decode cX12_getHead 147 = .ok (.iconst 1, 1) := by decide +kernel
theorem dX12_getHead_148 : decode cX12_getHead 148 = .ok (.invokevirtual 372, 3) := by decide +kernel
theorem dX12_getHead_151 : decode cX12_getHead 151 = .ok (.iconst 1, 1) := by decide +kernel
theorem dX12_getHead_152 : decode cX12_getHead 152 = .ok (.if_icmp .ne 14, 3) := by decide +kernel
theorem dX12_getHead_155 : decode cX12_getHead 155 = .ok (.aload_n 0, 1) := by decide +kernel
theorem dX12_getHead_156 : decode cX12_getHead 156 = .ok (.getfield 365, 3) := by decide +kernel
theorem dX12_getHead_159 : decode cX12_getHead 159 = .ok (.ifCond .ne 7, 3) := by decide +kernel
theorem dX12_getHead_162 : decode cX12_getHead 162 = .ok (.iconst 1, 1) := by decide +kernel
theorem dX12_getHead_163 : decode cX12_getHead 163 = .ok (.goto 4, 3) := by decide +kernel
theorem dX12_getHead_166 : decode cX12_getHead 166 = .ok (.iconst 0, 1) := by decide +kernel
theorem dX12_getHead_167 : decode cX12_getHead 167 = .ok (.istore_n 3, 1) := by decide +kernel
theorem dX12_getHead_168 : decode cX12_getHead 168 = .ok (.aload_n 0, 1) := by decide +kernel
theorem dX12_getHead_169 : decode cX12_getHead 169 = .ok (.getfield 60, 3) := by decide +kernel
theorem dX12_getHead_172 : decode cX12_getHead 172 = .ok (.iload_n 1, 1) := by decide +kernel
theorem dX12_getHead_173 : decode cX12_getHead 173 = .ok (.iload_n 3, 1) := by decide +kernel
theorem dX12_getHead_174 : decode cX12_getHead 174 = .ok (.ifCond .eq 14, 3) := by decide +kernel
theorem dX12_getHead_177 : decode cX12_getHead 177 = .ok (.aload_n 0, 1) := by decide +kernel
theorem dX12_getHead_178 : decode cX12_getHead 178 = .ok (.getfield 60, 3) := by decide +kernel
theorem dX12_getHead_181 : decode cX12_getHead 181 = .ok (.iload_n 1, 1) := by decide +kernel
theorem dX12_getHead_182 : decode cX12_getHead 182 = .ok (.iaload, 1) := by decide +kernel
theorem dX12_getHead_183 : decode cX12_getHead 183 = .ok (.iconst 1, 1) := by decide +kernel
theorem dX12_getHead_184 : decode cX12_getHead 184 = .ok (.iadd, 1) := by decide +kernel
theorem dX12_getHead_185 : decode cX12_getHead 185 = .ok (.goto 9, 3) := by decide +kernel
theorem dX12_getHead_188 : decode cX12_getHead 188 = .ok (.aload_n 0, 1) := by decide +kernel
theorem dX12_getHead_189 : decode cX12_getHead 189 = .ok (.getfield 60, 3) := by decide +kernel
theorem dX12_getHead_192 : decode cX12_getHead 192 = .ok (.iload_n 1, 1) := by decide +kernel
theorem dX12_getHead_193 : decode cX12_getHead 193 = .ok (.iaload, 1) := by decide +kernel
theorem dX12_getHead_194 : decode cX12_getHead 194 = .ok (.iastore, 1) := by decide +kernel
theorem dX12_getHead_195 : decode cX12_getHead 195 = .ok (.goto (-53), 3) := by decide +kernel
theorem dX12_getHead_198 : decode cX12_getHead 198 = .ok (.aload_n 0, 1) := by decide +kernel
theorem dX12_getHead_199 : decode cX12_getHead 199 = .ok (.getfield 375, 3) := by decide +kernel
theorem dX12_getHead_202 : decode cX12_getHead 202 = .ok (.ifCond .ne 57, 3) := by decide +kernel
theorem dX12_getHead_205 : decode cX12_getHead 205 = .ok (.aload_n 0, 1) := by decide +kernel
theorem dX12_getHead_206 : decode cX12_getHead 206 = .ok (.getfield 108, 3) := by decide +kernel
theorem dX12_getHead_209 : decode cX12_getHead 209 = .ok (.iload_n 1, 1) := by decide +kernel
theorem dX12_getHead_210 : decode cX12_getHead 210 = .ok (.bipush 10, 2) := by decide +kernel
theorem dX12_getHead_212 : decode cX12_getHead 212 = .ok (.isub, 1) := by decide +kernel
theorem dX12_getHead_213 : decode cX12_getHead 213 = .ok (.aload_n 0, 1) := by decide +kernel
theorem dX12_getHead_214 : decode cX12_getHead 214 = .ok (.aload_n 0, 1) := by decide +kernel
theorem dX12_getHead_215 : decode cX12_getHead 215 = .ok (.getfield 60, 3) := by decide +kernel
theorem dX12_getHead_218 : decode cX12_getHead 218 = .ok (.iload_n 1, 1) := by decide +kernel
theorem dX12_getHead_219 : decode cX12_getHead 219 = .ok (.iaload, 1) := by decide +kernel
theorem dX12_getHead_220 : decode cX12_getHead 220 = .ok (.iload_n 2, 1) := by decide +kernel
theorem dX12_getHead_221 : decode cX12_getHead 221 = .ok (.invokestatic 323, 3) := by decide +kernel
theorem dX12_getHead_224 : decode cX12_getHead 224 = .ok (.iadd, 1) := by decide +kernel
theorem dX12_getHead_225 : decode cX12_getHead 225 = .ok (.invokevirtual 372, 3) := by decide +kernel
theorem dX12_getHead_228 : decode cX12_getHead 228 = .ok (.iastore, 1) := by decide +kernel
theorem dX12_getHead_229 : decode cX12_getHead 229 = .ok (.aload_n 0, 1) := by decide +kernel
theorem dX12_getHead_230 : decode cX12_getHead 230 = .ok (.getfield 54, 3) := by decide +kernel
theorem dX12_getHead_233 : decode cX12_getHead 233 = .ok (.iload_n 1, 1) := by decide +kernel
theorem dX12_getHead_234 : decode cX12_getHead 234 = .ok (.aload_n 0, 1) := by decide +kernel
theorem dX12_getHead_235 : decode cX12_getHead 235 = .ok (.getfield 365, 3) := by decide +kernel
theorem dX12_getHead_238 : decode cX12_getHead 238 = .ok (.ifCond .eq 12, 3) := by decide +kernel
theorem dX12_getHead_241 : decode cX12_getHead 241 = .ok (.aload_n 0, 1) := by decide +kernel
theorem dX12_getHead_242 : decode cX12_getHead 242 = .ok (.getfield 54, 3) := by decide +kernel
theorem dX12_getHead_245 : decode cX12_getHead 245 = .ok (.iload_n 1, 1) := by decide +kernel
theorem dX12_getHead_246 : decode cX12_getHead 246 = .ok (.iaload, 1) := by decide +kernel
theorem dX12_getHead_247 : decode cX12_getHead 247 = .ok (.goto 11, 3) := by decide +kernel
theorem dX12_getHead_250 : decode cX12_getHead 250 = .ok (.aload_n 0, 1) := by decide +kernel
theorem dX12_getHead_251 : decode cX12_getHead 251 = .ok (.getfield 54, 3) := by decide +kernel
theorem dX12_getHead_254 : decode cX12_getHead 254 = .ok (.iload_n 1, 1) := by decide +kernel
theorem dX12_getHead_255 : decode cX12_getHead 255 = .ok (.iaload, 1) := by decide +kernel
theorem dX12_getHead_256 : decode cX12_getHead 256 = .ok (.iload_n 2, 1) := by decide +kernel
theorem dX12_getHead_257 : decode cX12_getHead 257 = .ok (.iadd, 1) := by decide +kernel
theorem dX12_getHead_258 : decode cX12_getHead 258 = .ok (.iastore, 1) := by decide +kernel
theorem dX12_getHead_259 : decode cX12_getHead 259 = .ok (.return_, 1) := by decide +kernel
theorem dX12_getPacket_0 : decode cX12_getPacket 0 = .ok (.aload_n 0, 1) := by decide +kernel
theorem dX12_getPacket_1 : decode cX12_getPacket 1 = .ok (.iload_n 2, 1) := by decide +kernel
theorem dX12_getPacket_2 : decode cX12_getPacket 2 = .ok (.putfield 311, 3) := by decide +kernel
theorem dX12_getPacket_5 : decode cX12_getPacket 5 = .ok (.aload_n 0, 1) := by decide +kernel
theorem dX12_getPacket_6 : decode cX12_getPacket 6 = .ok (.iconst 0, 1) := by decide +kernel
theorem dX12_getPacket_7 : decode cX12_getPacket 7 = .ok (.putfield 314, 3) := by decide +kernel
theorem dX12_getPacket_10 : decode cX12_getPacket 10 = .ok (.aload_n 0, 1) := by decide +kernel
theorem dX12_getPacket_11 : decode cX12_getPacket 11 = .ok (.iload_n 3, 1) := by decide +kernel
theorem dX12_getPacket_12 : decode cX12_getPacket 12 = .ok (.putfield 368, 3) := by decide +kernel
theorem dX12_getPacket_15 : decode cX12_getPacket 15 = .ok (.aload_n 0, 1) := by decide +kernel
theorem dX12_getPacket_16 : decode cX12_getPacket 16 = .ok (.iconst 0, 1) := by decide +kernel
theorem dX12_getPacket_17 : decode cX12_getPacket 17 = .ok (.putfield 365, 3) := by decide +kernel
theorem dX12_getPacket_20 : decode cX12_getPacket 20 = .ok (.iconst 0, 1) := by decide +kernel
theorem dX12_getPacket_21 : decode cX12_getPacket 21 = .ok (.istore 4, 2) := by decide +kernel
theorem dX12_getPacket_23 : decode cX12_getPacket 23 = .ok (.iload 4, 2) := by decide +kernel
theorem dX12_getPacket_25 : decode cX12_getPacket 25 = .ok (.bipush 10, 2) := by decide +kernel
theorem dX12_getPacket_27 : decode cX12_getPacket 27 = .ok (.if_icmp .ge 17, 3) := by decide +kernel
theorem dX12_getPacket_30 : decode cX12_getPacket 30 = .ok (.aload_n 0, 1) := by decide +kernel
theorem dX12_getPacket_31 : decode cX12_getPacket 31 = .ok (.getfield 108, 3) := by decide +kernel
theorem dX12_getPacket_34 : decode cX12_getPacket 34 = .ok (.iload 4, 2) := by decide +kernel
theorem dX12_getPacket_36 : decode cX12_getPacket 36 = .ok (.iconst 0, 1) := by decide +kernel
theorem dX12_getPacket_37 : decode cX12_getPacket 37 = .ok (.iastore, 1) := by decide +kernel
theorem dX12_getPacket_38 : decode cX12_getPacket 38 = .ok (.iinc 4 1, 3) := by decide +kernel
theorem dX12_getPacket_41 : decode cX12_getPacket 41 = .ok (.goto (-18), 3) := by decide +kernel
theorem dX12_getPacket_44 : decode cX12_getPacket 44 = .ok (.aload_n 0, 1) := by decide +kernel
theorem dX12_getPacket_45 : decode cX12_getPacket 45 = .ok (.iconst 1, 1) := by decide +kernel
theorem dX12_getPacket_46 : decode cX12_getPacket 46 = .ok (.invokevirtual 372, 3) := by decide +kernel
theorem dX12_getPacket_49 : decode cX12_getPacket 49 = .ok (.iconst 1, 1) := by decide +kernel
theorem dX12_getPacket_50 : decode cX12_getPacket 50 = .ok (.if_icmp .ne 70, 3) := by decide +kernel
theorem dX12_getPacket_53 : decode cX12_getPacket 53 = .ok (.iload_n 1, 1) := by decide +kernel
theorem dX12_getPacket_54 : decode cX12_getPacket 54 = .ok (.invokestatic 326, 3) := by decide +kernel
theorem dX12_getPacket_57 : decode cX12_getPacket 57 = .ok (.istore 4, 2) := by decide +kernel
theorem dX12_getPacket_59 : decode cX12_getPacket 59 = .ok (.iload 4, 2) := by decide +kernel
theorem dX12_getPacket_61 : decode cX12_getPacket 61 = .ok (.iconst 3, 1) := by decide +kernel
theorem dX12_getPacket_62 : decode cX12_getPacket 62 = .ok (.iload_n 1, 1) := by decide +kernel
theorem dX12_getPacket_63 : decode cX12_getPacket 63 = .ok (.imul, 1) := by decide +kernel
theorem dX12_getPacket_64 : decode cX12_getPacket 64 = .ok (.if_icmp .gt 56, 3) := by decide +kernel
theorem dX12_getPacket_67 : decode cX12_getPacket 67 = .ok (.aload_n 0, 1) := by decide +kernel
theorem dX12_getPacket_68 : decode cX12_getPacket 68 = .ok (.getfield 365, 3) := by decide +kernel
theorem dX12_getPacket_71 : decode cX12_getPacket 71 = .ok (.ifCond .ne 49, 3) := by decide +kernel
theorem dX12_getPacket_74 : decode cX12_getPacket 74 = .ok (.aload_n 0, 1) := by decide +kernel
theorem dX12_getPacket_75 : decode cX12_getPacket 75 = .ok (.getfield 375, 3) := by decide +kernel
theorem dX12_getPacket_78 : decode cX12_getPacket 78 = .ok (.ifCond .ne 42, 3) := by decide +kernel
theorem dX12_getPacket_81 : decode cX12_getPacket 81 = .ok (.aload_n 0, 1) := by decide +kernel
theorem dX12_getPacket_82 : decode cX12_getPacket 82 = .ok (.getfield 35, 3) := by decide +kernel
theorem dX12_getPacket_85 : decode cX12_getPacket 85 = .ok (.bipush 10, 2) := by decide +kernel
theorem dX12_getPacket_87 : decode cX12_getPacket 87 = .ok (.iload 4, 2) := by decide +kernel
theorem dX12_getPacket_89 : decode cX12_getPacket 89 = .ok (.iadd, 1) := by decide +kernel
theorem dX12_getPacket_90 : decode cX12_getPacket 90 = .ok (.iaload, 1) := by decide +kernel
theorem dX12_getPacket_91 : decode cX12_getPacket 91 = .ok (.aload_n 0, 1) := by decide +kernel
theorem dX12_getPacket_92 : decode cX12_getPacket 92 = .ok (.getfield 38, 3) := by decide +kernel
theorem dX12_getPacket_95 : decode cX12_getPacket 95 = .ok (.bipush 10, 2) := by decide +kernel
theorem dX12_getPacket_97 : decode cX12_getPacket 97 = .ok (.iload 4, 2) := by decide +kernel
theorem dX12_getPacket_99 : decode cX12_getPacket 99 = .ok (.iadd, 1) := by decide +kernel
theorem dX12_getPacket_100 : decode cX12_getPacket 100 = .ok (.iaload, 1) := by decide +kernel
theorem dX12_getPacket_101 : decode cX12_getPacket 101 = .ok (.imul, 1) := by decide +kernel
theorem dX12_getPacket_102 : decode cX12_getPacket 102 = .ok (.ifCond .le 12, 3) := by decide +kernel
theorem dX12_getPacket_105 : decode cX12_getPacket 105 = .ok (.aload_n 0, 1) := by decide +kernel
theorem dX12_getPacket_106 : decode cX12_getPacket 106 = .ok (.bipush 10, 2) := by decide +kernel
theorem dX12_getPacket_108 : decode cX12_getPacket 108 = .ok (.iload 4, 2) := by decide +kernel
theorem dX12_getPacket_110 : decode cX12_getPacket 110 = .ok (.iadd, 1) := by decide +kernel
theorem dX12_getPacket_111 : decode cX12_getPacket 111 = .ok (.invokevirtual 382, 3) := by decide +kernel
theorem dX12_getPacket_114 : decode cX12_getPacket 114 = .ok (.iinc 4 1, 3) := by decide +kernel
theorem dX12_getPacket_117 : decode cX12_getPacket 117 = .ok (.goto (-58), 3) := by decide +kernel
theorem dX12_getPacket_120 : decode cX12_getPacket 120 = .ok (.aload_n 0, 1) := by decide +kernel
theorem dX12_getPacket_121 : decode cX12_getPacket 121 = .ok (.getfield 314, 3) := by decide +kernel
theorem dX12_getPacket_124 : decode cX12_getPacket 124 = .ok (.ifCond .le 13, 3) := by decide +kernel
theorem dX12_getPacket_127 : decode cX12_getPacket 127 = .ok (.aload_n 0, 1) := by decide +kernel
theorem dX12_getPacket_128 : decode cX12_getPacket 128 = .ok (.getfield 311, 3) := by decide +kernel
theorem dX12_getPacket_131 : decode cX12_getPacket 131 = .ok (.iconst 1, 1) := by decide +kernel
theorem dX12_getPacket_132 : decode cX12_getPacket 132 = .ok (.iadd, 1) := by decide +kernel
theorem dX12_getPacket_133 : decode cX12_getPacket 133 = .ok (.i2l, 1) := by decide +kernel
theorem dX12_getPacket_134 : decode cX12_getPacket 134 = .ok (.goto 8, 3) := by decide +kernel
theorem dX12_getPacket_137 : decode cX12_getPacket 137 = .ok (.aload_n 0, 1) := by decide +kernel
theorem dX12_getPacket_138 : decode cX12_getPacket 138 = .ok (.getfield 311, 3) := by decide +kernel
theorem dX12_getPacket_141 : decode cX12_getPacket 141 = .ok (.i2l, 1) := by decide +kernel
theorem dX12_getPacket_142 : decode cX12_getPacket 142 = .ok (.lstore 4, 2) := by decide +kernel
theorem dX12_getPacket_144 : decode cX12_getPacket 144 = .ok (.lload 4, 2) := by decide +kernel
theorem dX12_getPacket_146 : decode cX12_getPacket 146 = .ok (.l2i, 1) := by decide +kernel
theorem dX12_getPacket_147 : decode cX12_getPacket 147 = .ok (.istore 6, 2) := by decide +kernel
theorem dX12_getPacket_149 : decode cX12_getPacket 149 = .ok (.iload_n 1, 1) := by decide +kernel
theorem dX12_getPacket_150 : decode cX12_getPacket 150 = .ok (.invokestatic 326, 3) := by decide +kernel
theorem dX12_getPacket_153 : decode cX12_getPacket 153 = .ok (.istore 7, 2) := by decide +kernel
theorem dX12_getPacket_155 : decode cX12_getPacket 155 = .ok (.iload 7, 2) := by decide +kernel
theorem dX12_getPacket_157 : decode cX12_getPacket 157 = .ok (.iconst 3, 1) := by decide +kernel
theorem dX12_getPacket_158 : decode cX12_getPacket 158 = .ok (.iload_n 1, 1) := by decide +kernel
theorem dX12_getPacket_159 : decode cX12_getPacket 159 = .ok (.imul, 1) := by decide +kernel
theorem dX12_getPacket_160 : decode cX12_getPacket 160 = .ok (.if_icmp .gt 22, 3) := by decide +kernel
theorem dX12_getPacket_163 : decode cX12_getPacket 163 = .ok (.lload 4, 2) := by decide +kernel
theorem dX12_getPacket_165 : decode cX12_getPacket 165 = .ok (.aload_n 0, 1) := by decide +kernel
theorem dX12_getPacket_166 : decode cX12_getPacket 166 = .ok (.getfield 108, 3) := by decide +kernel
theorem dX12_getPacket_169 : decode cX12_getPacket 169 = .ok (.iload 7, 2) := by decide +kernel
theorem dX12_getPacket_171 : decode cX12_getPacket 171 = .ok (.iaload, 1) := by decide +kernel
theorem dX12_getPacket_172 : decode cX12_getPacket 172 = .ok (.i2l, 1) := by decide +kernel
theorem dX12_getPacket_173 : decode cX12_getPacket 173 = .ok (.ladd, 1) := by decide +kernel
theorem dX12_getPacket_174 : decode cX12_getPacket 174 = .ok (.lstore 4, 2) := by decide +kernel
theorem dX12_getPacket_176 : decode cX12_getPacket 176 = .ok (.iinc 7 1, 3) := by decide +kernel
theorem dX12_getPacket_179 : decode cX12_getPacket 179 = .ok (.goto (-24), 3) := by decide +kernel
theorem dX12_getPacket_182 : decode cX12_getPacket 182 = .ok (.aload_n 0, 1) := by decide +kernel
theorem dX12_getPacket_183 : decode cX12_getPacket 183 = .ok (.getfield 375, 3) := by decide +kernel
theorem dX12_getPacket_186 : decode cX12_getPacket 186 = .ok (.ifCond .ne 18, 3) := by decide +kernel
theorem dX12_getPacket_189 : decode cX12_getPacket 189 = .ok (.aload_n 0, 1) := by decide +kernel
theorem dX12_getPacket_190 : decode cX12_getPacket 190 = .ok (.getfield 365, 3) := by decide +kernel
theorem dX12_getPacket_193 : decode cX12_getPacket 193 = .ok (.ifCond .ne 11, 3) := by decide +kernel
theorem dX12_getPacket_196 : decode cX12_getPacket 196 = .ok (.lload 4, 2) := by decide +kernel
theorem dX12_getPacket_198 : decode cX12_getPacket 198 = .ok (.iload_n 3, 1) := by decide +kernel
theorem dX12_getPacket_199 : decode cX12_getPacket 199 = .ok (.i2l, 1) := by decide +kernel
theorem dX12_getPacket_200 : decode cX12_getPacket 200 = .ok (.lcmp, 1) := by decide +kernel
theorem dX12_getPacket_201 : decode cX12_getPacket 201 = .ok (.ifCond .le 5, 3) := by decide +kernel
theorem dX12_getPacket_204 : decode cX12_getPacket 204 = .ok (.iconst (-1), 1) := by decide +kernel
theorem dX12_getPacket_205 : decode cX12_getPacket 205 = .ok (.ireturn, 1) := by decide +kernel
theorem dX12_getPacket_206 : decode cX12_getPacket 206 = .ok (.iload_n 1, 1) := by decide +kernel
theorem dX12_getPacket_207 : decode cX12_getPacket 207 = .ok (.invokestatic 326, 3) := by decide +kernel
theorem dX12_getPacket_210 : decode cX12_getPacket 210 = .ok (.istore 7, 2) := by decide +kernel
theorem dX12_getPacket_212 : decode cX12_getPacket 212 = .ok (.iload 7, 2) := by decide +kernel
theorem dX12_getPacket_214 : decode cX12_getPacket 214 = .ok (.iconst 3, 1) := by decide +kernel
theorem dX12_getPacket_215 : decode cX12_getPacket 215 = .ok (.iload_n 1, 1) := by decide +kernel
theorem dX12_getPacket_216 : decode cX12_getPacket 216 = .ok (.imul, 1) := by decide +kernel
theorem dX12_getPacket_217 : decode cX12_getPacket 217 = .ok (.if_icmp .gt 95, 3) := by decide +kernel
theorem dX12_getPacket_220 : decode cX12_getPacket 220 = .ok (.aload_n 0, 1) := by decide +kernel
theorem dX12_getPacket_221 : decode cX12_getPacket 221 = .ok (.getfield 99, 3) := by decide +kernel
theorem dX12_getPacket_224 : decode cX12_getPacket 224 = .ok (.iconst 3, 1) := by decide +kernel
theorem dX12_getPacket_225 : decode cX12_getPacket 225 = .ok (.iload 7, 2) := by decide +kernel
theorem dX12_getPacket_227 : decode cX12_getPacket 227 = .ok (.imul, 1) := by decide +kernel
theorem dX12_getPacket_228 : decode cX12_getPacket 228 = .ok (.aload_n 0, 1) := by decide +kernel
theorem dX12_getPacket_229 : decode cX12_getPacket 229 = .ok (.getfield 105, 3) := by decide +kernel
theorem dX12_getPacket_232 : decode cX12_getPacket 232 = .ok (.iload 7, 2) := by decide +kernel
theorem dX12_getPacket_234 : decode cX12_getPacket 234 = .ok (.iaload, 1) := by decide +kernel
theorem dX12_getPacket_235 : decode cX12_getPacket 235 = .ok (.iadd, 1) := by decide +kernel
theorem dX12_getPacket_236 : decode cX12_getPacket 236 = .ok (.iload 6, 2) := by decide +kernel
theorem dX12_getPacket_238 : decode cX12_getPacket 238 = .ok (.iastore, 1) := by decide +kernel
theorem dX12_getPacket_239 : decode cX12_getPacket 239 = .ok (.aload_n 0, 1) := by decide +kernel
theorem dX12_getPacket_240 : decode cX12_getPacket 240 = .ok (.getfield 102, 3) := by decide +kernel
theorem dX12_getPacket_243 : decode cX12_getPacket 243 = .ok (.iconst 3, 1) := by decide +kernel
theorem dX12_getPacket_244 : decode cX12_getPacket 244 = .ok (.iload 7, 2) := by decide +kernel
theorem dX12_getPacket_246 : decode cX12_getPacket 246 = .ok (.imul, 1) := by decide +kernel
theorem dX12_getPacket_247 : decode cX12_getPacket 247 = .ok (.aload_n 0, 1) := by decide +kernel
theorem dX12_getPacket_248 : decode cX12_getPacket 248 = .ok (.getfield 105, 3) := by decide +kernel
theorem dX12_getPacket_251 : decode cX12_getPacket 251 = .ok (.iload 7, 2) := by decide +kernel
theorem dX12_getPacket_253 : decode cX12_getPacket 253 = .ok (.iaload, 1) := by decide +kernel
theorem dX12_getPacket_254 : decode cX12_getPacket 254 = .ok (.iadd, 1) := by decide +kernel
theorem dX12_getPacket_255 : decode cX12_getPacket 255 = .ok (.aload_n 0, 1) := by decide +kernel
theorem dX12_getPacket_256 : decode cX12_getPacket 256 = .ok (.getfield 108, 3) := by decide +kernel
theorem dX12_getPacket_259 : decode cX12_getPacket 259 = .ok (.iload 7, 2) := by decide +kernel
theorem dX12_getPacket_261 : decode cX12_getPacket 261 = .ok (.iaload, 1) := by decide +kernel
theorem dX12_getPacket_262 : decode cX12_getPacket 262 = .ok (.iastore, 1) := by decide +kernel
theorem dX12_getPacket_263 : decode cX12_getPacket 263 = .ok (.aload_n 0, 1) := by decide +kernel
theorem dX12_getPacket_264 : decode cX12_getPacket 264 = .ok (.getfield 105, 3) := by decide +kernel
theorem dX12_getPacket_267 : decode cX12_getPacket 267 = .ok (.iload 7, 2) := by decide +kernel
theorem dX12_getPacket_269 : decode cX12_getPacket 269 = .ok (.dup2, 1) := by decide +kernel
theorem dX12_getPacket_270 : decode cX12_getPacket 270 = .ok (.iaload, 1) := by decide +kernel
theorem dX12_getPacket_271 : decode cX12_getPacket 271 = .ok (.iconst 1, 1) := by decide +kernel
theorem dX12_getPacket_272 : decode cX12_getPacket 272 = .ok (.iadd, 1) := by decide +kernel
theorem dX12_getPacket_273 : decode cX12_getPacket 273 = .ok (.iastore, 1) := by decide +kernel
theorem dX12_getPacket_274 : decode cX12_getPacket 274 = .ok (.iload 6, 2) := by decide +kernel
theorem dX12_getPacket_276 : decode cX12_getPacket 276 = .ok (.aload_n 0, 1) := by decide +kernel
theorem dX12_getPacket_277 : decode cX12_getPacket 277 = .ok (.getfield 108, 3) := by decide +kernel
theorem dX12_getPacket_280 : decode cX12_getPacket 280 = .ok (.iload 7, 2) := by decide +kernel
theorem dX12_getPacket_282 : decode cX12_getPacket 282 = .ok (.iaload, 1) := by decide +kernel
theorem dX12_getPacket_283 : decode cX12_getPacket 283 = .ok (.iadd, 1) := by decide +kernel
theorem dX12_getPacket_284 : decode cX12_getPacket 284 = .ok (.istore 6, 2) := by decide +kernel
theorem dX12_getPacket_286 : decode cX12_getPacket 286 = .ok (.aload_n 0, 1) := by decide +kernel
theorem dX12_getPacket_287 : decode cX12_getPacket 287 = .ok (.getfield 57, 3) := by decide +kernel
theorem dX12_getPacket_290 : decode cX12_getPacket 290 = .ok (.bipush 10, 2) := by decide +kernel
theorem dX12_getPacket_292 : decode cX12_getPacket 292 = .ok (.iload 7, 2) := by decide +kernel
theorem dX12_getPacket_294 : decode cX12_getPacket 294 = .ok (.iadd, 1) := by decide +kernel
theorem dX12_getPacket_295 : decode cX12_getPacket 295 = .ok (.aload_n 0, 1) := by decide +kernel
theorem dX12_getPacket_296 : decode cX12_getPacket 296 = .ok (.getfield 54, 3) := by decide +kernel
theorem dX12_getPacket_299 : decode cX12_getPacket 299 = .ok (.bipush 10, 2) := by decide +kernel
theorem dX12_getPacket_301 : decode cX12_getPacket 301 = .ok (.iload 7, 2) := by decide +kernel
theorem dX12_getPacket_303 : decode cX12_getPacket 303 = .ok (.iadd, 1) := by decide +kernel
theorem dX12_getPacket_304 : decode cX12_getPacket 304 = .ok (.iaload, 1) := by decide +kernel
theorem dX12_getPacket_305 : decode cX12_getPacket 305 = .ok (.iastore, 1) := by decide +kernel
theorem dX12_getPacket_306 : decode cX12_getPacket 306 = .ok (.iinc 7 1, 3) := by decide +kernel
theorem dX12_getPacket_309 : decode cX12_getPacket 309 = .ok (.goto (-97), 3) := by decide +kernel
theorem dX12_getPacket_312 : decode cX12_getPacket 312 = .ok (.iload 6, 2) := by decide +kernel
theorem dX12_getPacket_314 : decode cX12_getPacket 314 = .ok (.ireturn, 1) := by decide +kernel
theorem dX12_readBand_0 : decode cX12_readBand 0 = .ok (.iconst 0, 1) := by decide +kernel
theorem dX12_readBand_1 : decode cX12_readBand 1 = .ok (.istore_n 2, 1) := by decide +kernel
theorem dX12_readBand_2 : decode cX12_readBand 2 = .ok (.iconst 3, 1) := by decide +kernel
theorem dX12_readBand_3 : decode cX12_readBand 3 = .ok (.iload_n 1, 1) := by decide +kernel
theorem dX12_readBand_4 : decode cX12_readBand 4 = .ok (.imul, 1) := by decide +kernel
theorem dX12_readBand_5 : decode cX12_readBand 5 = .ok (.istore_n 3, 1) := by decide +kernel
theorem dX12_readBand_6 : decode cX12_readBand 6 = .ok (.iload_n 3, 1) := by decide +kernel
theorem dX12_readBand_7 : decode cX12_readBand 7 = .ok (.iconst 3, 1) := by decide +kernel
theorem dX12_readBand_8 : decode cX12_readBand 8 = .ok (.iload_n 1, 1) := by decide +kernel
theorem dX12_readBand_9 : decode cX12_readBand 9 = .ok (.imul, 1) := by decide +kernel
theorem dX12_readBand_10 : decode cX12_readBand 10 = .ok (.aload_n 0, 1) := by decide +kernel
theorem dX12_readBand_11 : decode cX12_readBand 11 = .ok (.getfield 105, 3) := by decide +kernel
theorem dX12_readBand_14 : decode cX12_readBand 14 = .ok (.iload_n 1, 1) := by decide +kernel
theorem dX12_readBand_15 : decode cX12_readBand 15 = .ok (.iaload, 1) := by decide +kernel
theorem dX12_readBand_16 : decode cX12_readBand 16 = .ok (.iadd, 1) := by decide +kernel
theorem dX12_readBand_17 : decode cX12_readBand 17 = .ok (.if_icmp .ge 52, 3) := by decide +kernel
theorem dX12_readBand_20 : decode cX12_readBand 20 = .ok (.iconst 0, 1) := by decide +kernel
theorem dX12_readBand_21 : decode cX12_readBand 21 = .ok (.istore 4, 2) := by decide +kernel
theorem dX12_readBand_23 : decode cX12_readBand 23 = .ok (.iload 4, 2) := by decide +kernel
theorem dX12_readBand_25 : decode cX12_readBand 25 = .ok (.aload_n 0, 1) := by decide +kernel
theorem dX12_readBand_26 : decode cX12_readBand 26 = .ok (.getfield 102, 3) := by decide +kernel
theorem dX12_readBand_29 : decode cX12_readBand 29 = .ok (.iload_n 3, 1) := by decide +kernel
theorem dX12_readBand_30 : decode cX12_readBand 30 = .ok (.iaload, 1) := by decide +kernel
theorem dX12_readBand_31 : decode cX12_readBand 31 = .ok (.if_icmp .ge 32, 3) := by decide +kernel
theorem dX12_readBand_34 : decode cX12_readBand 34 = .ok (.aload_n 0, 1) := by decide +kernel
theorem dX12_readBand_35 : decode cX12_readBand 35 = .ok (.getfield 93, 3) := by decide +kernel
theorem dX12_readBand_38 : decode cX12_readBand 38 = .ok (.iload_n 2, 1) := by decide +kernel
theorem dX12_readBand_39 : decode cX12_readBand 39 = .ok (.aload_n 0, 1) := by decide +kernel
theorem dX12_readBand_40 : decode cX12_readBand 40 = .ok (.getfield 96, 3) := by decide +kernel
theorem dX12_readBand_43 : decode cX12_readBand 43 = .ok (.aload_n 0, 1) := by decide +kernel
theorem dX12_readBand_44 : decode cX12_readBand 44 = .ok (.getfield 99, 3) := by decide +kernel
theorem dX12_readBand_47 : decode cX12_readBand 47 = .ok (.iload_n 3, 1) := by decide +kernel
theorem dX12_readBand_48 : decode cX12_readBand 48 = .ok (.iaload, 1) := by decide +kernel
theorem dX12_readBand_49 : decode cX12_readBand 49 = .ok (.iload 4, 2) := by decide +kernel
theorem dX12_readBand_51 : decode cX12_readBand 51 = .ok (.iadd, 1) := by decide +kernel
theorem dX12_readBand_52 : decode cX12_readBand 52 = .ok (.iaload, 1) := by decide +kernel
theorem dX12_readBand_53 : decode cX12_readBand 53 = .ok (.iastore, 1) := by decide +kernel
theorem dX12_readBand_54 : decode cX12_readBand 54 = .ok (.iinc 2 1, 3) := by decide +kernel
theorem dX12_readBand_57 : decode cX12_readBand 57 = .ok (.iinc 4 1, 3) := by decide +kernel
theorem dX12_readBand_60 : decode cX12_readBand 60 = .ok (.goto (-37), 3) := by decide +kernel
theorem dX12_readBand_63 : decode cX12_readBand 63 = .ok (.iinc 3 1, 3) := by decide +kernel
theorem dX12_readBand_66 : decode cX12_readBand 66 = .ok (.goto (-60), 3) := by decide +kernel
theorem dX12_readBand_69 : decode cX12_readBand 69 = .ok (.aload_n 0, 1) := by decide +kernel
theorem dX12_readBand_70 : decode cX12_readBand 70 = .ok (.iload_n 2, 1) := by decide +kernel
theorem dX12_readBand_71 : decode cX12_readBand 71 = .ok (.iconst 1, 1) := by decide +kernel
theorem dX12_readBand_72 : decode cX12_readBand 72 = .ok (.invokevirtual 308, 3) := by decide +kernel
theorem dX12_readBand_75 : decode cX12_readBand 75 = .ok (.aload_n 0, 1) := by decide +kernel
theorem dX12_readBand_76 : decode cX12_readBand 76 = .ok (.bipush 10, 2) := by decide +kernel
theorem dX12_readBand_78 : decode cX12_readBand 78 = .ok (.iload_n 1, 1) := by decide +kernel
theorem dX12_readBand_79 : decode cX12_readBand 79 = .ok (.iadd, 1) := by decide +kernel
theorem dX12_readBand_80 : decode cX12_readBand 80 = .ok (.aload_n 0, 1) := by decide +kernel
theorem dX12_readBand_81 : decode cX12_readBand 81 = .ok (.getfield 57, 3) := by decide +kernel
theorem dX12_readBand_84 : decode cX12_readBand 84 = .ok (.bipush 10, 2) := by decide +kernel
theorem dX12_readBand_86 : decode cX12_readBand 86 = .ok (.iload_n 1, 1) := by decide +kernel
theorem dX12_readBand_87 : decode cX12_readBand 87 = .ok (.iadd, 1) := by decide +kernel
theorem dX12_readBand_88 : decode cX12_readBand 88 = .ok (.iaload, 1) := by decide +kernel
theorem dX12_readBand_89 : decode cX12_readBand 89 = .ok (.invokevirtual 299, 3) := by decide +kernel
theorem dX12_readBand_92 : decode cX12_readBand 92 = .ok (.return_, 1) := by decide +kernel
theorem dX12_unloadBand_0 : decode cX12_unloadBand 0 = .ok (.iconst 0, 1) := by decide +kernel
theorem dX12_unloadBand_1 : decode cX12_unloadBand 1 = .ok (.istore_n 3, 1) := by decide +kernel
theorem dX12_unloadBand_2 : decode cX12_unloadBand 2 = .ok (.iload_n 3, 1) := by decide +kernel
theorem dX12_unloadBand_3 : decode cX12_unloadBand 3 = .ok (.aload_n 0, 1) := by decide +kernel
theorem dX12_unloadBand_4 : decode cX12_unloadBand 4 = .ok (.getfield 38, 3) := by decide +kernel
theorem dX12_unloadBand_7 : decode cX12_unloadBand 7 = .ok (.bipush 10, 2) := by decide +kernel
theorem dX12_unloadBand_9 : decode cX12_unloadBand 9 = .ok (.iload_n 1, 1) := by decide +kernel
theorem dX12_unloadBand_10 : decode cX12_unloadBand 10 = .ok (.iadd, 1) := by decide +kernel
theorem dX12_unloadBand_11 : decode cX12_unloadBand 11 = .ok (.iaload, 1) := by decide +kernel
theorem dX12_unloadBand_12 : decode cX12_unloadBand 12 = .ok (.if_icmp .ge 92, 3) := by decide +kernel
theorem dX12_unloadBand_15 : decode cX12_unloadBand 15 = .ok (.iconst 0, 1) := by decide +kernel
theorem dX12_unloadBand_16 : decode cX12_unloadBand 16 = .ok (.istore 4, 2) := by decide +kernel
theorem dX12_unloadBand_18 : decode cX12_unloadBand 18 = .ok (.iload 4, 2) := by decide +kernel
theorem dX12_unloadBand_20 : decode cX12_unloadBand 20 = .ok (.aload_n 0, 1) := by decide +kernel
theorem dX12_unloadBand_21 : decode cX12_unloadBand 21 = .ok (.getfield 35, 3) := by decide +kernel
theorem dX12_unloadBand_24 : decode cX12_unloadBand 24 = .ok (.bipush 10, 2) := by decide +kernel
theorem dX12_unloadBand_26 : decode cX12_unloadBand 26 = .ok (.iload_n 1, 1) := by decide +kernel
theorem dX12_unloadBand_27 : decode cX12_unloadBand 27 = .ok (.iadd, 1) := by decide +kernel
theorem dX12_unloadBand_28 : decode cX12_unloadBand 28 = .ok (.iaload, 1) := by decide +kernel
theorem dX12_unloadBand_29 : decode cX12_unloadBand 29 = .ok (.if_icmp .ge 69, 3) := by decide +kernel
theorem dX12_unloadBand_32 : decode cX12_unloadBand 32 = .ok (.sipush 640, 3) := by decide +kernel
theorem dX12_unloadBand_35 : decode cX12_unloadBand 35 = .ok (.bipush 64, 2) := by decide +kernel
theorem dX12_unloadBand_37 : decode cX12_unloadBand 37 = .ok (.iload_n 1, 1) := by decide +kernel
theorem dX12_unloadBand_38 : decode cX12_unloadBand 38 = .ok (.imul, 1) := by decide +kernel
theorem dX12_unloadBand_39 : decode cX12_unloadBand 39 = .ok (.iadd, 1) := by decide +kernel
theorem dX12_unloadBand_40 : decode cX12_unloadBand 40 = .ok (.bipush 8, 2) := by decide +kernel
theorem dX12_unloadBand_42 : decode cX12_unloadBand 42 = .ok (.iload_n 3, 1) := by decide +kernel
theorem dX12_unloadBand_43 : decode cX12_unloadBand 43 = .ok (.imul, 1) := by decide +kernel
theorem dX12_unloadBand_44 : decode cX12_unloadBand 44 = .ok (.iadd, 1) := by decide +kernel
theorem dX12_unloadBand_45 : decode cX12_unloadBand 45 = .ok (.iload 4, 2) := by decide +kernel
theorem dX12_unloadBand_47 : decode cX12_unloadBand 47 = .ok (.iadd, 1) := by decide +kernel
theorem dX12_unloadBand_48 : decode cX12_unloadBand 48 = .ok (.istore 5, 2) := by decide +kernel
theorem dX12_unloadBand_50 : decode cX12_unloadBand 50 = .ok (.aload_n 0, 1) := by decide +kernel
theorem dX12_unloadBand_51 : decode cX12_unloadBand 51 = .ok (.getfield 26, 3) := by decide +kernel
theorem dX12_unloadBand_54 : decode cX12_unloadBand 54 = .ok (.iload_n 2, 1) := by decide +kernel
theorem dX12_unloadBand_55 : decode cX12_unloadBand 55 = .ok (.bipush 8, 2) := by decide +kernel
theorem dX12_unloadBand_57 : decode cX12_unloadBand 57 = .ok (.iload_n 3, 1) := by decide +kernel
theorem dX12_unloadBand_58 : decode cX12_unloadBand 58 = .ok (.imul, 1) := by decide +kernel
theorem dX12_unloadBand_59 : decode cX12_unloadBand 59 = .ok (.iadd, 1) := by decide +kernel
theorem dX12_unloadBand_60 : decode cX12_unloadBand 60 = .ok (.iload 4, 2) := by decide +kernel
theorem dX12_unloadBand_62 : decode cX12_unloadBand 62 = .ok (.iadd, 1) := by decide +kernel
theorem dX12_unloadBand_63 : decode cX12_unloadBand 63 = .ok (.aload_n 0, 1) := by decide +kernel
theorem dX12_unloadBand_64 : decode cX12_unloadBand 64 = .ok (.getfield 50, 3) := by decide +kernel
theorem dX12_unloadBand_67 : decode cX12_unloadBand 67 = .ok (.iload 5, 2) := by decide +kernel
theorem dX12_unloadBand_69 : decode cX12_unloadBand 69 = .ok (.baload, 1) := by decide +kernel
theorem dX12_unloadBand_70 : decode cX12_unloadBand 70 = .ok (.ifCond .eq 14, 3) := by decide +kernel
theorem dX12_unloadBand_73 : decode cX12_unloadBand 73 = .ok (.aload_n 0, 1) := by decide +kernel
theorem dX12_unloadBand_74 : decode cX12_unloadBand 74 = .ok (.getfield 47, 3) := by decide +kernel
theorem dX12_unloadBand_77 : decode cX12_unloadBand 77 = .ok (.iload 5, 2) := by decide +kernel
theorem dX12_unloadBand_79 : decode cX12_unloadBand 79 = .ok (.iaload, 1) := by decide +kernel
theorem dX12_unloadBand_80 : decode cX12_unloadBand 80 = .ok (.ineg, 1) := by decide +kernel
theorem dX12_unloadBand_81 : decode cX12_unloadBand 81 = .ok (.goto 10, 3) := by decide +kernel
theorem dX12_unloadBand_84 : decode cX12_unloadBand 84 = .ok (.aload_n 0, 1) := by decide +kernel
theorem dX12_unloadBand_85 : decode cX12_unloadBand 85 = .ok (.getfield 47, 3) := by decide +kernel
theorem dX12_unloadBand_88 : decode cX12_unloadBand 88 = .ok (.iload 5, 2) := by decide +kernel
theorem dX12_unloadBand_90 : decode cX12_unloadBand 90 = .ok (.iaload, 1) := by decide +kernel
theorem dX12_unloadBand_91 : decode cX12_unloadBand 91 = .ok (.iastore, 1) := by decide +kernel
theorem dX12_unloadBand_92 : decode cX12_unloadBand 92 = .ok (.iinc 4 1, 3) := by decide +kernel
theorem dX12_unloadBand_95 : decode cX12_unloadBand 95 = .ok (.goto (-77), 3) := by decide +kernel
theorem dX12_unloadBand_98 : decode cX12_unloadBand 98 = .ok (.iinc 3 1, 3) := by decide +kernel
theorem dX12_unloadBand_101 : decode cX12_unloadBand 101 = .ok (.goto (-99), 3) := by decide +kernel
theorem dX12_unloadBand_104 : decode cX12_unloadBand 104 = .ok (.return_, 1) := by decide +kernel
theorem dX12_decode_0 : decode cX12_decode 0 = .ok (.aload_n 0, 1) := by decide +kernel
theorem dX12_decode_1 : decode cX12_decode 1 = .ok (.iconst 0, 1) := by decide +kernel
theorem dX12_decode_2 : decode cX12_decode 2 = .ok (.putfield 117, 3) := by decide +kernel
theorem dX12_decode_5 : decode cX12_decode 5 = .ok (.iload_n 1, 1) := by decide +kernel
theorem dX12_decode_6 : decode cX12_decode 6 = .ok (.iconst 4, 1) := by decide +kernel
theorem dX12_decode_7 : decode cX12_decode 7 = .ok (.if_icmp .lt 69, 3) := by decide +kernel
theorem dX12_decode_10 : decode cX12_decode 10 = .ok (.iload_n 1, 1) := by decide +kernel
theorem dX12_decode_11 : decode cX12_decode 11 = .ok (.aload_n 0, 1) := by decide +kernel
theorem dX12_decode_12 : decode cX12_decode 12 = .ok (.getfield 329, 3) := by decide +kernel
theorem dX12_decode_15 : decode cX12_decode 15 = .ok (.if_icmp .gt 61, 3) := by decide +kernel
theorem dX12_decode_18 : decode cX12_decode 18 = .ok (.aload_n 0, 1) := by decide +kernel
theorem dX12_decode_19 : decode cX12_decode 19 = .ok (.getfield 96, 3) := by decide +kernel
theorem dX12_decode_22 : decode cX12_decode 22 = .ok (.iconst 0, 1) := by decide +kernel
theorem dX12_decode_23 : decode cX12_decode 23 = .ok (.iaload, 1) := by decide +kernel
theorem dX12_decode_24 : decode cX12_decode 24 = .ok (.iconst 1, 1) := by decide +kernel
theorem dX12_decode_25 : decode cX12_decode 25 = .ok (.bipush 8, 2) := by decide +kernel
theorem dX12_decode_27 : decode cX12_decode 27 = .ok (.invokestatic 120, 3) := by decide +kernel
theorem dX12_decode_30 : decode cX12_decode 30 = .ok (.ifCond .eq 46, 3) := by decide +kernel
theorem dX12_decode_33 : decode cX12_decode 33 = .ok (.aload_n 0, 1) := by decide +kernel
theorem dX12_decode_34 : decode cX12_decode 34 = .ok (.getfield 96, 3) := by decide +kernel
theorem dX12_decode_37 : decode cX12_decode 37 = .ok (.iconst 1, 1) := by decide +kernel
theorem dX12_decode_38 : decode cX12_decode 38 = .ok (.iaload, 1) := by decide +kernel
theorem dX12_decode_39 : decode cX12_decode 39 = .ok (.iconst 1, 1) := by decide +kernel
theorem dX12_decode_40 : decode cX12_decode 40 = .ok (.bipush 8, 2) := by decide +kernel
theorem dX12_decode_42 : decode cX12_decode 42 = .ok (.invokestatic 120, 3) := by decide +kernel
theorem dX12_decode_45 : decode cX12_decode 45 = .ok (.ifCond .eq 31, 3) := by decide +kernel
theorem dX12_decode_48 : decode cX12_decode 48 = .ok (.aload_n 0, 1) := by decide +kernel
theorem dX12_decode_49 : decode cX12_decode 49 = .ok (.getfield 96, 3) := by decide +kernel
theorem dX12_decode_52 : decode cX12_decode 52 = .ok (.iconst 2, 1) := by decide +kernel
theorem dX12_decode_53 : decode cX12_decode 53 = .ok (.iaload, 1) := by decide +kernel
theorem dX12_decode_54 : decode cX12_decode 54 = .ok (.iconst 0, 1) := by decide +kernel
theorem dX12_decode_55 : decode cX12_decode 55 = .ok (.iconst 3, 1) := by decide +kernel
theorem dX12_decode_56 : decode cX12_decode 56 = .ok (.invokestatic 120, 3) := by decide +kernel
theorem dX12_decode_59 : decode cX12_decode 59 = .ok (.ifCond .eq 17, 3) := by decide +kernel
theorem dX12_decode_62 : decode cX12_decode 62 = .ok (.aload_n 0, 1) := by decide +kernel
theorem dX12_decode_63 : decode cX12_decode 63 = .ok (.getfield 96, 3) := by decide +kernel
theorem dX12_decode_66 : decode cX12_decode 66 = .ok (.iconst 3, 1) := by decide +kernel
theorem dX12_decode_67 : decode cX12_decode 67 = .ok (.iaload, 1) := by decide +kernel
theorem dX12_decode_68 : decode cX12_decode 68 = .ok (.iconst 1, 1) := by decide +kernel
theorem dX12_decode_69 : decode cX12_decode 69 = .ok (.iconst 3, 1) := by decide +kernel
theorem dX12_decode_70 : decode cX12_decode 70 = .ok (.invokestatic 120, 3) := by decide +kernel
theorem dX12_decode_73 : decode cX12_decode 73 = .ok (.ifCond .ne 9, 3) := by decide +kernel
theorem dX12_decode_76 : decode cX12_decode 76 = .ok (.aload_n 0, 1) := by decide +kernel
theorem dX12_decode_77 : decode cX12_decode 77 = .ok (.iconst 1, 1) := by decide +kernel
theorem dX12_decode_78 : decode cX12_decode 78 = .ok (.invokevirtual 385, 3) := by decide +kernel
theorem dX12_decode_81 : decode cX12_decode 81 = .ok (.ireturn, 1) := by decide +kernel
theorem dX12_decode_82 : decode cX12_decode 82 = .ok (.aload_n 0, 1) := by decide +kernel
theorem dX12_decode_83 : decode cX12_decode 83 = .ok (.getfield 96, 3) := by decide +kernel
theorem dX12_decode_86 : decode cX12_decode 86 = .ok (.iconst 0, 1) := by decide +kernel
theorem dX12_decode_87 : decode cX12_decode 87 = .ok (.iaload, 1) := by decide +kernel
theorem dX12_decode_88 : decode cX12_decode 88 = .ok (.istore_n 2, 1) := by decide +kernel
theorem dX12_decode_89 : decode cX12_decode 89 = .ok (.aload_n 0, 1) := by decide +kernel
theorem dX12_decode_90 : decode cX12_decode 90 = .ok (.getfield 96, 3) := by decide +kernel
theorem dX12_decode_93 : decode cX12_decode 93 = .ok (.iconst 1, 1) := by decide +kernel
theorem dX12_decode_94 : decode cX12_decode 94 = .ok (.iaload, 1) := by decide +kernel
theorem dX12_decode_95 : decode cX12_decode 95 = .ok (.istore_n 3, 1) := by decide +kernel
theorem dX12_decode_96 : decode cX12_decode 96 = .ok (.aload_n 0, 1) := by decide +kernel
theorem dX12_decode_97 : decode cX12_decode 97 = .ok (.getfield 96, 3) := by decide +kernel
theorem dX12_decode_100 : decode cX12_decode 100 = .ok (.iconst 2, 1) := by decide +kernel
theorem dX12_decode_101 : decode cX12_decode 101 = .ok (.iaload, 1) := by decide +kernel
theorem dX12_decode_102 : decode cX12_decode 102 = .ok (.istore 4, 2) := by decide +kernel
theorem dX12_decode_104 : decode cX12_decode 104 = .ok (.aload_n 0, 1) := by decide +kernel
theorem dX12_decode_105 : decode cX12_decode 105 = .ok (.bipush 10, 2) := by decide +kernel
theorem dX12_decode_107 : decode cX12_decode 107 = .ok (.iload_n 2, 1) := by decide +kernel
theorem dX12_decode_108 : decode cX12_decode 108 = .ok (.iload_n 3, 1) := by decide +kernel
theorem dX12_decode_109 : decode cX12_decode 109 = .ok (.iload 4, 2) := by decide +kernel
theorem dX12_decode_111 : decode cX12_decode 111 = .ok (.invokevirtual 342, 3) := by decide +kernel
theorem dX12_decode_114 : decode cX12_decode 114 = .ok (.iconst 0, 1) := by decide +kernel
theorem dX12_decode_115 : decode cX12_decode 115 = .ok (.istore 5, 2) := by decide +kernel
theorem dX12_decode_117 : decode cX12_decode 117 = .ok (.iload 5, 2) := by decide +kernel
theorem dX12_decode_119 : decode cX12_decode 119 = .ok (.bipush 10, 2) := by decide +kernel
theorem dX12_decode_121 : decode cX12_decode 121 = .ok (.if_icmp .ge 17, 3) := by decide +kernel
theorem dX12_decode_124 : decode cX12_decode 124 = .ok (.aload_n 0, 1) := by decide +kernel
theorem dX12_decode_125 : decode cX12_decode 125 = .ok (.getfield 105, 3) := by decide +kernel
theorem dX12_decode_128 : decode cX12_decode 128 = .ok (.iload 5, 2) := by decide +kernel
theorem dX12_decode_130 : decode cX12_decode 130 = .ok (.iconst 0, 1) := by decide +kernel
theorem dX12_decode_131 : decode cX12_decode 131 = .ok (.iastore, 1) := by decide +kernel
theorem dX12_decode_132 : decode cX12_decode 132 = .ok (.iinc 5 1, 3) := by decide +kernel
theorem dX12_decode_135 : decode cX12_decode 135 = .ok (.goto (-18), 3) := by decide +kernel
theorem dX12_decode_138 : decode cX12_decode 138 = .ok (.aload_n 0, 1) := by decide +kernel
theorem dX12_decode_139 : decode cX12_decode 139 = .ok (.iconst 0, 1) := by decide +kernel
theorem dX12_decode_140 : decode cX12_decode 140 = .ok (.putfield 375, 3) := by decide +kernel
theorem dX12_decode_143 : decode cX12_decode 143 = .ok (.iconst 0, 1) := by decide +kernel
theorem dX12_decode_144 : decode cX12_decode 144 = .ok (.istore 5, 2) := by decide +kernel
theorem dX12_decode_146 : decode cX12_decode 146 = .ok (.iconst 4, 1) := by decide +kernel
theorem dX12_decode_147 : decode cX12_decode 147 = .ok (.istore 6, 2) := by decide +kernel
theorem dX12_decode_149 : decode cX12_decode 149 = .ok (.aload_n 0, 1) := by decide +kernel
theorem dX12_decode_150 : decode cX12_decode 150 = .ok (.getfield 96, 3) := by decide +kernel
theorem dX12_decode_153 : decode cX12_decode 153 = .ok (.iconst 3, 1) := by decide +kernel
theorem dX12_decode_154 : decode cX12_decode 154 = .ok (.iaload, 1) := by decide +kernel
theorem dX12_decode_155 : decode cX12_decode 155 = .ok (.iload 4, 2) := by decide +kernel
theorem dX12_decode_157 : decode cX12_decode 157 = .ok (.iconst 1, 1) := by decide +kernel
theorem dX12_decode_158 : decode cX12_decode 158 = .ok (.iadd, 1) := by decide +kernel
theorem dX12_decode_159 : decode cX12_decode 159 = .ok (.imul, 1) := by decide +kernel
theorem dX12_decode_160 : decode cX12_decode 160 = .ok (.istore 7, 2) := by decide +kernel
theorem dX12_decode_162 : decode cX12_decode 162 = .ok (.iload 6, 2) := by decide +kernel
theorem dX12_decode_164 : decode cX12_decode 164 = .ok (.ifCond .lt 45, 3) := by decide +kernel
theorem dX12_decode_167 : decode cX12_decode 167 = .ok (.iload 5, 2) := by decide +kernel
theorem dX12_decode_169 : decode cX12_decode 169 = .ok (.iload 7, 2) := by decide +kernel
theorem dX12_decode_171 : decode cX12_decode 171 = .ok (.if_icmp .ge 38, 3) := by decide +kernel
theorem dX12_decode_174 : decode cX12_decode 174 = .ok (.aload_n 0, 1) := by decide +kernel
theorem dX12_decode_175 : decode cX12_decode 175 = .ok (.iload 5, 2) := by decide +kernel
theorem dX12_decode_177 : decode cX12_decode 177 = .ok (.iload 4, 2) := by decide +kernel
theorem dX12_decode_179 : decode cX12_decode 179 = .ok (.iconst 1, 1) := by decide +kernel
theorem dX12_decode_180 : decode cX12_decode 180 = .ok (.iadd, 1) := by decide +kernel
theorem dX12_decode_181 : decode cX12_decode 181 = .ok (.irem, 1) := by decide +kernel
theorem dX12_decode_182 : decode cX12_decode 182 = .ok (.iload 6, 2) := by decide +kernel
theorem dX12_decode_184 : decode cX12_decode 184 = .ok (.iload_n 1, 1) := by decide +kernel
theorem dX12_decode_185 : decode cX12_decode 185 = .ok (.invokevirtual 388, 3) := by decide +kernel
theorem dX12_decode_188 : decode cX12_decode 188 = .ok (.istore 6, 2) := by decide +kernel
theorem dX12_decode_190 : decode cX12_decode 190 = .ok (.iload 6, 2) := by decide +kernel
theorem dX12_decode_192 : decode cX12_decode 192 = .ok (.ifCond .ge 8, 3) := by decide +kernel
theorem dX12_decode_195 : decode cX12_decode 195 = .ok (.iload 5, 2) := by decide +kernel
theorem dX12_decode_197 : decode cX12_decode 197 = .ok (.goto 7, 3) := by decide +kernel
theorem dX12_decode_200 : decode cX12_decode 200 = .ok (.iload 5, 2) := by decide +kernel
theorem dX12_decode_202 : decode cX12_decode 202 = .ok (.iconst 1, 1) := by decide +kernel
theorem dX12_decode_203 : decode cX12_decode 203 = .ok (.iadd, 1) := by decide +kernel
theorem dX12_decode_204 : decode cX12_decode 204 = .ok (.istore 5, 2) := by decide +kernel
theorem dX12_decode_206 : decode cX12_decode 206 = .ok (.goto (-44), 3) := by decide +kernel
theorem dX12_decode_209 : decode cX12_decode 209 = .ok (.aload_n 0, 1) := by decide +kernel
theorem dX12_decode_210 : decode cX12_decode 210 = .ok (.getfield 375, 3) := by decide +kernel
theorem dX12_decode_213 : decode cX12_decode 213 = .ok (.ifCond .eq 9, 3) := by decide +kernel
theorem dX12_decode_216 : decode cX12_decode 216 = .ok (.aload_n 0, 1) := by decide +kernel
theorem dX12_decode_217 : decode cX12_decode 217 = .ok (.iconst 1, 1) := by decide +kernel
theorem dX12_decode_218 : decode cX12_decode 218 = .ok (.invokevirtual 385, 3) := by decide +kernel
theorem dX12_decode_221 : decode cX12_decode 221 = .ok (.ireturn, 1) := by decide +kernel
theorem dX12_decode_222 : decode cX12_decode 222 = .ok (.aload_n 0, 1) := by decide +kernel
theorem dX12_decode_223 : decode cX12_decode 223 = .ok (.iload_n 2, 1) := by decide +kernel
theorem dX12_decode_224 : decode cX12_decode 224 = .ok (.putfield 392, 3) := by decide +kernel
theorem dX12_decode_227 : decode cX12_decode 227 = .ok (.aload_n 0, 1) := by decide +kernel
theorem dX12_decode_228 : decode cX12_decode 228 = .ok (.iload_n 3, 1) := by decide +kernel
theorem dX12_decode_229 : decode cX12_decode 229 = .ok (.putfield 395, 3) := by decide +kernel
theorem dX12_decode_232 : decode cX12_decode 232 = .ok (.aload_n 0, 1) := by decide +kernel
theorem dX12_decode_233 : decode cX12_decode 233 = .ok (.iconst 3, 1) := by decide +kernel
theorem dX12_decode_234 : decode cX12_decode 234 = .ok (.iload 4, 2) := by decide +kernel
theorem dX12_decode_236 : decode cX12_decode 236 = .ok (.imul, 1) := by decide +kernel
theorem dX12_decode_237 : decode cX12_decode 237 = .ok (.iconst 1, 1) := by decide +kernel
theorem dX12_decode_238 : decode cX12_decode 238 = .ok (.iadd, 1) := by decide +kernel
theorem dX12_decode_239 : decode cX12_decode 239 = .ok (.putfield 398, 3) := by decide +kernel
theorem dX12_decode_242 : decode cX12_decode 242 = .ok (.iconst 0, 1) := by decide +kernel
theorem dX12_decode_243 : decode cX12_decode 243 = .ok (.istore 8, 2) := by decide +kernel
theorem dX12_decode_245 : decode cX12_decode 245 = .ok (.iload 8, 2) := by decide +kernel
theorem dX12_decode_247 : decode cX12_decode 247 = .ok (.aload_n 0, 1) := by decide +kernel
theorem dX12_decode_248 : decode cX12_decode 248 = .ok (.getfield 398, 3) := by decide +kernel
theorem dX12_decode_251 : decode cX12_decode 251 = .ok (.if_icmp .ge 47, 3) := by decide +kernel
theorem dX12_decode_254 : decode cX12_decode 254 = .ok (.aload_n 0, 1) := by decide +kernel
theorem dX12_decode_255 : decode cX12_decode 255 = .ok (.getfield 114, 3) := by decide +kernel
theorem dX12_decode_258 : decode cX12_decode 258 = .ok (.iload 8, 2) := by decide +kernel
theorem dX12_decode_260 : decode cX12_decode 260 = .ok (.aload_n 0, 1) := by decide +kernel
theorem dX12_decode_261 : decode cX12_decode 261 = .ok (.getfield 57, 3) := by decide +kernel
theorem dX12_decode_264 : decode cX12_decode 264 = .ok (.bipush 10, 2) := by decide +kernel
theorem dX12_decode_266 : decode cX12_decode 266 = .ok (.iload 8, 2) := by decide +kernel
theorem dX12_decode_268 : decode cX12_decode 268 = .ok (.iadd, 1) := by decide +kernel
theorem dX12_decode_269 : decode cX12_decode 269 = .ok (.iaload, 1) := by decide +kernel
theorem dX12_decode_270 : decode cX12_decode 270 = .ok (.iastore, 1) := by decide +kernel
theorem dX12_decode_271 : decode cX12_decode 271 = .ok (.aload_n 0, 1) := by decide +kernel
theorem dX12_decode_272 : decode cX12_decode 272 = .ok (.iload 8, 2) := by decide +kernel
theorem dX12_decode_274 : decode cX12_decode 274 = .ok (.invokevirtual 401, 3) := by decide +kernel
theorem dX12_decode_277 : decode cX12_decode 277 = .ok (.aload_n 0, 1) := by decide +kernel
theorem dX12_decode_278 : decode cX12_decode 278 = .ok (.iload 8, 2) := by decide +kernel
theorem dX12_decode_280 : decode cX12_decode 280 = .ok (.iload 8, 2) := by decide +kernel
theorem dX12_decode_282 : decode cX12_decode 282 = .ok (.iload_n 2, 1) := by decide +kernel
theorem dX12_decode_283 : decode cX12_decode 283 = .ok (.iload_n 3, 1) := by decide +kernel
theorem dX12_decode_284 : decode cX12_decode 284 = .ok (.iload 4, 2) := by decide +kernel
theorem dX12_decode_286 : decode cX12_decode 286 = .ok (.invokestatic 348, 3) := by decide +kernel
theorem dX12_decode_289 : decode cX12_decode 289 = .ok (.invokevirtual 404, 3) := by decide +kernel
theorem dX12_decode_292 : decode cX12_decode 292 = .ok (.iinc 8 1, 3) := by decide +kernel
theorem dX12_decode_295 : decode cX12_decode 295 = .ok (.goto (-50), 3) := by decide +kernel
theorem dX12_decode_298 : decode cX12_decode 298 = .ok (.iload 4, 2) := by decide +kernel
theorem dX12_decode_300 : decode cX12_decode 300 = .ok (.iconst 1, 1) := by decide +kernel
theorem dX12_decode_301 : decode cX12_decode 301 = .ok (.isub, 1) := by decide +kernel
theorem dX12_decode_302 : decode cX12_decode 302 = .ok (.istore 8, 2) := by decide +kernel
theorem dX12_decode_304 : decode cX12_decode 304 = .ok (.iload 8, 2) := by decide +kernel
theorem dX12_decode_306 : decode cX12_decode 306 = .ok (.ifCond .lt 43, 3) := by decide +kernel
theorem dX12_decode_309 : decode cX12_decode 309 = .ok (.aload_n 0, 1) := by decide +kernel
theorem dX12_decode_310 : decode cX12_decode 310 = .ok (.iload_n 2, 1) := by decide +kernel
theorem dX12_decode_311 : decode cX12_decode 311 = .ok (.iload 8, 2) := by decide +kernel
theorem dX12_decode_313 : decode cX12_decode 313 = .ok (.invokestatic 153, 3) := by decide +kernel
theorem dX12_decode_316 : decode cX12_decode 316 = .ok (.iload_n 3, 1) := by decide +kernel
theorem dX12_decode_317 : decode cX12_decode 317 = .ok (.iload 8, 2) := by decide +kernel
theorem dX12_decode_319 : decode cX12_decode 319 = .ok (.invokestatic 153, 3) := by decide +kernel
theorem dX12_decode_322 : decode cX12_decode 322 = .ok (.iconst 1, 1) := by decide +kernel
theorem dX12_decode_323 : decode cX12_decode 323 = .ok (.invokevirtual 339, 3) := by decide +kernel
theorem dX12_decode_326 : decode cX12_decode 326 = .ok (.aload_n 0, 1) := by decide +kernel
theorem dX12_decode_327 : decode cX12_decode 327 = .ok (.iload_n 2, 1) := by decide +kernel
theorem dX12_decode_328 : decode cX12_decode 328 = .ok (.iload 8, 2) := by decide +kernel
theorem dX12_decode_330 : decode cX12_decode 330 = .ok (.invokestatic 153, 3) := by decide +kernel
theorem dX12_decode_333 : decode cX12_decode 333 = .ok (.iload_n 3, 1) := by decide +kernel
theorem dX12_decode_334 : decode cX12_decode 334 = .ok (.iload 8, 2) := by decide +kernel
theorem dX12_decode_336 : decode cX12_decode 336 = .ok (.invokestatic 153, 3) := by decide +kernel
theorem dX12_decode_339 : decode cX12_decode 339 = .ok (.iconst 1, 1) := by decide +kernel
theorem dX12_decode_340 : decode cX12_decode 340 = .ok (.invokevirtual 335, 3) := by decide +kernel
theorem dX12_decode_343 : decode cX12_decode 343 = .ok (.iinc 8 (-1), 3) := by decide +kernel
theorem dX12_decode_346 : decode cX12_decode 346 = .ok (.goto (-42), 3) := by decide +kernel
theorem dX12_decode_349 : decode cX12_decode 349 = .ok (.iconst 0, 1) := by decide +kernel
theorem dX12_decode_350 : decode cX12_decode 350 = .ok (.istore 8, 2) := by decide +kernel
theorem dX12_decode_352 : decode cX12_decode 352 = .ok (.iload 8, 2) := by decide +kernel
theorem dX12_decode_354 : decode cX12_decode 354 = .ok (.bipush 64, 2) := by decide +kernel
theorem dX12_decode_356 : decode cX12_decode 356 = .ok (.if_icmp .ge 54, 3) := by decide +kernel
theorem dX12_decode_359 : decode cX12_decode 359 = .ok (.aload_n 0, 1) := by decide +kernel
theorem dX12_decode_360 : decode cX12_decode 360 = .ok (.getfield 26, 3) := by decide +kernel
theorem dX12_decode_363 : decode cX12_decode 363 = .ok (.iload 8, 2) := by decide +kernel
theorem dX12_decode_365 : decode cX12_decode 365 = .ok (.iaload, 1) := by decide +kernel
theorem dX12_decode_366 : decode cX12_decode 366 = .ok (.sipush 128, 3) := by decide +kernel
theorem dX12_decode_369 : decode cX12_decode 369 = .ok (.iadd, 1) := by decide +kernel
theorem dX12_decode_370 : decode cX12_decode 370 = .ok (.istore 9, 2) := by decide +kernel
theorem dX12_decode_372 : decode cX12_decode 372 = .ok (.aload_n 0, 1) := by decide +kernel
theorem dX12_decode_373 : decode cX12_decode 373 = .ok (.getfield 111, 3) := by decide +kernel
theorem dX12_decode_376 : decode cX12_decode 376 = .ok (.iload 8, 2) := by decide +kernel
theorem dX12_decode_378 : decode cX12_decode 378 = .ok (.iload 9, 2) := by decide +kernel
theorem dX12_decode_380 : decode cX12_decode 380 = .ok (.ifCond .ge 7, 3) := by decide +kernel
theorem dX12_decode_383 : decode cX12_decode 383 = .ok (.iconst 0, 1) := by decide +kernel
theorem dX12_decode_384 : decode cX12_decode 384 = .ok (.goto 19, 3) := by decide +kernel
theorem dX12_decode_387 : decode cX12_decode 387 = .ok (.iload 9, 2) := by decide +kernel
theorem dX12_decode_389 : decode cX12_decode 389 = .ok (.sipush 255, 3) := by decide +kernel
theorem dX12_decode_392 : decode cX12_decode 392 = .ok (.if_icmp .le 9, 3) := by decide +kernel
theorem dX12_decode_395 : decode cX12_decode 395 = .ok (.sipush 255, 3) := by decide +kernel
theorem dX12_decode_398 : decode cX12_decode 398 = .ok (.goto 5, 3) := by decide +kernel
theorem dX12_decode_401 : decode cX12_decode 401 = .ok (.iload 9, 2) := by decide +kernel
theorem dX12_decode_403 : decode cX12_decode 403 = .ok (.iastore, 1) := by decide +kernel
theorem dX12_decode_404 : decode cX12_decode 404 = .ok (.iinc 8 1, 3) := by decide +kernel
theorem dX12_decode_407 : decode cX12_decode 407 = .ok (.goto (-55), 3) := by decide +kernel
theorem dX12_decode_410 : decode cX12_decode 410 = .ok (.iload 5, 2) := by decide +kernel
theorem dX12_decode_412 : decode cX12_decode 412 = .ok (.ireturn, 1) := by decide +kernel
theorem dX12_decoded_0 : decode cX12_decoded 0 = .ok (.aload_n 0, 1) := by decide +kernel
theorem dX12_decoded_1 : decode cX12_decoded 1 = .ok (.iconst 0, 1) := by decide +kernel
theorem dX12_decoded_2 : decode cX12_decoded 2 = .ok (.putfield 117, 3) := by decide +kernel
theorem dX12_decoded_5 : decode cX12_decoded 5 = .ok (.iload_n 1, 1) := by decide +kernel
theorem dX12_decoded_6 : decode cX12_decoded 6 = .ok (.iconst 0, 1) := by decide +kernel
theorem dX12_decoded_7 : decode cX12_decoded 7 = .ok (.aload_n 0, 1) := by decide +kernel
theorem dX12_decoded_8 : decode cX12_decoded 8 = .ok (.getfield 392, 3) := by decide +kernel
theorem dX12_decoded_11 : decode cX12_decoded 11 = .ok (.iconst 1, 1) := by decide +kernel
theorem dX12_decoded_12 : decode cX12_decoded 12 = .ok (.isub, 1) := by decide +kernel
theorem dX12_decoded_13 : decode cX12_decoded 13 = .ok (.invokestatic 120, 3) := by decide +kernel
theorem dX12_decoded_16 : decode cX12_decoded 16 = .ok (.ifCond .eq 31, 3) := by decide +kernel
theorem dX12_decoded_19 : decode cX12_decoded 19 = .ok (.iload_n 2, 1) := by decide +kernel
theorem dX12_decoded_20 : decode cX12_decoded 20 = .ok (.iconst 0, 1) := by decide +kernel
theorem dX12_decoded_21 : decode cX12_decoded 21 = .ok (.aload_n 0, 1) := by decide +kernel
theorem dX12_decoded_22 : decode cX12_decoded 22 = .ok (.getfield 395, 3) := by decide +kernel
theorem dX12_decoded_25 : decode cX12_decoded 25 = .ok (.iconst 1, 1) := by decide +kernel
theorem dX12_decoded_26 : decode cX12_decoded 26 = .ok (.isub, 1) := by decide +kernel
theorem dX12_decoded_27 : decode cX12_decoded 27 = .ok (.invokestatic 120, 3) := by decide +kernel
theorem dX12_decoded_30 : decode cX12_decoded 30 = .ok (.ifCond .eq 17, 3) := by decide +kernel
theorem dX12_decoded_33 : decode cX12_decoded 33 = .ok (.aload_n 0, 1) := by decide +kernel
theorem dX12_decoded_34 : decode cX12_decoded 34 = .ok (.getfield 111, 3) := by decide +kernel
theorem dX12_decoded_37 : decode cX12_decoded 37 = .ok (.bipush 8, 2) := by decide +kernel
theorem dX12_decoded_39 : decode cX12_decoded 39 = .ok (.iload_n 2, 1) := by decide +kernel
theorem dX12_decoded_40 : decode cX12_decoded 40 = .ok (.imul, 1) := by decide +kernel
theorem dX12_decoded_41 : decode cX12_decoded 41 = .ok (.iload_n 1, 1) := by decide +kernel
theorem dX12_decoded_42 : decode cX12_decoded 42 = .ok (.iadd, 1) := by decide +kernel
theorem dX12_decoded_43 : decode cX12_decoded 43 = .ok (.iaload, 1) := by decide +kernel
theorem dX12_decoded_44 : decode cX12_decoded 44 = .ok (.goto 5, 3) := by decide +kernel
theorem dX12_decoded_47 : decode cX12_decoded 47 = .ok (.ldc 128, 2) := by decide +kernel
theorem dX12_decoded_49 : decode cX12_decoded 49 = .ok (.ireturn, 1) := by decide +kernel
theorem dX12_taken_0 : decode cX12_taken 0 = .ok (.aload_n 0, 1) := by decide +kernel
theorem dX12_taken_1 : decode cX12_taken 1 = .ok (.iconst 0, 1) := by decide +kernel
theorem dX12_taken_2 : decode cX12_taken 2 = .ok (.putfield 117, 3) := by decide +kernel
theorem dX12_taken_5 : decode cX12_taken 5 = .ok (.iload_n 1, 1) := by decide +kernel
theorem dX12_taken_6 : decode cX12_taken 6 = .ok (.iconst 0, 1) := by decide +kernel
theorem dX12_taken_7 : decode cX12_taken 7 = .ok (.aload_n 0, 1) := by decide +kernel
theorem dX12_taken_8 : decode cX12_taken 8 = .ok (.getfield 398, 3) := by decide +kernel
theorem dX12_taken_11 : decode cX12_taken 11 = .ok (.iconst 1, 1) := by decide +kernel
theorem dX12_taken_12 : decode cX12_taken 12 = .ok (.isub, 1) := by decide +kernel
theorem dX12_taken_13 : decode cX12_taken 13 = .ok (.invokestatic 120, 3) := by decide +kernel
theorem dX12_taken_16 : decode cX12_taken 16 = .ok (.ifCond .eq 12, 3) := by decide +kernel
theorem dX12_taken_19 : decode cX12_taken 19 = .ok (.aload_n 0, 1) := by decide +kernel
theorem dX12_taken_20 : decode cX12_taken 20 = .ok (.getfield 114, 3) := by decide +kernel
theorem dX12_taken_23 : decode cX12_taken 23 = .ok (.iload_n 1, 1) := by decide +kernel
theorem dX12_taken_24 : decode cX12_taken 24 = .ok (.iaload, 1) := by decide +kernel
theorem dX12_taken_25 : decode cX12_taken 25 = .ok (.goto 5, 3) := by decide +kernel
theorem dX12_taken_28 : decode cX12_taken 28 = .ok (.ldc 128, 2) := by decide +kernel
theorem dX12_taken_30 : decode cX12_taken 30 = .ok (.ireturn, 1) := by decide +kernel
theorem dX12_difference_0 : decode cX12_difference 0 = .ok (.aload_n 0, 1) := by decide +kernel
theorem dX12_difference_1 : decode cX12_difference 1 = .ok (.iconst 0, 1) := by decide +kernel
theorem dX12_difference_2 : decode cX12_difference 2 = .ok (.putfield 117, 3) := by decide +kernel
theorem dX12_difference_5 : decode cX12_difference 5 = .ok (.aload_n 0, 1) := by decide +kernel
theorem dX12_difference_6 : decode cX12_difference 6 = .ok (.getfield 16, 3) := by decide +kernel
theorem dX12_difference_9 : decode cX12_difference 9 = .ok (.aload_n 0, 1) := by decide +kernel
theorem dX12_difference_10 : decode cX12_difference 10 = .ok (.getfield 392, 3) := by decide +kernel
theorem dX12_difference_13 : decode cX12_difference 13 = .ok (.if_icmp .ne 14, 3) := by decide +kernel
theorem dX12_difference_16 : decode cX12_difference 16 = .ok (.aload_n 0, 1) := by decide +kernel
theorem dX12_difference_17 : decode cX12_difference 17 = .ok (.getfield 20, 3) := by decide +kernel
theorem dX12_difference_20 : decode cX12_difference 20 = .ok (.aload_n 0, 1) := by decide +kernel
theorem dX12_difference_21 : decode cX12_difference 21 = .ok (.getfield 395, 3) := by decide +kernel
theorem dX12_difference_24 : decode cX12_difference 24 = .ok (.if_icmp .eq 6, 3) := by decide +kernel
theorem dX12_difference_27 : decode cX12_difference 27 = .ok (.ldc 128, 2) := by decide +kernel
theorem dX12_difference_29 : decode cX12_difference 29 = .ok (.ireturn, 1) := by decide +kernel
theorem dX12_difference_30 : decode cX12_difference 30 = .ok (.iconst 0, 1) := by decide +kernel
theorem dX12_difference_31 : decode cX12_difference 31 = .ok (.istore_n 1, 1) := by decide +kernel
theorem dX12_difference_32 : decode cX12_difference 32 = .ok (.iconst 0, 1) := by decide +kernel
theorem dX12_difference_33 : decode cX12_difference 33 = .ok (.istore_n 2, 1) := by decide +kernel
theorem dX12_difference_34 : decode cX12_difference 34 = .ok (.iload_n 2, 1) := by decide +kernel
theorem dX12_difference_35 : decode cX12_difference 35 = .ok (.aload_n 0, 1) := by decide +kernel
theorem dX12_difference_36 : decode cX12_difference 36 = .ok (.getfield 20, 3) := by decide +kernel
theorem dX12_difference_39 : decode cX12_difference 39 = .ok (.if_icmp .ge 78, 3) := by decide +kernel
theorem dX12_difference_42 : decode cX12_difference 42 = .ok (.iconst 0, 1) := by decide +kernel
theorem dX12_difference_43 : decode cX12_difference 43 = .ok (.istore_n 3, 1) := by decide +kernel
theorem dX12_difference_44 : decode cX12_difference 44 = .ok (.iload_n 3, 1) := by decide +kernel
theorem dX12_difference_45 : decode cX12_difference 45 = .ok (.aload_n 0, 1) := by decide +kernel
theorem dX12_difference_46 : decode cX12_difference 46 = .ok (.getfield 16, 3) := by decide +kernel
theorem dX12_difference_49 : decode cX12_difference 49 = .ok (.if_icmp .ge 62, 3) := by decide +kernel
theorem dX12_difference_52 : decode cX12_difference 52 = .ok (.aload_n 0, 1) := by decide +kernel
theorem dX12_difference_53 : decode cX12_difference 53 = .ok (.getfield 23, 3) := by decide +kernel
theorem dX12_difference_56 : decode cX12_difference 56 = .ok (.bipush 8, 2) := by decide +kernel
theorem dX12_difference_58 : decode cX12_difference 58 = .ok (.iload_n 2, 1) := by decide +kernel
theorem dX12_difference_59 : decode cX12_difference 59 = .ok (.imul, 1) := by decide +kernel
theorem dX12_difference_60 : decode cX12_difference 60 = .ok (.iload_n 3, 1) := by decide +kernel
theorem dX12_difference_61 : decode cX12_difference 61 = .ok (.iadd, 1) := by decide +kernel
theorem dX12_difference_62 : decode cX12_difference 62 = .ok (.iaload, 1) := by decide +kernel
theorem dX12_difference_63 : decode cX12_difference 63 = .ok (.aload_n 0, 1) := by decide +kernel
theorem dX12_difference_64 : decode cX12_difference 64 = .ok (.getfield 111, 3) := by decide +kernel
theorem dX12_difference_67 : decode cX12_difference 67 = .ok (.bipush 8, 2) := by decide +kernel
theorem dX12_difference_69 : decode cX12_difference 69 = .ok (.iload_n 2, 1) := by decide +kernel
theorem dX12_difference_70 : decode cX12_difference 70 = .ok (.imul, 1) := by decide +kernel
theorem dX12_difference_71 : decode cX12_difference 71 = .ok (.iload_n 3, 1) := by decide +kernel
theorem dX12_difference_72 : decode cX12_difference 72 = .ok (.iadd, 1) := by decide +kernel
theorem dX12_difference_73 : decode cX12_difference 73 = .ok (.iaload, 1) := by decide +kernel
theorem dX12_difference_74 : decode cX12_difference 74 = .ok (.isub, 1) := by decide +kernel
theorem dX12_difference_75 : decode cX12_difference 75 = .ok (.istore 4, 2) := by decide +kernel
theorem dX12_difference_77 : decode cX12_difference 77 = .ok (.iload 4, 2) := by decide +kernel
theorem dX12_difference_79 : decode cX12_difference 79 = .ok (.ifCond .ge 9, 3) := by decide +kernel
theorem dX12_difference_82 : decode cX12_difference 82 = .ok (.iload 4, 2) := by decide +kernel
theorem dX12_difference_84 : decode cX12_difference 84 = .ok (.ineg, 1) := by decide +kernel
theorem dX12_difference_85 : decode cX12_difference 85 = .ok (.goto 5, 3) := by decide +kernel
theorem dX12_difference_88 : decode cX12_difference 88 = .ok (.iload 4, 2) := by decide +kernel
theorem dX12_difference_90 : decode cX12_difference 90 = .ok (.istore 4, 2) := by decide +kernel
theorem dX12_difference_92 : decode cX12_difference 92 = .ok (.iload 4, 2) := by decide +kernel
theorem dX12_difference_94 : decode cX12_difference 94 = .ok (.iload_n 1, 1) := by decide +kernel
theorem dX12_difference_95 : decode cX12_difference 95 = .ok (.if_icmp .le 8, 3) := by decide +kernel
theorem dX12_difference_98 : decode cX12_difference 98 = .ok (.iload 4, 2) := by decide +kernel
theorem dX12_difference_100 : decode cX12_difference 100 = .ok (.goto 4, 3) := by decide +kernel
theorem dX12_difference_103 : decode cX12_difference 103 = .ok (.iload_n 1, 1) := by decide +kernel
theorem dX12_difference_104 : decode cX12_difference 104 = .ok (.istore_n 1, 1) := by decide +kernel
theorem dX12_difference_105 : decode cX12_difference 105 = .ok (.iinc 3 1, 3) := by decide +kernel
theorem dX12_difference_108 : decode cX12_difference 108 = .ok (.goto (-64), 3) := by decide +kernel
theorem dX12_difference_111 : decode cX12_difference 111 = .ok (.iinc 2 1, 3) := by decide +kernel
theorem dX12_difference_114 : decode cX12_difference 114 = .ok (.goto (-80), 3) := by decide +kernel
theorem dX12_difference_117 : decode cX12_difference 117 = .ok (.iload_n 1, 1) := by decide +kernel
theorem dX12_difference_118 : decode cX12_difference 118 = .ok (.ireturn, 1) := by decide +kernel
theorem dJ6_numberOfLeadingZeros_0f7a4_0 : decode cJ6_numberOfLeadingZeros_0f7a4 0 = .ok (.iload_n 0, 1) := by decide +kernel
theorem dJ6_numberOfLeadingZeros_0f7a4_1 : decode cJ6_numberOfLeadingZeros_0f7a4 1 = .ok (.ifCond .gt 14, 3) := by decide +kernel
theorem dJ6_numberOfLeadingZeros_0f7a4_4 : decode cJ6_numberOfLeadingZeros_0f7a4 4 = .ok (.iload_n 0, 1) := by decide +kernel
theorem dJ6_numberOfLeadingZeros_0f7a4_5 : decode cJ6_numberOfLeadingZeros_0f7a4 5 = .ok (.ifCond .ne 8, 3) := by decide +kernel
theorem dJ6_numberOfLeadingZeros_0f7a4_8 : decode cJ6_numberOfLeadingZeros_0f7a4 8 = .ok (.bipush 32, 2) := by decide +kernel
theorem dJ6_numberOfLeadingZeros_0f7a4_10 : decode cJ6_numberOfLeadingZeros_0f7a4 10 = .ok (.goto 4, 3) := by decide +kernel
theorem dJ6_numberOfLeadingZeros_0f7a4_13 : decode cJ6_numberOfLeadingZeros_0f7a4 13 = .ok (.iconst 0, 1) := by decide +kernel
theorem dJ6_numberOfLeadingZeros_0f7a4_14 : decode cJ6_numberOfLeadingZeros_0f7a4 14 = .ok (.ireturn, 1) := by decide +kernel
theorem dJ6_numberOfLeadingZeros_0f7a4_15 : decode cJ6_numberOfLeadingZeros_0f7a4 15 = .ok (.bipush 31, 2) := by decide +kernel
theorem dJ6_numberOfLeadingZeros_0f7a4_17 : decode cJ6_numberOfLeadingZeros_0f7a4 17 = .ok (.istore_n 1, 1) := by decide +kernel
theorem dJ6_numberOfLeadingZeros_0f7a4_18 : decode cJ6_numberOfLeadingZeros_0f7a4 18 = .ok (.iload_n 0, 1) := by decide +kernel
theorem dJ6_numberOfLeadingZeros_0f7a4_19 : decode cJ6_numberOfLeadingZeros_0f7a4 19 = .ok (.ldc_w 264, 3) := by decide +kernel
theorem dJ6_numberOfLeadingZeros_0f7a4_22 : decode cJ6_numberOfLeadingZeros_0f7a4 22 = .ok (.if_icmp .lt 11, 3) := by decide +kernel
theorem dJ6_numberOfLeadingZeros_0f7a4_25 : decode cJ6_numberOfLeadingZeros_0f7a4 25 = .ok (.iinc 1 (-16), 3) := by decide +kernel
theorem dJ6_numberOfLeadingZeros_0f7a4_28 : decode cJ6_numberOfLeadingZeros_0f7a4 28 = .ok (.iload_n 0, 1) := by decide +kernel
theorem dJ6_numberOfLeadingZeros_0f7a4_29 : decode cJ6_numberOfLeadingZeros_0f7a4 29 = .ok (.bipush 16, 2) := by decide +kernel
theorem dJ6_numberOfLeadingZeros_0f7a4_31 : decode cJ6_numberOfLeadingZeros_0f7a4 31 = .ok (.iushr, 1) := by decide +kernel
theorem dJ6_numberOfLeadingZeros_0f7a4_32 : decode cJ6_numberOfLeadingZeros_0f7a4 32 = .ok (.istore_n 0, 1) := by decide +kernel
theorem dJ6_numberOfLeadingZeros_0f7a4_33 : decode cJ6_numberOfLeadingZeros_0f7a4 33 = .ok (.iload_n 0, 1) := by decide +kernel
theorem dJ6_numberOfLeadingZeros_0f7a4_34 : decode cJ6_numberOfLeadingZeros_0f7a4 34 = .ok (.sipush 256, 3) := by decide +kernel
theorem dJ6_numberOfLeadingZeros_0f7a4_37 : decode cJ6_numberOfLeadingZeros_0f7a4 37 = .ok (.if_icmp .lt 11, 3) := by decide +kernel
theorem dJ6_numberOfLeadingZeros_0f7a4_40 : decode cJ6_numberOfLeadingZeros_0f7a4 40 = .ok (.iinc 1 (-8), 3) := by decide +kernel
theorem dJ6_numberOfLeadingZeros_0f7a4_43 : decode cJ6_numberOfLeadingZeros_0f7a4 43 = .ok (.iload_n 0, 1) := by decide +kernel
theorem dJ6_numberOfLeadingZeros_0f7a4_44 : decode cJ6_numberOfLeadingZeros_0f7a4 44 = .ok (.bipush 8, 2) := by decide +kernel
theorem dJ6_numberOfLeadingZeros_0f7a4_46 : decode cJ6_numberOfLeadingZeros_0f7a4 46 = .ok (.iushr, 1) := by decide +kernel
theorem dJ6_numberOfLeadingZeros_0f7a4_47 : decode cJ6_numberOfLeadingZeros_0f7a4 47 = .ok (.istore_n 0, 1) := by decide +kernel
theorem dJ6_numberOfLeadingZeros_0f7a4_48 : decode cJ6_numberOfLeadingZeros_0f7a4 48 = .ok (.iload_n 0, 1) := by decide +kernel
theorem dJ6_numberOfLeadingZeros_0f7a4_49 : decode cJ6_numberOfLeadingZeros_0f7a4 49 = .ok (.bipush 16, 2) := by decide +kernel
theorem dJ6_numberOfLeadingZeros_0f7a4_51 : decode cJ6_numberOfLeadingZeros_0f7a4 51 = .ok (.if_icmp .lt 10, 3) := by decide +kernel
theorem dJ6_numberOfLeadingZeros_0f7a4_54 : decode cJ6_numberOfLeadingZeros_0f7a4 54 = .ok (.iinc 1 (-4), 3) := by decide +kernel
theorem dJ6_numberOfLeadingZeros_0f7a4_57 : decode cJ6_numberOfLeadingZeros_0f7a4 57 = .ok (.iload_n 0, 1) := by decide +kernel
theorem dJ6_numberOfLeadingZeros_0f7a4_58 : decode cJ6_numberOfLeadingZeros_0f7a4 58 = .ok (.iconst 4, 1) := by decide +kernel
theorem dJ6_numberOfLeadingZeros_0f7a4_59 : decode cJ6_numberOfLeadingZeros_0f7a4 59 = .ok (.iushr, 1) := by decide +kernel
theorem dJ6_numberOfLeadingZeros_0f7a4_60 : decode cJ6_numberOfLeadingZeros_0f7a4 60 = .ok (.istore_n 0, 1) := by decide +kernel
theorem dJ6_numberOfLeadingZeros_0f7a4_61 : decode cJ6_numberOfLeadingZeros_0f7a4 61 = .ok (.iload_n 0, 1) := by decide +kernel
theorem dJ6_numberOfLeadingZeros_0f7a4_62 : decode cJ6_numberOfLeadingZeros_0f7a4 62 = .ok (.iconst 4, 1) := by decide +kernel
theorem dJ6_numberOfLeadingZeros_0f7a4_63 : decode cJ6_numberOfLeadingZeros_0f7a4 63 = .ok (.if_icmp .lt 10, 3) := by decide +kernel
theorem dJ6_numberOfLeadingZeros_0f7a4_66 : decode cJ6_numberOfLeadingZeros_0f7a4 66 = .ok (.iinc 1 (-2), 3) := by decide +kernel
theorem dJ6_numberOfLeadingZeros_0f7a4_69 : decode cJ6_numberOfLeadingZeros_0f7a4 69 = .ok (.iload_n 0, 1) := by decide +kernel
theorem dJ6_numberOfLeadingZeros_0f7a4_70 : decode cJ6_numberOfLeadingZeros_0f7a4 70 = .ok (.iconst 2, 1) := by decide +kernel
theorem dJ6_numberOfLeadingZeros_0f7a4_71 : decode cJ6_numberOfLeadingZeros_0f7a4 71 = .ok (.iushr, 1) := by decide +kernel
theorem dJ6_numberOfLeadingZeros_0f7a4_72 : decode cJ6_numberOfLeadingZeros_0f7a4 72 = .ok (.istore_n 0, 1) := by decide +kernel
theorem dJ6_numberOfLeadingZeros_0f7a4_73 : decode cJ6_numberOfLeadingZeros_0f7a4 73 = .ok (.iload_n 1, 1) := by decide +kernel
theorem dJ6_numberOfLeadingZeros_0f7a4_74 : decode cJ6_numberOfLeadingZeros_0f7a4 74 = .ok (.iload_n 0, 1) := by decide +kernel
theorem dJ6_numberOfLeadingZeros_0f7a4_75 : decode cJ6_numberOfLeadingZeros_0f7a4 75 = .ok (.iconst 1, 1) := by decide +kernel
theorem dJ6_numberOfLeadingZeros_0f7a4_76 : decode cJ6_numberOfLeadingZeros_0f7a4 76 = .ok (.iushr, 1) := by decide +kernel
theorem dJ6_numberOfLeadingZeros_0f7a4_77 : decode cJ6_numberOfLeadingZeros_0f7a4 77 = .ok (.isub, 1) := by decide +kernel
theorem dJ6_numberOfLeadingZeros_0f7a4_78 : decode cJ6_numberOfLeadingZeros_0f7a4 78 = .ok (.ireturn, 1) := by decide +kernel
theorem dJ9_abs_0f7a4_0 : decode cJ9_abs_0f7a4 0 = .ok (.iload_n 0, 1) := by decide +kernel
theorem dJ9_abs_0f7a4_1 : decode cJ9_abs_0f7a4 1 = .ok (.ifCond .ge 8, 3) := by decide +kernel
theorem dJ9_abs_0f7a4_4 : decode cJ9_abs_0f7a4 4 = .ok (.iload_n 0, 1) := by decide +kernel
theorem dJ9_abs_0f7a4_5 : decode cJ9_abs_0f7a4 5 = .ok (.ineg, 1) := by decide +kernel
theorem dJ9_abs_0f7a4_6 : decode cJ9_abs_0f7a4 6 = .ok (.goto 4, 3) := by decide +kernel
theorem dJ9_abs_0f7a4_9 : decode cJ9_abs_0f7a4 9 = .ok (.iload_n 0, 1) := by decide +kernel
theorem dJ9_abs_0f7a4_10 : decode cJ9_abs_0f7a4 10 = .ok (.ireturn, 1) := by decide +kernel
theorem dJ9_max_7cf53_0 : decode cJ9_max_7cf53 0 = .ok (.iload_n 0, 1) := by decide +kernel
theorem dJ9_max_7cf53_1 : decode cJ9_max_7cf53 1 = .ok (.iload_n 1, 1) := by decide +kernel
theorem dJ9_max_7cf53_2 : decode cJ9_max_7cf53 2 = .ok (.if_icmp .lt 7, 3) := by decide +kernel
theorem dJ9_max_7cf53_5 : decode cJ9_max_7cf53 5 = .ok (.iload_n 0, 1) := by decide +kernel
theorem dJ9_max_7cf53_6 : decode cJ9_max_7cf53 6 = .ok (.goto 4, 3) := by decide +kernel
theorem dJ9_max_7cf53_9 : decode cJ9_max_7cf53 9 = .ok (.iload_n 1, 1) := by decide +kernel
theorem dJ9_max_7cf53_10 : decode cJ9_max_7cf53 10 = .ok (.ireturn, 1) := by decide +kernel
theorem dJ9_min_7cf53_0 : decode cJ9_min_7cf53 0 = .ok (.iload_n 0, 1) := by decide +kernel
theorem dJ9_min_7cf53_1 : decode cJ9_min_7cf53 1 = .ok (.iload_n 1, 1) := by decide +kernel
theorem dJ9_min_7cf53_2 : decode cJ9_min_7cf53 2 = .ok (.if_icmp .gt 7, 3) := by decide +kernel
theorem dJ9_min_7cf53_5 : decode cJ9_min_7cf53 5 = .ok (.iload_n 0, 1) := by decide +kernel
theorem dJ9_min_7cf53_6 : decode cJ9_min_7cf53 6 = .ok (.goto 4, 3) := by decide +kernel
theorem dJ9_min_7cf53_9 : decode cJ9_min_7cf53 9 = .ok (.iload_n 1, 1) := by decide +kernel
theorem dJ9_min_7cf53_10 : decode cJ9_min_7cf53 10 = .ok (.ireturn, 1) := by decide +kernel
theorem dJ9_min_f86c9_0 : decode cJ9_min_f86c9 0 = .ok (.lload_n 0, 1) := by decide +kernel
theorem dJ9_min_f86c9_1 : decode cJ9_min_f86c9 1 = .ok (.lload_n 2, 1) := by decide +kernel
theorem dJ9_min_f86c9_2 : decode cJ9_min_f86c9 2 = .ok (.lcmp, 1) := by decide +kernel
theorem dJ9_min_f86c9_3 : decode cJ9_min_f86c9 3 = .ok (.ifCond .gt 7, 3) := by decide +kernel
theorem dJ9_min_f86c9_6 : decode cJ9_min_f86c9 6 = .ok (.lload_n 0, 1) := by decide +kernel
theorem dJ9_min_f86c9_7 : decode cJ9_min_f86c9 7 = .ok (.goto 4, 3) := by decide +kernel
theorem dJ9_min_f86c9_10 : decode cJ9_min_f86c9 10 = .ok (.lload_n 2, 1) := by decide +kernel
theorem dJ9_min_f86c9_11 : decode cJ9_min_f86c9 11 = .ok (.lreturn, 1) := by decide +kernel
theorem dJ7_fill_53178_0 : decode cJ7_fill_53178 0 = .ok (.iconst 0, 1) := by decide +kernel
theorem dJ7_fill_53178_1 : decode cJ7_fill_53178 1 = .ok (.istore_n 2, 1) := by decide +kernel
theorem dJ7_fill_53178_2 : decode cJ7_fill_53178 2 = .ok (.aload_n 0, 1) := by decide +kernel
theorem dJ7_fill_53178_3 : decode cJ7_fill_53178 3 = .ok (.arraylength, 1) := by decide +kernel
theorem dJ7_fill_53178_4 : decode cJ7_fill_53178 4 = .ok (.istore_n 3, 1) := by decide +kernel
theorem dJ7_fill_53178_5 : decode cJ7_fill_53178 5 = .ok (.iload_n 2, 1) := by decide +kernel
theorem dJ7_fill_53178_6 : decode cJ7_fill_53178 6 = .ok (.iload_n 3, 1) := by decide +kernel
theorem dJ7_fill_53178_7 : decode cJ7_fill_53178 7 = .ok (.if_icmp .ge 13, 3) := by decide +kernel
theorem dJ7_fill_53178_10 : decode cJ7_fill_53178 10 = .ok (.aload_n 0, 1) := by decide +kernel
theorem dJ7_fill_53178_11 : decode cJ7_fill_53178 11 = .ok (.iload_n 2, 1) := by decide +kernel
theorem dJ7_fill_53178_12 : decode cJ7_fill_53178 12 = .ok (.iload_n 1, 1) := by decide +kernel
theorem dJ7_fill_53178_13 : decode cJ7_fill_53178 13 = .ok (.iastore, 1) := by decide +kernel
theorem dJ7_fill_53178_14 : decode cJ7_fill_53178 14 = .ok (.iinc 2 1, 3) := by decide +kernel
theorem dJ7_fill_53178_17 : decode cJ7_fill_53178 17 = .ok (.goto (-12), 3) := by decide +kernel
theorem dJ7_fill_53178_20 : decode cJ7_fill_53178 20 = .ok (.return_, 1) := by decide +kernel
theorem dL_picture_0 : decode cL_picture 0 = .ok (.aload_n 0, 1) := by decide +kernel
theorem dL_picture_1 : decode cL_picture 1 = .ok (.iload_n 1, 1) := by decide +kernel
theorem dL_picture_2 : decode cL_picture 2 = .ok (.iload_n 2, 1) := by decide +kernel
theorem dL_picture_3 : decode cL_picture 3 = .ok (.invokevirtual 7, 3) := by decide +kernel
theorem dL_picture_6 : decode cL_picture 6 = .ok (.goto 6, 3) := by decide +kernel
theorem dL_picture_9 : decode cL_picture 9 = .ok (.astore_n 3, 1) := by decide +kernel
theorem dL_picture_10 : decode cL_picture 10 = .ok (.iconst 1, 1) := by decide +kernel
theorem dL_picture_11 : decode cL_picture 11 = .ok (.ireturn, 1) := by decide +kernel
theorem dL_picture_12 : decode cL_picture 12 = .ok (.iconst 0, 1) := by decide +kernel
theorem dL_picture_13 : decode cL_picture 13 = .ok (.ireturn, 1) := by decide +kernel
theorem dL_paint_0 : decode cL_paint 0 = .ok (.aload_n 0, 1) := by decide +kernel
theorem dL_paint_1 : decode cL_paint 1 = .ok (.iload_n 1, 1) := by decide +kernel
theorem dL_paint_2 : decode cL_paint 2 = .ok (.iload_n 2, 1) := by decide +kernel
theorem dL_paint_3 : decode cL_paint 3 = .ok (.iload_n 3, 1) := by decide +kernel
theorem dL_paint_4 : decode cL_paint 4 = .ok (.invokevirtual 15, 3) := by decide +kernel
theorem dL_paint_7 : decode cL_paint 7 = .ok (.goto 7, 3) := by decide +kernel
theorem dL_paint_10 : decode cL_paint 10 = .ok (.astore 4, 2) := by decide +kernel
theorem dL_paint_12 : decode cL_paint 12 = .ok (.iconst 1, 1) := by decide +kernel
theorem dL_paint_13 : decode cL_paint 13 = .ok (.ireturn, 1) := by decide +kernel
theorem dL_paint_14 : decode cL_paint 14 = .ok (.iconst 0, 1) := by decide +kernel
theorem dL_paint_15 : decode cL_paint 15 = .ok (.ireturn, 1) := by decide +kernel
theorem dL_encode_0 : decode cL_encode 0 = .ok (.aload_n 3, 1) := by decide +kernel
theorem dL_encode_1 : decode cL_encode 1 = .ok (.iconst 0, 1) := by decide +kernel
theorem dL_encode_2 : decode cL_encode 2 = .ok (.aload_n 0, 1) := by decide +kernel
theorem dL_encode_3 : decode cL_encode 3 = .ok (.iload_n 1, 1) := by decide +kernel
theorem dL_encode_4 : decode cL_encode 4 = .ok (.iload_n 2, 1) := by decide +kernel
theorem dL_encode_5 : decode cL_encode 5 = .ok (.invokevirtual 19, 3) := by decide +kernel
theorem dL_encode_8 : decode cL_encode 8 = .ok (.i2l, 1) := by decide +kernel
theorem dL_encode_9 : decode cL_encode 9 = .ok (.lastore, 1) := by decide +kernel
theorem dL_encode_10 : decode cL_encode 10 = .ok (.goto 7, 3) := by decide +kernel
theorem dL_encode_13 : decode cL_encode 13 = .ok (.astore 4, 2) := by decide +kernel
theorem dL_encode_15 : decode cL_encode 15 = .ok (.iconst 1, 1) := by decide +kernel
theorem dL_encode_16 : decode cL_encode 16 = .ok (.ireturn, 1) := by decide +kernel
theorem dL_encode_17 : decode cL_encode 17 = .ok (.iconst 0, 1) := by decide +kernel
theorem dL_encode_18 : decode cL_encode 18 = .ok (.ireturn, 1) := by decide +kernel
theorem dL_decode_0 : decode cL_decode 0 = .ok (.aload_n 2, 1) := by decide +kernel
theorem dL_decode_1 : decode cL_decode 1 = .ok (.iconst 0, 1) := by decide +kernel
theorem dL_decode_2 : decode cL_decode 2 = .ok (.aload_n 0, 1) := by decide +kernel
theorem dL_decode_3 : decode cL_decode 3 = .ok (.iload_n 1, 1) := by decide +kernel
theorem dL_decode_4 : decode cL_decode 4 = .ok (.invokevirtual 23, 3) := by decide +kernel
theorem dL_decode_7 : decode cL_decode 7 = .ok (.i2l, 1) := by decide +kernel
theorem dL_decode_8 : decode cL_decode 8 = .ok (.lastore, 1) := by decide +kernel
theorem dL_decode_9 : decode cL_decode 9 = .ok (.goto 6, 3) := by decide +kernel
theorem dL_decode_12 : decode cL_decode 12 = .ok (.astore_n 3, 1) := by decide +kernel
theorem dL_decode_13 : decode cL_decode 13 = .ok (.iconst 1, 1) := by decide +kernel
theorem dL_decode_14 : decode cL_decode 14 = .ok (.ireturn, 1) := by decide +kernel
theorem dL_decode_15 : decode cL_decode 15 = .ok (.iconst 0, 1) := by decide +kernel
theorem dL_decode_16 : decode cL_decode 16 = .ok (.ireturn, 1) := by decide +kernel
theorem dL_law_0 : decode cL_law 0 = .ok (.new 8, 3) := by decide +kernel
theorem dL_law_3 : decode cL_law 3 = .ok (.dup, 1) := by decide +kernel
theorem dL_law_4 : decode cL_law 4 = .ok (.invokespecial 27, 3) := by decide +kernel
theorem dL_law_7 : decode cL_law 7 = .ok (.astore_n 1, 1) := by decide +kernel
theorem dL_law_8 : decode cL_law 8 = .ok (.new 28, 3) := by decide +kernel
theorem dL_law_11 : decode cL_law 11 = .ok (.dup, 1) := by decide +kernel
theorem dL_law_12 : decode cL_law 12 = .ok (.invokespecial 30, 3) := by decide +kernel
theorem dL_law_15 : decode cL_law 15 = .ok (.astore_n 2, 1) := by decide +kernel
theorem dL_law_16 : decode cL_law 16 = .ok (.iconst 1, 1) := by decide +kernel
theorem dL_law_17 : decode cL_law 17 = .ok (.newarray .long, 2) := by decide +kernel
theorem dL_law_19 : decode cL_law 19 = .ok (.astore_n 3, 1) := by decide +kernel
theorem dL_law_20 : decode cL_law 20 = .ok (.iconst 0, 1) := by decide +kernel
theorem dL_law_21 : decode cL_law 21 = .ok (.istore 4, 2) := by decide +kernel
theorem dL_law_23 : decode cL_law 23 = .ok (.iload 4, 2) := by decide +kernel
theorem dL_law_25 : decode cL_law 25 = .ok (.aload_n 0, 1) := by decide +kernel
theorem dL_law_26 : decode cL_law 26 = .ok (.arraylength, 1) := by decide +kernel
theorem dL_law_27 : decode cL_law 27 = .ok (.iconst 4, 1) := by decide +kernel
theorem dL_law_28 : decode cL_law 28 = .ok (.isub, 1) := by decide +kernel
theorem dL_law_29 : decode cL_law 29 = .ok (.if_icmp .gt 573, 3) := by decide +kernel
theorem dL_law_32 : decode cL_law 32 = .ok (.aload_n 0, 1) := by decide +kernel
theorem dL_law_33 : decode cL_law 33 = .ok (.iload 4, 2) := by decide +kernel
theorem dL_law_35 : decode cL_law 35 = .ok (.iaload, 1) := by decide +kernel
theorem dL_law_36 : decode cL_law 36 = .ok (.bipush 15, 2) := by decide +kernel
theorem dL_law_38 : decode cL_law 38 = .ok (.iand, 1) := by decide +kernel
theorem dL_law_39 : decode cL_law 39 = .ok (.tableswitch 557 0 13 #[69, 106, 155, 192, 232, 257, 294, 331, 380, 417, 454, 482, 519, 544], 69) := by decide +kernel
theorem dL_law_108 : decode cL_law 108 = .ok (.aload_n 1, 1) := by decide +kernel
theorem dL_law_109 : decode cL_law 109 = .ok (.aload_n 0, 1) := by decide +kernel
theorem dL_law_110 : decode cL_law 110 = .ok (.iload 4, 2) := by decide +kernel
theorem dL_law_112 : decode cL_law 112 = .ok (.iconst 1, 1) := by decide +kernel
theorem dL_law_113 : decode cL_law 113 = .ok (.iadd, 1) := by decide +kernel
theorem dL_law_114 : decode cL_law 114 = .ok (.iaload, 1) := by decide +kernel
theorem dL_law_115 : decode cL_law 115 = .ok (.aload_n 0, 1) := by decide +kernel
theorem dL_law_116 : decode cL_law 116 = .ok (.iload 4, 2) := by decide +kernel
theorem dL_law_118 : decode cL_law 118 = .ok (.iconst 2, 1) := by decide +kernel
theorem dL_law_119 : decode cL_law 119 = .ok (.iadd, 1) := by decide +kernel
theorem dL_law_120 : decode cL_law 120 = .ok (.iaload, 1) := by decide +kernel
theorem dL_law_121 : decode cL_law 121 = .ok (.invokestatic 31, 3) := by decide +kernel
theorem dL_law_124 : decode cL_law 124 = .ok (.istore 5, 2) := by decide +kernel
theorem dL_law_126 : decode cL_law 126 = .ok (.aload_n 2, 1) := by decide +kernel
theorem dL_law_127 : decode cL_law 127 = .ok (.aload_n 0, 1) := by decide +kernel
theorem dL_law_128 : decode cL_law 128 = .ok (.iload 4, 2) := by decide +kernel
theorem dL_law_130 : decode cL_law 130 = .ok (.iconst 1, 1) := by decide +kernel
theorem dL_law_131 : decode cL_law 131 = .ok (.iadd, 1) := by decide +kernel
theorem dL_law_132 : decode cL_law 132 = .ok (.iaload, 1) := by decide +kernel
theorem dL_law_133 : decode cL_law 133 = .ok (.aload_n 0, 1) := by decide +kernel
theorem dL_law_134 : decode cL_law 134 = .ok (.iload 4, 2) := by decide +kernel
theorem dL_law_136 : decode cL_law 136 = .ok (.iconst 2, 1) := by decide +kernel
theorem dL_law_137 : decode cL_law 137 = .ok (.iadd, 1) := by decide +kernel
theorem dL_law_138 : decode cL_law 138 = .ok (.iaload, 1) := by decide +kernel
theorem dL_law_139 : decode cL_law 139 = .ok (.invokevirtual 36, 3) := by decide +kernel
theorem dL_law_142 : decode cL_law 142 = .ok (.goto 454, 3) := by decide +kernel
theorem dL_law_145 : decode cL_law 145 = .ok (.aload_n 1, 1) := by decide +kernel
theorem dL_law_146 : decode cL_law 146 = .ok (.aload_n 0, 1) := by decide +kernel
theorem dL_law_147 : decode cL_law 147 = .ok (.iload 4, 2) := by decide +kernel
theorem dL_law_149 : decode cL_law 149 = .ok (.iconst 1, 1) := by decide +kernel
theorem dL_law_150 : decode cL_law 150 = .ok (.iadd, 1) := by decide +kernel
theorem dL_law_151 : decode cL_law 151 = .ok (.iaload, 1) := by decide +kernel
theorem dL_law_152 : decode cL_law 152 = .ok (.aload_n 0, 1) := by decide +kernel
theorem dL_law_153 : decode cL_law 153 = .ok (.iload 4, 2) := by decide +kernel
theorem dL_law_155 : decode cL_law 155 = .ok (.iconst 2, 1) := by decide +kernel
theorem dL_law_156 : decode cL_law 156 = .ok (.iadd, 1) := by decide +kernel
theorem dL_law_157 : decode cL_law 157 = .ok (.iaload, 1) := by decide +kernel
theorem dL_law_158 : decode cL_law 158 = .ok (.aload_n 0, 1) := by decide +kernel
theorem dL_law_159 : decode cL_law 159 = .ok (.iload 4, 2) := by decide +kernel
theorem dL_law_161 : decode cL_law 161 = .ok (.iconst 3, 1) := by decide +kernel
theorem dL_law_162 : decode cL_law 162 = .ok (.iadd, 1) := by decide +kernel
theorem dL_law_163 : decode cL_law 163 = .ok (.iaload, 1) := by decide +kernel
theorem dL_law_164 : decode cL_law 164 = .ok (.invokestatic 37, 3) := by decide +kernel
theorem dL_law_167 : decode cL_law 167 = .ok (.istore 5, 2) := by decide +kernel
theorem dL_law_169 : decode cL_law 169 = .ok (.aload_n 2, 1) := by decide +kernel
theorem dL_law_170 : decode cL_law 170 = .ok (.aload_n 0, 1) := by decide +kernel
theorem dL_law_171 : decode cL_law 171 = .ok (.iload 4, 2) := by decide +kernel
theorem dL_law_173 : decode cL_law 173 = .ok (.iconst 1, 1) := by decide +kernel
theorem dL_law_174 : decode cL_law 174 = .ok (.iadd, 1) := by decide +kernel
theorem dL_law_175 : decode cL_law 175 = .ok (.iaload, 1) := by decide +kernel
theorem dL_law_176 : decode cL_law 176 = .ok (.aload_n 0, 1) := by decide +kernel
theorem dL_law_177 : decode cL_law 177 = .ok (.iload 4, 2) := by decide +kernel
theorem dL_law_179 : decode cL_law 179 = .ok (.iconst 2, 1) := by decide +kernel
theorem dL_law_180 : decode cL_law 180 = .ok (.iadd, 1) := by decide +kernel
theorem dL_law_181 : decode cL_law 181 = .ok (.iaload, 1) := by decide +kernel
theorem dL_law_182 : decode cL_law 182 = .ok (.aload_n 0, 1) := by decide +kernel
theorem dL_law_183 : decode cL_law 183 = .ok (.iload 4, 2) := by decide +kernel
theorem dL_law_185 : decode cL_law 185 = .ok (.iconst 3, 1) := by decide +kernel
theorem dL_law_186 : decode cL_law 186 = .ok (.iadd, 1) := by decide +kernel
theorem dL_law_187 : decode cL_law 187 = .ok (.iaload, 1) := by decide +kernel
theorem dL_law_188 : decode cL_law 188 = .ok (.invokevirtual 40, 3) := by decide +kernel
theorem dL_law_191 : decode cL_law 191 = .ok (.goto 405, 3) := by decide +kernel
theorem dL_law_194 : decode cL_law 194 = .ok (.aload_n 1, 1) := by decide +kernel
theorem dL_law_195 : decode cL_law 195 = .ok (.aload_n 0, 1) := by decide +kernel
theorem dL_law_196 : decode cL_law 196 = .ok (.iload 4, 2) := by decide +kernel
theorem dL_law_198 : decode cL_law 198 = .ok (.iconst 1, 1) := by decide +kernel
theorem dL_law_199 : decode cL_law 199 = .ok (.iadd, 1) := by decide +kernel
theorem dL_law_200 : decode cL_law 200 = .ok (.iaload, 1) := by decide +kernel
theorem dL_law_201 : decode cL_law 201 = .ok (.aload_n 0, 1) := by decide +kernel
theorem dL_law_202 : decode cL_law 202 = .ok (.iload 4, 2) := by decide +kernel
theorem dL_law_204 : decode cL_law 204 = .ok (.iconst 2, 1) := by decide +kernel
theorem dL_law_205 : decode cL_law 205 = .ok (.iadd, 1) := by decide +kernel
theorem dL_law_206 : decode cL_law 206 = .ok (.iaload, 1) := by decide +kernel
theorem dL_law_207 : decode cL_law 207 = .ok (.invokevirtual 41, 3) := by decide +kernel
theorem dL_law_210 : decode cL_law 210 = .ok (.pop, 1) := by decide +kernel
theorem dL_law_211 : decode cL_law 211 = .ok (.aload_n 2, 1) := by decide +kernel
theorem dL_law_212 : decode cL_law 212 = .ok (.aload_n 0, 1) := by decide +kernel
theorem dL_law_213 : decode cL_law 213 = .ok (.iload 4, 2) := by decide +kernel
theorem dL_law_215 : decode cL_law 215 = .ok (.iconst 1, 1) := by decide +kernel
theorem dL_law_216 : decode cL_law 216 = .ok (.iadd, 1) := by decide +kernel
theorem dL_law_217 : decode cL_law 217 = .ok (.iaload, 1) := by decide +kernel
theorem dL_law_218 : decode cL_law 218 = .ok (.aload_n 0, 1) := by decide +kernel
theorem dL_law_219 : decode cL_law 219 = .ok (.iload 4, 2) := by decide +kernel
theorem dL_law_221 : decode cL_law 221 = .ok (.iconst 2, 1) := by decide +kernel
theorem dL_law_222 : decode cL_law 222 = .ok (.iadd, 1) := by decide +kernel
theorem dL_law_223 : decode cL_law 223 = .ok (.iaload, 1) := by decide +kernel
theorem dL_law_224 : decode cL_law 224 = .ok (.invokevirtual 44, 3) := by decide +kernel
theorem dL_law_227 : decode cL_law 227 = .ok (.pop, 1) := by decide +kernel
theorem dL_law_228 : decode cL_law 228 = .ok (.goto 368, 3) := by decide +kernel
theorem dL_law_231 : decode cL_law 231 = .ok (.aload_n 1, 1) := by decide +kernel
theorem dL_law_232 : decode cL_law 232 = .ok (.aload_n 0, 1) := by decide +kernel
theorem dL_law_233 : decode cL_law 233 = .ok (.iload 4, 2) := by decide +kernel
theorem dL_law_235 : decode cL_law 235 = .ok (.iconst 1, 1) := by decide +kernel
theorem dL_law_236 : decode cL_law 236 = .ok (.iadd, 1) := by decide +kernel
theorem dL_law_237 : decode cL_law 237 = .ok (.iaload, 1) := by decide +kernel
theorem dL_law_238 : decode cL_law 238 = .ok (.aload_n 0, 1) := by decide +kernel
theorem dL_law_239 : decode cL_law 239 = .ok (.iload 4, 2) := by decide +kernel
theorem dL_law_241 : decode cL_law 241 = .ok (.iconst 2, 1) := by decide +kernel
theorem dL_law_242 : decode cL_law 242 = .ok (.iadd, 1) := by decide +kernel
theorem dL_law_243 : decode cL_law 243 = .ok (.iaload, 1) := by decide +kernel
theorem dL_law_244 : decode cL_law 244 = .ok (.aload_n 3, 1) := by decide +kernel
theorem dL_law_245 : decode cL_law 245 = .ok (.invokestatic 45, 3) := by decide +kernel
theorem dL_law_248 : decode cL_law 248 = .ok (.istore 5, 2) := by decide +kernel
theorem dL_law_250 : decode cL_law 250 = .ok (.aload_n 2, 1) := by decide +kernel
theorem dL_law_251 : decode cL_law 251 = .ok (.aload_n 0, 1) := by decide +kernel
theorem dL_law_252 : decode cL_law 252 = .ok (.iload 4, 2) := by decide +kernel
theorem dL_law_254 : decode cL_law 254 = .ok (.iconst 1, 1) := by decide +kernel
theorem dL_law_255 : decode cL_law 255 = .ok (.iadd, 1) := by decide +kernel
theorem dL_law_256 : decode cL_law 256 = .ok (.iaload, 1) := by decide +kernel
theorem dL_law_257 : decode cL_law 257 = .ok (.aload_n 0, 1) := by decide +kernel
theorem dL_law_258 : decode cL_law 258 = .ok (.iload 4, 2) := by decide +kernel
theorem dL_law_260 : decode cL_law 260 = .ok (.iconst 2, 1) := by decide +kernel
theorem dL_law_261 : decode cL_law 261 = .ok (.iadd, 1) := by decide +kernel
theorem dL_law_262 : decode cL_law 262 = .ok (.iaload, 1) := by decide +kernel
theorem dL_law_263 : decode cL_law 263 = .ok (.invokevirtual 48, 3) := by decide +kernel
theorem dL_law_266 : decode cL_law 266 = .ok (.istore 6, 2) := by decide +kernel
theorem dL_law_268 : decode cL_law 268 = .ok (.goto 328, 3) := by decide +kernel
theorem dL_law_271 : decode cL_law 271 = .ok (.aload_n 1, 1) := by decide +kernel
theorem dL_law_272 : decode cL_law 272 = .ok (.aload_n 0, 1) := by decide +kernel
theorem dL_law_273 : decode cL_law 273 = .ok (.iload 4, 2) := by decide +kernel
theorem dL_law_275 : decode cL_law 275 = .ok (.iconst 1, 1) := by decide +kernel
theorem dL_law_276 : decode cL_law 276 = .ok (.iadd, 1) := by decide +kernel
theorem dL_law_277 : decode cL_law 277 = .ok (.iaload, 1) := by decide +kernel
theorem dL_law_278 : decode cL_law 278 = .ok (.invokevirtual 49, 3) := by decide +kernel
theorem dL_law_281 : decode cL_law 281 = .ok (.pop, 1) := by decide +kernel
theorem dL_law_282 : decode cL_law 282 = .ok (.aload_n 2, 1) := by decide +kernel
theorem dL_law_283 : decode cL_law 283 = .ok (.aload_n 0, 1) := by decide +kernel
theorem dL_law_284 : decode cL_law 284 = .ok (.iload 4, 2) := by decide +kernel
theorem dL_law_286 : decode cL_law 286 = .ok (.iconst 1, 1) := by decide +kernel
theorem dL_law_287 : decode cL_law 287 = .ok (.iadd, 1) := by decide +kernel
theorem dL_law_288 : decode cL_law 288 = .ok (.iaload, 1) := by decide +kernel
theorem dL_law_289 : decode cL_law 289 = .ok (.invokevirtual 52, 3) := by decide +kernel
theorem dL_law_292 : decode cL_law 292 = .ok (.pop, 1) := by decide +kernel
theorem dL_law_293 : decode cL_law 293 = .ok (.goto 303, 3) := by decide +kernel
theorem dL_law_296 : decode cL_law 296 = .ok (.aload_n 1, 1) := by decide +kernel
theorem dL_law_297 : decode cL_law 297 = .ok (.aload_n 0, 1) := by decide +kernel
theorem dL_law_298 : decode cL_law 298 = .ok (.iload 4, 2) := by decide +kernel
theorem dL_law_300 : decode cL_law 300 = .ok (.iconst 1, 1) := by decide +kernel
theorem dL_law_301 : decode cL_law 301 = .ok (.iadd, 1) := by decide +kernel
theorem dL_law_302 : decode cL_law 302 = .ok (.iaload, 1) := by decide +kernel
theorem dL_law_303 : decode cL_law 303 = .ok (.aload_n 0, 1) := by decide +kernel
theorem dL_law_304 : decode cL_law 304 = .ok (.iload 4, 2) := by decide +kernel
theorem dL_law_306 : decode cL_law 306 = .ok (.iconst 2, 1) := by decide +kernel
theorem dL_law_307 : decode cL_law 307 = .ok (.iadd, 1) := by decide +kernel
theorem dL_law_308 : decode cL_law 308 = .ok (.iaload, 1) := by decide +kernel
theorem dL_law_309 : decode cL_law 309 = .ok (.invokevirtual 53, 3) := by decide +kernel
theorem dL_law_312 : decode cL_law 312 = .ok (.pop, 1) := by decide +kernel
theorem dL_law_313 : decode cL_law 313 = .ok (.aload_n 2, 1) := by decide +kernel
theorem dL_law_314 : decode cL_law 314 = .ok (.aload_n 0, 1) := by decide +kernel
theorem dL_law_315 : decode cL_law 315 = .ok (.iload 4, 2) := by decide +kernel
theorem dL_law_317 : decode cL_law 317 = .ok (.iconst 1, 1) := by decide +kernel
theorem dL_law_318 : decode cL_law 318 = .ok (.iadd, 1) := by decide +kernel
theorem dL_law_319 : decode cL_law 319 = .ok (.iaload, 1) := by decide +kernel
theorem dL_law_320 : decode cL_law 320 = .ok (.aload_n 0, 1) := by decide +kernel
theorem dL_law_321 : decode cL_law 321 = .ok (.iload 4, 2) := by decide +kernel
theorem dL_law_323 : decode cL_law 323 = .ok (.iconst 2, 1) := by decide +kernel
theorem dL_law_324 : decode cL_law 324 = .ok (.iadd, 1) := by decide +kernel
theorem dL_law_325 : decode cL_law 325 = .ok (.iaload, 1) := by decide +kernel
theorem dL_law_326 : decode cL_law 326 = .ok (.invokevirtual 57, 3) := by decide +kernel
theorem dL_law_329 : decode cL_law 329 = .ok (.pop, 1) := by decide +kernel
theorem dL_law_330 : decode cL_law 330 = .ok (.goto 266, 3) := by decide +kernel
theorem dL_law_333 : decode cL_law 333 = .ok (.aload_n 1, 1) := by decide +kernel
theorem dL_law_334 : decode cL_law 334 = .ok (.aload_n 0, 1) := by decide +kernel

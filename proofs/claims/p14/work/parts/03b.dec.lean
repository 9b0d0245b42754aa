theorem dX3_writePacket_23 : decode cX3_writePacket 23 = .ok (.aload_n 0, 1) := by decide +kernel
theorem dX3_writePacket_24 : decode cX3_writePacket 24 = .ok (.iload 6, 2) := by decide +kernel
theorem dX3_writePacket_26 : decode cX3_writePacket 26 = .ok (.iload_n 2, 1) := by decide +kernel
theorem dX3_writePacket_27 : decode cX3_writePacket 27 = .ok (.iload_n 3, 1) := by decide +kernel
theorem dX3_writePacket_28 : decode cX3_writePacket 28 = .ok (.invokevirtual 204, 3) := by decide +kernel
theorem dX3_writePacket_31 : decode cX3_writePacket 31 = .ok (.aload_n 0, 1) := by decide +kernel
theorem dX3_writePacket_32 : decode cX3_writePacket 32 = .ok (.getfield 31, 3) := by decide +kernel
theorem dX3_writePacket_35 : decode cX3_writePacket 35 = .ok (.iload 6, 2) := by decide +kernel
theorem dX3_writePacket_37 : decode cX3_writePacket 37 = .ok (.iaload, 1) := by decide +kernel
theorem dX3_writePacket_38 : decode cX3_writePacket 38 = .ok (.if_icmp .le 7, 3) := by decide +kernel
theorem dX3_writePacket_41 : decode cX3_writePacket 41 = .ok (.iconst 1, 1) := by decide +kernel
theorem dX3_writePacket_42 : decode cX3_writePacket 42 = .ok (.goto 4, 3) := by decide +kernel
theorem dX3_writePacket_45 : decode cX3_writePacket 45 = .ok (.iconst 0, 1) := by decide +kernel
theorem dX3_writePacket_46 : decode cX3_writePacket 46 = .ok (.istore 5, 2) := by decide +kernel
theorem dX3_writePacket_48 : decode cX3_writePacket 48 = .ok (.iinc 6 1, 3) := by decide +kernel
theorem dX3_writePacket_51 : decode cX3_writePacket 51 = .ok (.goto (-42), 3) := by decide +kernel
theorem dX3_writePacket_54 : decode cX3_writePacket 54 = .ok (.aload 4, 2) := by decide +kernel
theorem dX3_writePacket_56 : decode cX3_writePacket 56 = .ok (.iload 5, 2) := by decide +kernel
theorem dX3_writePacket_58 : decode cX3_writePacket 58 = .ok (.ifCond .eq 7, 3) := by decide +kernel
theorem dX3_writePacket_61 : decode cX3_writePacket 61 = .ok (.iconst 1, 1) := by decide +kernel
theorem dX3_writePacket_62 : decode cX3_writePacket 62 = .ok (.goto 4, 3) := by decide +kernel
theorem dX3_writePacket_65 : decode cX3_writePacket 65 = .ok (.iconst 0, 1) := by decide +kernel
theorem dX3_writePacket_66 : decode cX3_writePacket 66 = .ok (.iconst 1, 1) := by decide +kernel
theorem dX3_writePacket_67 : decode cX3_writePacket 67 = .ok (.invokevirtual 207, 3) := by decide +kernel
theorem dX3_writePacket_70 : decode cX3_writePacket 70 = .ok (.iload 5, 2) := by decide +kernel
theorem dX3_writePacket_72 : decode cX3_writePacket 72 = .ok (.ifCond .ne 9, 3) := by decide +kernel
theorem dX3_writePacket_75 : decode cX3_writePacket 75 = .ok (.aload 4, 2) := by decide +kernel
theorem dX3_writePacket_77 : decode cX3_writePacket 77 = .ok (.invokevirtual 210, 3) := by decide +kernel
theorem dX3_writePacket_80 : decode cX3_writePacket 80 = .ok (.return_, 1) := by decide +kernel
theorem dX3_writePacket_81 : decode cX3_writePacket 81 = .ok (.iload_n 1, 1) := by decide +kernel
theorem dX3_writePacket_82 : decode cX3_writePacket 82 = .ok (.invokestatic 198, 3) := by decide +kernel
theorem dX3_writePacket_85 : decode cX3_writePacket 85 = .ok (.istore 6, 2) := by decide +kernel
theorem dX3_writePacket_87 : decode cX3_writePacket 87 = .ok (.iload 6, 2) := by decide +kernel
theorem dX3_writePacket_89 : decode cX3_writePacket 89 = .ok (.iload_n 1, 1) := by decide +kernel
theorem dX3_writePacket_90 : decode cX3_writePacket 90 = .ok (.invokestatic 201, 3) := by decide +kernel
theorem dX3_writePacket_93 : decode cX3_writePacket 93 = .ok (.if_icmp .gt 37, 3) := by decide +kernel
theorem dX3_writePacket_96 : decode cX3_writePacket 96 = .ok (.aload_n 0, 1) := by decide +kernel
theorem dX3_writePacket_97 : decode cX3_writePacket 97 = .ok (.getfield 12, 3) := by decide +kernel
theorem dX3_writePacket_100 : decode cX3_writePacket 100 = .ok (.iload 6, 2) := by decide +kernel
theorem dX3_writePacket_102 : decode cX3_writePacket 102 = .ok (.invokevirtual 213, 3) := by decide +kernel
theorem dX3_writePacket_105 : decode cX3_writePacket 105 = .ok (.ifCond .ne 19, 3) := by decide +kernel
theorem dX3_writePacket_108 : decode cX3_writePacket 108 = .ok (.aload_n 0, 1) := by decide +kernel
theorem dX3_writePacket_109 : decode cX3_writePacket 109 = .ok (.iload 6, 2) := by decide +kernel
theorem dX3_writePacket_111 : decode cX3_writePacket 111 = .ok (.aload_n 0, 1) := by decide +kernel
theorem dX3_writePacket_112 : decode cX3_writePacket 112 = .ok (.iload 6, 2) := by decide +kernel
theorem dX3_writePacket_114 : decode cX3_writePacket 114 = .ok (.iload_n 2, 1) := by decide +kernel
theorem dX3_writePacket_115 : decode cX3_writePacket 115 = .ok (.iload_n 3, 1) := by decide +kernel
theorem dX3_writePacket_116 : decode cX3_writePacket 116 = .ok (.invokevirtual 204, 3) := by decide +kernel
theorem dX3_writePacket_119 : decode cX3_writePacket 119 = .ok (.aload 4, 2) := by decide +kernel
theorem dX3_writePacket_121 : decode cX3_writePacket 121 = .ok (.invokevirtual 216, 3) := by decide +kernel
theorem dX3_writePacket_124 : decode cX3_writePacket 124 = .ok (.iinc 6 1, 3) := by decide +kernel
theorem dX3_writePacket_127 : decode cX3_writePacket 127 = .ok (.goto (-40), 3) := by decide +kernel
theorem dX3_writePacket_130 : decode cX3_writePacket 130 = .ok (.aload 4, 2) := by decide +kernel
theorem dX3_writePacket_132 : decode cX3_writePacket 132 = .ok (.invokevirtual 210, 3) := by decide +kernel
theorem dX3_writePacket_135 : decode cX3_writePacket 135 = .ok (.iload_n 1, 1) := by decide +kernel
theorem dX3_writePacket_136 : decode cX3_writePacket 136 = .ok (.invokestatic 198, 3) := by decide +kernel
theorem dX3_writePacket_139 : decode cX3_writePacket 139 = .ok (.istore 6, 2) := by decide +kernel
theorem dX3_writePacket_141 : decode cX3_writePacket 141 = .ok (.iload 6, 2) := by decide +kernel
theorem dX3_writePacket_143 : decode cX3_writePacket 143 = .ok (.iload_n 1, 1) := by decide +kernel
theorem dX3_writePacket_144 : decode cX3_writePacket 144 = .ok (.invokestatic 201, 3) := by decide +kernel
theorem dX3_writePacket_147 : decode cX3_writePacket 147 = .ok (.if_icmp .gt 73, 3) := by decide +kernel
theorem dX3_writePacket_150 : decode cX3_writePacket 150 = .ok (.aload_n 0, 1) := by decide +kernel
theorem dX3_writePacket_151 : decode cX3_writePacket 151 = .ok (.iload 6, 2) := by decide +kernel
theorem dX3_writePacket_153 : decode cX3_writePacket 153 = .ok (.iload_n 2, 1) := by decide +kernel
theorem dX3_writePacket_154 : decode cX3_writePacket 154 = .ok (.iload_n 3, 1) := by decide +kernel
theorem dX3_writePacket_155 : decode cX3_writePacket 155 = .ok (.invokevirtual 204, 3) := by decide +kernel
theorem dX3_writePacket_158 : decode cX3_writePacket 158 = .ok (.istore 7, 2) := by decide +kernel
theorem dX3_writePacket_160 : decode cX3_writePacket 160 = .ok (.aload_n 0, 1) := by decide +kernel
theorem dX3_writePacket_161 : decode cX3_writePacket 161 = .ok (.iload 6, 2) := by decide +kernel
theorem dX3_writePacket_163 : decode cX3_writePacket 163 = .ok (.aload_n 0, 1) := by decide +kernel
theorem dX3_writePacket_164 : decode cX3_writePacket 164 = .ok (.getfield 31, 3) := by decide +kernel
theorem dX3_writePacket_167 : decode cX3_writePacket 167 = .ok (.iload 6, 2) := by decide +kernel
theorem dX3_writePacket_169 : decode cX3_writePacket 169 = .ok (.iaload, 1) := by decide +kernel
theorem dX3_writePacket_170 : decode cX3_writePacket 170 = .ok (.invokevirtual 220, 3) := by decide +kernel
theorem dX3_writePacket_173 : decode cX3_writePacket 173 = .ok (.istore 8, 2) := by decide +kernel
theorem dX3_writePacket_175 : decode cX3_writePacket 175 = .ok (.aload 4, 2) := by decide +kernel
theorem dX3_writePacket_177 : decode cX3_writePacket 177 = .ok (.aload_n 0, 1) := by decide +kernel
theorem dX3_writePacket_178 : decode cX3_writePacket 178 = .ok (.getfield 40, 3) := by decide +kernel
theorem dX3_writePacket_181 : decode cX3_writePacket 181 = .ok (.aload_n 0, 1) := by decide +kernel
theorem dX3_writePacket_182 : decode cX3_writePacket 182 = .ok (.getfield 22, 3) := by decide +kernel
theorem dX3_writePacket_185 : decode cX3_writePacket 185 = .ok (.iload 6, 2) := by decide +kernel
theorem dX3_writePacket_187 : decode cX3_writePacket 187 = .ok (.iaload, 1) := by decide +kernel
theorem dX3_writePacket_188 : decode cX3_writePacket 188 = .ok (.iload 8, 2) := by decide +kernel
theorem dX3_writePacket_190 : decode cX3_writePacket 190 = .ok (.iadd, 1) := by decide +kernel
theorem dX3_writePacket_191 : decode cX3_writePacket 191 = .ok (.aload_n 0, 1) := by decide +kernel
theorem dX3_writePacket_192 : decode cX3_writePacket 192 = .ok (.iload 6, 2) := by decide +kernel
theorem dX3_writePacket_194 : decode cX3_writePacket 194 = .ok (.iload 7, 2) := by decide +kernel
theorem dX3_writePacket_196 : decode cX3_writePacket 196 = .ok (.invokevirtual 220, 3) := by decide +kernel
theorem dX3_writePacket_199 : decode cX3_writePacket 199 = .ok (.iload 8, 2) := by decide +kernel
theorem dX3_writePacket_201 : decode cX3_writePacket 201 = .ok (.isub, 1) := by decide +kernel
theorem dX3_writePacket_202 : decode cX3_writePacket 202 = .ok (.invokevirtual 223, 3) := by decide +kernel
theorem dX3_writePacket_205 : decode cX3_writePacket 205 = .ok (.aload_n 0, 1) := by decide +kernel
theorem dX3_writePacket_206 : decode cX3_writePacket 206 = .ok (.getfield 31, 3) := by decide +kernel
theorem dX3_writePacket_209 : decode cX3_writePacket 209 = .ok (.iload 6, 2) := by decide +kernel
theorem dX3_writePacket_211 : decode cX3_writePacket 211 = .ok (.iload 7, 2) := by decide +kernel
theorem dX3_writePacket_213 : decode cX3_writePacket 213 = .ok (.iastore, 1) := by decide +kernel
theorem dX3_writePacket_214 : decode cX3_writePacket 214 = .ok (.iinc 6 1, 3) := by decide +kernel
theorem dX3_writePacket_217 : decode cX3_writePacket 217 = .ok (.goto (-76), 3) := by decide +kernel
theorem dX3_writePacket_220 : decode cX3_writePacket 220 = .ok (.return_, 1) := by decide +kernel
theorem dX3_passesUpTo_0 : decode cX3_passesUpTo 0 = .ok (.iload_n 3, 1) := by decide +kernel
theorem dX3_passesUpTo_1 : decode cX3_passesUpTo 1 = .ok (.ifCond .le 19, 3) := by decide +kernel
theorem dX3_passesUpTo_4 : decode cX3_passesUpTo 4 = .ok (.iload_n 2, 1) := by decide +kernel
theorem dX3_passesUpTo_5 : decode cX3_passesUpTo 5 = .ok (.aload_n 0, 1) := by decide +kernel
theorem dX3_passesUpTo_6 : decode cX3_passesUpTo 6 = .ok (.getfield 18, 3) := by decide +kernel
theorem dX3_passesUpTo_9 : decode cX3_passesUpTo 9 = .ok (.iload_n 1, 1) := by decide +kernel
theorem dX3_passesUpTo_10 : decode cX3_passesUpTo 10 = .ok (.iaload, 1) := by decide +kernel
theorem dX3_passesUpTo_11 : decode cX3_passesUpTo 11 = .ok (.invokestatic 85, 3) := by decide +kernel
theorem dX3_passesUpTo_14 : decode cX3_passesUpTo 14 = .ok (.imul, 1) := by decide +kernel
theorem dX3_passesUpTo_15 : decode cX3_passesUpTo 15 = .ok (.iload_n 3, 1) := by decide +kernel
theorem dX3_passesUpTo_16 : decode cX3_passesUpTo 16 = .ok (.idiv, 1) := by decide +kernel
theorem dX3_passesUpTo_17 : decode cX3_passesUpTo 17 = .ok (.goto 4, 3) := by decide +kernel
theorem dX3_passesUpTo_20 : decode cX3_passesUpTo 20 = .ok (.iconst 0, 1) := by decide +kernel
theorem dX3_passesUpTo_21 : decode cX3_passesUpTo 21 = .ok (.ireturn, 1) := by decide +kernel
theorem dX3_writeBandHead_0 : decode cX3_writeBandHead 0 = .ok (.iload_n 2, 1) := by decide +kernel
theorem dX3_writeBandHead_1 : decode cX3_writeBandHead 1 = .ok (.aload_n 0, 1) := by decide +kernel
theorem dX3_writeBandHead_2 : decode cX3_writeBandHead 2 = .ok (.getfield 31, 3) := by decide +kernel
theorem dX3_writeBandHead_5 : decode cX3_writeBandHead 5 = .ok (.iload_n 1, 1) := by decide +kernel
theorem dX3_writeBandHead_6 : decode cX3_writeBandHead 6 = .ok (.iaload, 1) := by decide +kernel
theorem dX3_writeBandHead_7 : decode cX3_writeBandHead 7 = .ok (.isub, 1) := by decide +kernel
theorem dX3_writeBandHead_8 : decode cX3_writeBandHead 8 = .ok (.istore 4, 2) := by decide +kernel
theorem dX3_writeBandHead_10 : decode cX3_writeBandHead 10 = .ok (.aload_n 3, 1) := by decide +kernel
theorem dX3_writeBandHead_11 : decode cX3_writeBandHead 11 = .ok (.iload 4, 2) := by decide +kernel
theorem dX3_writeBandHead_13 : decode cX3_writeBandHead 13 = .ok (.ifCond .le 7, 3) := by decide +kernel
theorem dX3_writeBandHead_16 : decode cX3_writeBandHead 16 = .ok (.iconst 1, 1) := by decide +kernel
theorem dX3_writeBandHead_17 : decode cX3_writeBandHead 17 = .ok (.goto 4, 3) := by decide +kernel
theorem dX3_writeBandHead_20 : decode cX3_writeBandHead 20 = .ok (.iconst 0, 1) := by decide +kernel
theorem dX3_writeBandHead_21 : decode cX3_writeBandHead 21 = .ok (.iconst 1, 1) := by decide +kernel
theorem dX3_writeBandHead_22 : decode cX3_writeBandHead 22 = .ok (.invokevirtual 207, 3) := by decide +kernel
theorem dX3_writeBandHead_25 : decode cX3_writeBandHead 25 = .ok (.iload 4, 2) := by decide +kernel
theorem dX3_writeBandHead_27 : decode cX3_writeBandHead 27 = .ok (.ifCond .gt 4, 3) := by decide +kernel
theorem dX3_writeBandHead_30 : decode cX3_writeBandHead 30 = .ok (.return_, 1) := by decide +kernel
theorem dX3_writeBandHead_31 : decode cX3_writeBandHead 31 = .ok (.aload_n 0, 1) := by decide +kernel
theorem dX3_writeBandHead_32 : decode cX3_writeBandHead 32 = .ok (.getfield 31, 3) := by decide +kernel
theorem dX3_writeBandHead_35 : decode cX3_writeBandHead 35 = .ok (.iload_n 1, 1) := by decide +kernel
theorem dX3_writeBandHead_36 : decode cX3_writeBandHead 36 = .ok (.iaload, 1) := by decide +kernel
theorem dX3_writeBandHead_37 : decode cX3_writeBandHead 37 = .ok (.ifCond .ne 14, 3) := by decide +kernel
theorem dX3_writeBandHead_40 : decode cX3_writeBandHead 40 = .ok (.aload_n 3, 1) := by decide +kernel
theorem dX3_writeBandHead_41 : decode cX3_writeBandHead 41 = .ok (.aload_n 0, 1) := by decide +kernel
theorem dX3_writeBandHead_42 : decode cX3_writeBandHead 42 = .ok (.getfield 18, 3) := by decide +kernel
theorem dX3_writeBandHead_45 : decode cX3_writeBandHead 45 = .ok (.iload_n 1, 1) := by decide +kernel
theorem dX3_writeBandHead_46 : decode cX3_writeBandHead 46 = .ok (.iaload, 1) := by decide +kernel
theorem dX3_writeBandHead_47 : decode cX3_writeBandHead 47 = .ok (.iconst 4, 1) := by decide +kernel
theorem dX3_writeBandHead_48 : decode cX3_writeBandHead 48 = .ok (.invokevirtual 207, 3) := by decide +kernel
theorem dX3_writeBandHead_51 : decode cX3_writeBandHead 51 = .ok (.iload 4, 2) := by decide +kernel
theorem dX3_writeBandHead_53 : decode cX3_writeBandHead 53 = .ok (.aload_n 3, 1) := by decide +kernel
theorem dX3_writeBandHead_54 : decode cX3_writeBandHead 54 = .ok (.invokestatic 224, 3) := by decide +kernel
theorem dX3_writeBandHead_57 : decode cX3_writeBandHead 57 = .ok (.aload_n 0, 1) := by decide +kernel
theorem dX3_writeBandHead_58 : decode cX3_writeBandHead 58 = .ok (.iload_n 1, 1) := by decide +kernel
theorem dX3_writeBandHead_59 : decode cX3_writeBandHead 59 = .ok (.iload_n 2, 1) := by decide +kernel
theorem dX3_writeBandHead_60 : decode cX3_writeBandHead 60 = .ok (.invokevirtual 220, 3) := by decide +kernel
theorem dX3_writeBandHead_63 : decode cX3_writeBandHead 63 = .ok (.aload_n 0, 1) := by decide +kernel
theorem dX3_writeBandHead_64 : decode cX3_writeBandHead 64 = .ok (.iload_n 1, 1) := by decide +kernel
theorem dX3_writeBandHead_65 : decode cX3_writeBandHead 65 = .ok (.aload_n 0, 1) := by decide +kernel
theorem dX3_writeBandHead_66 : decode cX3_writeBandHead 66 = .ok (.getfield 31, 3) := by decide +kernel
theorem dX3_writeBandHead_69 : decode cX3_writeBandHead 69 = .ok (.iload_n 1, 1) := by decide +kernel
theorem dX3_writeBandHead_70 : decode cX3_writeBandHead 70 = .ok (.iaload, 1) := by decide +kernel
theorem dX3_writeBandHead_71 : decode cX3_writeBandHead 71 = .ok (.invokevirtual 220, 3) := by decide +kernel
theorem dX3_writeBandHead_74 : decode cX3_writeBandHead 74 = .ok (.isub, 1) := by decide +kernel
theorem dX3_writeBandHead_75 : decode cX3_writeBandHead 75 = .ok (.istore 5, 2) := by decide +kernel
theorem dX3_writeBandHead_77 : decode cX3_writeBandHead 77 = .ok (.iload 4, 2) := by decide +kernel
theorem dX3_writeBandHead_79 : decode cX3_writeBandHead 79 = .ok (.invokestatic 147, 3) := by decide +kernel
theorem dX3_writeBandHead_82 : decode cX3_writeBandHead 82 = .ok (.iconst 1, 1) := by decide +kernel
theorem dX3_writeBandHead_83 : decode cX3_writeBandHead 83 = .ok (.isub, 1) := by decide +kernel
theorem dX3_writeBandHead_84 : decode cX3_writeBandHead 84 = .ok (.istore 6, 2) := by decide +kernel
theorem dX3_writeBandHead_86 : decode cX3_writeBandHead 86 = .ok (.iconst 0, 1) := by decide +kernel
theorem dX3_writeBandHead_87 : decode cX3_writeBandHead 87 = .ok (.iload 5, 2) := by decide +kernel
theorem dX3_writeBandHead_89 : decode cX3_writeBandHead 89 = .ok (.invokestatic 147, 3) := by decide +kernel
theorem dX3_writeBandHead_92 : decode cX3_writeBandHead 92 = .ok (.aload_n 0, 1) := by decide +kernel
theorem dX3_writeBandHead_93 : decode cX3_writeBandHead 93 = .ok (.getfield 34, 3) := by decide +kernel
theorem dX3_writeBandHead_96 : decode cX3_writeBandHead 96 = .ok (.iload_n 1, 1) := by decide +kernel
theorem dX3_writeBandHead_97 : decode cX3_writeBandHead 97 = .ok (.iaload, 1) := by decide +kernel
theorem dX3_writeBandHead_98 : decode cX3_writeBandHead 98 = .ok (.isub, 1) := by decide +kernel
theorem dX3_writeBandHead_99 : decode cX3_writeBandHead 99 = .ok (.iload 6, 2) := by decide +kernel
theorem dX3_writeBandHead_101 : decode cX3_writeBandHead 101 = .ok (.isub, 1) := by decide +kernel
theorem dX3_writeBandHead_102 : decode cX3_writeBandHead 102 = .ok (.invokestatic 143, 3) := by decide +kernel
theorem dX3_writeBandHead_105 : decode cX3_writeBandHead 105 = .ok (.istore 7, 2) := by decide +kernel
theorem dX3_writeBandHead_107 : decode cX3_writeBandHead 107 = .ok (.aload_n 0, 1) := by decide +kernel
theorem dX3_writeBandHead_108 : decode cX3_writeBandHead 108 = .ok (.getfield 34, 3) := by decide +kernel
theorem dX3_writeBandHead_111 : decode cX3_writeBandHead 111 = .ok (.iload_n 1, 1) := by decide +kernel
theorem dX3_writeBandHead_112 : decode cX3_writeBandHead 112 = .ok (.dup2, 1) := by decide +kernel
theorem dX3_writeBandHead_113 : decode cX3_writeBandHead 113 = .ok (.iaload, 1) := by decide +kernel
theorem dX3_writeBandHead_114 : decode cX3_writeBandHead 114 = .ok (.iload 7, 2) := by decide +kernel
theorem dX3_writeBandHead_116 : decode cX3_writeBandHead 116 = .ok (.iadd, 1) := by decide +kernel
theorem dX3_writeBandHead_117 : decode cX3_writeBandHead 117 = .ok (.iastore, 1) := by decide +kernel
theorem dX3_writeBandHead_118 : decode cX3_writeBandHead 118 = .ok (.iconst 0, 1) := by decide +kernel
theorem dX3_writeBandHead_119 : decode cX3_writeBandHead 119 = .ok (.istore 8, 2) := by decide +kernel
theorem dX3_writeBandHead_121 : decode cX3_writeBandHead 121 = .ok (.iload 8, 2) := by decide +kernel
theorem dX3_writeBandHead_123 : decode cX3_writeBandHead 123 = .ok (.iload 7, 2) := by decide +kernel
theorem dX3_writeBandHead_125 : decode cX3_writeBandHead 125 = .ok (.if_icmp .ge 15, 3) := by decide +kernel
theorem dX3_writeBandHead_128 : decode cX3_writeBandHead 128 = .ok (.aload_n 3, 1) := by decide +kernel
theorem dX3_writeBandHead_129 : decode cX3_writeBandHead 129 = .ok (.iconst 1, 1) := by decide +kernel
theorem dX3_writeBandHead_130 : decode cX3_writeBandHead 130 = .ok (.iconst 1, 1) := by decide +kernel
theorem dX3_writeBandHead_131 : decode cX3_writeBandHead 131 = .ok (.invokevirtual 207, 3) := by decide +kernel
theorem dX3_writeBandHead_134 : decode cX3_writeBandHead 134 = .ok (.iinc 8 1, 3) := by decide +kernel
theorem dX3_writeBandHead_137 : decode cX3_writeBandHead 137 = .ok (.goto (-16), 3) := by decide +kernel
theorem dX3_writeBandHead_140 : decode cX3_writeBandHead 140 = .ok (.aload_n 3, 1) := by decide +kernel
theorem dX3_writeBandHead_141 : decode cX3_writeBandHead 141 = .ok (.iconst 0, 1) := by decide +kernel
theorem dX3_writeBandHead_142 : decode cX3_writeBandHead 142 = .ok (.iconst 1, 1) := by decide +kernel
theorem dX3_writeBandHead_143 : decode cX3_writeBandHead 143 = .ok (.invokevirtual 207, 3) := by decide +kernel
theorem dX3_writeBandHead_146 : decode cX3_writeBandHead 146 = .ok (.aload_n 3, 1) := by decide +kernel
theorem dX3_writeBandHead_147 : decode cX3_writeBandHead 147 = .ok (.iload 5, 2) := by decide +kernel
theorem dX3_writeBandHead_149 : decode cX3_writeBandHead 149 = .ok (.aload_n 0, 1) := by decide +kernel
theorem dX3_writeBandHead_150 : decode cX3_writeBandHead 150 = .ok (.getfield 34, 3) := by decide +kernel
theorem dX3_writeBandHead_153 : decode cX3_writeBandHead 153 = .ok (.iload_n 1, 1) := by decide +kernel
theorem dX3_writeBandHead_154 : decode cX3_writeBandHead 154 = .ok (.iaload, 1) := by decide +kernel
theorem dX3_writeBandHead_155 : decode cX3_writeBandHead 155 = .ok (.iload 6, 2) := by decide +kernel
theorem dX3_writeBandHead_157 : decode cX3_writeBandHead 157 = .ok (.iadd, 1) := by decide +kernel
theorem dX3_writeBandHead_158 : decode cX3_writeBandHead 158 = .ok (.invokevirtual 207, 3) := by decide +kernel
theorem dX3_writeBandHead_161 : decode cX3_writeBandHead 161 = .ok (.return_, 1) := by decide +kernel
theorem dX3_writeCount_0 : decode cX3_writeCount 0 = .ok (.iload_n 0, 1) := by decide +kernel
theorem dX3_writeCount_1 : decode cX3_writeCount 1 = .ok (.iconst 1, 1) := by decide +kernel
theorem dX3_writeCount_2 : decode cX3_writeCount 2 = .ok (.if_icmp .ne 12, 3) := by decide +kernel
theorem dX3_writeCount_5 : decode cX3_writeCount 5 = .ok (.aload_n 1, 1) := by decide +kernel
theorem dX3_writeCount_6 : decode cX3_writeCount 6 = .ok (.iconst 0, 1) := by decide +kernel
theorem dX3_writeCount_7 : decode cX3_writeCount 7 = .ok (.iconst 1, 1) := by decide +kernel
theorem dX3_writeCount_8 : decode cX3_writeCount 8 = .ok (.invokevirtual 207, 3) := by decide +kernel
theorem dX3_writeCount_11 : decode cX3_writeCount 11 = .ok (.goto 55, 3) := by decide +kernel
theorem dX3_writeCount_14 : decode cX3_writeCount 14 = .ok (.iload_n 0, 1) := by decide +kernel
theorem dX3_writeCount_15 : decode cX3_writeCount 15 = .ok (.iconst 2, 1) := by decide +kernel
theorem dX3_writeCount_16 : decode cX3_writeCount 16 = .ok (.if_icmp .ne 12, 3) := by decide +kernel
theorem dX3_writeCount_19 : decode cX3_writeCount 19 = .ok (.aload_n 1, 1) := by decide +kernel
theorem dX3_writeCount_20 : decode cX3_writeCount 20 = .ok (.iconst 2, 1) := by decide +kernel
theorem dX3_writeCount_21 : decode cX3_writeCount 21 = .ok (.iconst 2, 1) := by decide +kernel
theorem dX3_writeCount_22 : decode cX3_writeCount 22 = .ok (.invokevirtual 207, 3) := by decide +kernel
theorem dX3_writeCount_25 : decode cX3_writeCount 25 = .ok (.goto 41, 3) := by decide +kernel
theorem dX3_writeCount_28 : decode cX3_writeCount 28 = .ok (.iload_n 0, 1) := by decide +kernel
theorem dX3_writeCount_29 : decode cX3_writeCount 29 = .ok (.iconst 5, 1) := by decide +kernel
theorem dX3_writeCount_30 : decode cX3_writeCount 30 = .ok (.if_icmp .gt 20, 3) := by decide +kernel
theorem dX3_writeCount_33 : decode cX3_writeCount 33 = .ok (.aload_n 1, 1) := by decide +kernel
theorem dX3_writeCount_34 : decode cX3_writeCount 34 = .ok (.iconst 3, 1) := by decide +kernel
theorem dX3_writeCount_35 : decode cX3_writeCount 35 = .ok (.iconst 2, 1) := by decide +kernel
theorem dX3_writeCount_36 : decode cX3_writeCount 36 = .ok (.invokevirtual 207, 3) := by decide +kernel
theorem dX3_writeCount_39 : decode cX3_writeCount 39 = .ok (.aload_n 1, 1) := by decide +kernel
theorem dX3_writeCount_40 : decode cX3_writeCount 40 = .ok (.iload_n 0, 1) := by decide +kernel
theorem dX3_writeCount_41 : decode cX3_writeCount 41 = .ok (.iconst 3, 1) := by decide +kernel
theorem dX3_writeCount_42 : decode cX3_writeCount 42 = .ok (.isub, 1) := by decide +kernel
theorem dX3_writeCount_43 : decode cX3_writeCount 43 = .ok (.iconst 2, 1) := by decide +kernel
theorem dX3_writeCount_44 : decode cX3_writeCount 44 = .ok (.invokevirtual 207, 3) := by decide +kernel
theorem dX3_writeCount_47 : decode cX3_writeCount 47 = .ok (.goto 19, 3) := by decide +kernel
theorem dX3_writeCount_50 : decode cX3_writeCount 50 = .ok (.aload_n 1, 1) := by decide +kernel
theorem dX3_writeCount_51 : decode cX3_writeCount 51 = .ok (.bipush 15, 2) := by decide +kernel
theorem dX3_writeCount_53 : decode cX3_writeCount 53 = .ok (.iconst 4, 1) := by decide +kernel
theorem dX3_writeCount_54 : decode cX3_writeCount 54 = .ok (.invokevirtual 207, 3) := by decide +kernel
theorem dX3_writeCount_57 : decode cX3_writeCount 57 = .ok (.aload_n 1, 1) := by decide +kernel
theorem dX3_writeCount_58 : decode cX3_writeCount 58 = .ok (.iload_n 0, 1) := by decide +kernel
theorem dX3_writeCount_59 : decode cX3_writeCount 59 = .ok (.bipush 6, 2) := by decide +kernel
theorem dX3_writeCount_61 : decode cX3_writeCount 61 = .ok (.isub, 1) := by decide +kernel
theorem dX3_writeCount_62 : decode cX3_writeCount 62 = .ok (.iconst 5, 1) := by decide +kernel
theorem dX3_writeCount_63 : decode cX3_writeCount 63 = .ok (.invokevirtual 207, 3) := by decide +kernel
theorem dX3_writeCount_66 : decode cX3_writeCount 66 = .ok (.return_, 1) := by decide +kernel
theorem dX4_init_0 : decode cX4_init 0 = .ok (.aload_n 0, 1) := by decide +kernel
theorem dX4_init_1 : decode cX4_init 1 = .ok (.invokespecial 3, 3) := by decide +kernel
theorem dX4_init_4 : decode cX4_init 4 = .ok (.aload_n 0, 1) := by decide +kernel
theorem dX4_init_5 : decode cX4_init 5 = .ok (.bipush 100, 2) := by decide +kernel
theorem dX4_init_7 : decode cX4_init 7 = .ok (.newarray .int, 2) := by decide +kernel
theorem dX4_init_9 : decode cX4_init 9 = .ok (.putfield 11, 3) := by decide +kernel
theorem dX4_init_12 : decode cX4_init 12 = .ok (.aload_n 0, 1) := by decide +kernel
theorem dX4_init_13 : decode cX4_init 13 = .ok (.bipush 100, 2) := by decide +kernel
theorem dX4_init_15 : decode cX4_init 15 = .ok (.newarray .int, 2) := by decide +kernel
theorem dX4_init_17 : decode cX4_init 17 = .ok (.putfield 15, 3) := by decide +kernel
theorem dX4_init_20 : decode cX4_init 20 = .ok (.aload_n 0, 1) := by decide +kernel
theorem dX4_init_21 : decode cX4_init 21 = .ok (.bipush 100, 2) := by decide +kernel
theorem dX4_init_23 : decode cX4_init 23 = .ok (.newarray .int, 2) := by decide +kernel
theorem dX4_init_25 : decode cX4_init 25 = .ok (.putfield 18, 3) := by decide +kernel
theorem dX4_init_28 : decode cX4_init 28 = .ok (.aload_n 0, 1) := by decide +kernel
theorem dX4_init_29 : decode cX4_init 29 = .ok (.bipush 100, 2) := by decide +kernel
theorem dX4_init_31 : decode cX4_init 31 = .ok (.newarray .boolean, 2) := by decide +kernel
theorem dX4_init_33 : decode cX4_init 33 = .ok (.putfield 21, 3) := by decide +kernel
theorem dX4_init_36 : decode cX4_init 36 = .ok (.aload_n 0, 1) := by decide +kernel
theorem dX4_init_37 : decode cX4_init 37 = .ok (.bipush 100, 2) := by decide +kernel
theorem dX4_init_39 : decode cX4_init 39 = .ok (.newarray .boolean, 2) := by decide +kernel
theorem dX4_init_41 : decode cX4_init 41 = .ok (.putfield 25, 3) := by decide +kernel
theorem dX4_init_44 : decode cX4_init 44 = .ok (.aload_n 0, 1) := by decide +kernel
theorem dX4_init_45 : decode cX4_init 45 = .ok (.aload_n 1, 1) := by decide +kernel
theorem dX4_init_46 : decode cX4_init 46 = .ok (.putfield 28, 3) := by decide +kernel
theorem dX4_init_49 : decode cX4_init 49 = .ok (.return_, 1) := by decide +kernel
theorem dX4_begin_0 : decode cX4_begin 0 = .ok (.aload_n 0, 1) := by decide +kernel
theorem dX4_begin_1 : decode cX4_begin 1 = .ok (.iload_n 1, 1) := by decide +kernel
theorem dX4_begin_2 : decode cX4_begin 2 = .ok (.putfield 32, 3) := by decide +kernel
theorem dX4_begin_5 : decode cX4_begin 5 = .ok (.aload_n 0, 1) := by decide +kernel
theorem dX4_begin_6 : decode cX4_begin 6 = .ok (.iload_n 2, 1) := by decide +kernel
theorem dX4_begin_7 : decode cX4_begin 7 = .ok (.putfield 36, 3) := by decide +kernel
theorem dX4_begin_10 : decode cX4_begin 10 = .ok (.aload_n 0, 1) := by decide +kernel
theorem dX4_begin_11 : decode cX4_begin 11 = .ok (.iload_n 3, 1) := by decide +kernel
theorem dX4_begin_12 : decode cX4_begin 12 = .ok (.putfield 39, 3) := by decide +kernel
theorem dX4_begin_15 : decode cX4_begin 15 = .ok (.aload_n 0, 1) := by decide +kernel
theorem dX4_begin_16 : decode cX4_begin 16 = .ok (.getfield 11, 3) := by decide +kernel
theorem dX4_begin_19 : decode cX4_begin 19 = .ok (.iconst 0, 1) := by decide +kernel
theorem dX4_begin_20 : decode cX4_begin 20 = .ok (.invokestatic 42, 3) := by decide +kernel
theorem dX4_begin_23 : decode cX4_begin 23 = .ok (.aload_n 0, 1) := by decide +kernel
theorem dX4_begin_24 : decode cX4_begin 24 = .ok (.getfield 15, 3) := by decide +kernel
theorem dX4_begin_27 : decode cX4_begin 27 = .ok (.iconst 0, 1) := by decide +kernel
theorem dX4_begin_28 : decode cX4_begin 28 = .ok (.invokestatic 42, 3) := by decide +kernel
theorem dX4_begin_31 : decode cX4_begin 31 = .ok (.aload_n 0, 1) := by decide +kernel
theorem dX4_begin_32 : decode cX4_begin 32 = .ok (.getfield 18, 3) := by decide +kernel
theorem dX4_begin_35 : decode cX4_begin 35 = .ok (.iconst 0, 1) := by decide +kernel
theorem dX4_begin_36 : decode cX4_begin 36 = .ok (.invokestatic 42, 3) := by decide +kernel
theorem dX4_begin_39 : decode cX4_begin 39 = .ok (.aload_n 0, 1) := by decide +kernel
theorem dX4_begin_40 : decode cX4_begin 40 = .ok (.invokevirtual 48, 3) := by decide +kernel
theorem dX4_begin_43 : decode cX4_begin 43 = .ok (.iconst 0, 1) := by decide +kernel
theorem dX4_begin_44 : decode cX4_begin 44 = .ok (.istore 4, 2) := by decide +kernel
theorem dX4_begin_46 : decode cX4_begin 46 = .ok (.iload 4, 2) := by decide +kernel
theorem dX4_begin_48 : decode cX4_begin 48 = .ok (.aload_n 0, 1) := by decide +kernel
theorem dX4_begin_49 : decode cX4_begin 49 = .ok (.getfield 25, 3) := by decide +kernel
theorem dX4_begin_52 : decode cX4_begin 52 = .ok (.arraylength, 1) := by decide +kernel
theorem dX4_begin_53 : decode cX4_begin 53 = .ok (.if_icmp .ge 17, 3) := by decide +kernel
theorem dX4_begin_56 : decode cX4_begin 56 = .ok (.aload_n 0, 1) := by decide +kernel
theorem dX4_begin_57 : decode cX4_begin 57 = .ok (.getfield 25, 3) := by decide +kernel
theorem dX4_begin_60 : decode cX4_begin 60 = .ok (.iload 4, 2) := by decide +kernel
theorem dX4_begin_62 : decode cX4_begin 62 = .ok (.iconst 0, 1) := by decide +kernel
theorem dX4_begin_63 : decode cX4_begin 63 = .ok (.bastore, 1) := by decide +kernel
theorem dX4_begin_64 : decode cX4_begin 64 = .ok (.iinc 4 1, 3) := by decide +kernel
theorem dX4_begin_67 : decode cX4_begin 67 = .ok (.goto (-21), 3) := by decide +kernel
theorem dX4_begin_70 : decode cX4_begin 70 = .ok (.return_, 1) := by decide +kernel
theorem dX4_mean_0 : decode cX4_mean 0 = .ok (.aload_n 0, 1) := by decide +kernel
theorem dX4_mean_1 : decode cX4_mean 1 = .ok (.getfield 11, 3) := by decide +kernel
theorem dX4_mean_4 : decode cX4_mean 4 = .ok (.iload_n 1, 1) := by decide +kernel
theorem dX4_mean_5 : decode cX4_mean 5 = .ok (.iload_n 2, 1) := by decide +kernel
theorem dX4_mean_6 : decode cX4_mean 6 = .ok (.invokestatic 51, 3) := by decide +kernel
theorem dX4_mean_9 : decode cX4_mean 9 = .ok (.iload_n 3, 1) := by decide +kernel
theorem dX4_mean_10 : decode cX4_mean 10 = .ok (.iastore, 1) := by decide +kernel
theorem dX4_mean_11 : decode cX4_mean 11 = .ok (.return_, 1) := by decide +kernel
theorem dX4_numberAt_0 : decode cX4_numberAt 0 = .ok (.iload_n 1, 1) := by decide +kernel
theorem dX4_numberAt_1 : decode cX4_numberAt 1 = .ok (.iload_n 2, 1) := by decide +kernel
theorem dX4_numberAt_2 : decode cX4_numberAt 2 = .ok (.invokestatic 51, 3) := by decide +kernel
theorem dX4_numberAt_5 : decode cX4_numberAt 5 = .ok (.istore_n 3, 1) := by decide +kernel
theorem dX4_numberAt_6 : decode cX4_numberAt 6 = .ok (.aload_n 0, 1) := by decide +kernel
theorem dX4_numberAt_7 : decode cX4_numberAt 7 = .ok (.getfield 18, 3) := by decide +kernel
theorem dX4_numberAt_10 : decode cX4_numberAt 10 = .ok (.iload_n 3, 1) := by decide +kernel
theorem dX4_numberAt_11 : decode cX4_numberAt 11 = .ok (.iaload, 1) := by decide +kernel
theorem dX4_numberAt_12 : decode cX4_numberAt 12 = .ok (.aload_n 0, 1) := by decide +kernel
theorem dX4_numberAt_13 : decode cX4_numberAt 13 = .ok (.getfield 15, 3) := by decide +kernel
theorem dX4_numberAt_16 : decode cX4_numberAt 16 = .ok (.iload_n 3, 1) := by decide +kernel
theorem dX4_numberAt_17 : decode cX4_numberAt 17 = .ok (.iaload, 1) := by decide +kernel
theorem dX4_numberAt_18 : decode cX4_numberAt 18 = .ok (.imul, 1) := by decide +kernel
theorem dX4_numberAt_19 : decode cX4_numberAt 19 = .ok (.ireturn, 1) := by decide +kernel
theorem dX4_runPass_0 : decode cX4_runPass 0 = .ok (.aload_n 0, 1) := by decide +kernel
theorem dX4_runPass_1 : decode cX4_runPass 1 = .ok (.iload_n 2, 1) := by decide +kernel
theorem dX4_runPass_2 : decode cX4_runPass 2 = .ok (.iconst 1, 1) := by decide +kernel
theorem dX4_runPass_3 : decode cX4_runPass 3 = .ok (.isub, 1) := by decide +kernel
theorem dX4_runPass_4 : decode cX4_runPass 4 = .ok (.iload_n 1, 1) := by decide +kernel
theorem dX4_runPass_5 : decode cX4_runPass 5 = .ok (.iconst 2, 1) := by decide +kernel
theorem dX4_runPass_6 : decode cX4_runPass 6 = .ok (.iadd, 1) := by decide +kernel
theorem dX4_runPass_7 : decode cX4_runPass 7 = .ok (.iconst 3, 1) := by decide +kernel
theorem dX4_runPass_8 : decode cX4_runPass 8 = .ok (.idiv, 1) := by decide +kernel
theorem dX4_runPass_9 : decode cX4_runPass 9 = .ok (.isub, 1) := by decide +kernel
theorem dX4_runPass_10 : decode cX4_runPass 10 = .ok (.putfield 55, 3) := by decide +kernel
theorem dX4_runPass_13 : decode cX4_runPass 13 = .ok (.iload_n 1, 1) := by decide +kernel
theorem dX4_runPass_14 : decode cX4_runPass 14 = .ok (.iconst 2, 1) := by decide +kernel
theorem dX4_runPass_15 : decode cX4_runPass 15 = .ok (.iadd, 1) := by decide +kernel
theorem dX4_runPass_16 : decode cX4_runPass 16 = .ok (.iconst 3, 1) := by decide +kernel
theorem dX4_runPass_17 : decode cX4_runPass 17 = .ok (.irem, 1) := by decide +kernel
theorem dX4_runPass_18 : decode cX4_runPass 18 = .ok (.istore_n 3, 1) := by decide +kernel
theorem dX4_runPass_19 : decode cX4_runPass 19 = .ok (.iconst 0, 1) := by decide +kernel
theorem dX4_runPass_20 : decode cX4_runPass 20 = .ok (.istore 4, 2) := by decide +kernel
theorem dX4_runPass_22 : decode cX4_runPass 22 = .ok (.iload 4, 2) := by decide +kernel
theorem dX4_runPass_24 : decode cX4_runPass 24 = .ok (.aload_n 0, 1) := by decide +kernel
theorem dX4_runPass_25 : decode cX4_runPass 25 = .ok (.getfield 36, 3) := by decide +kernel
theorem dX4_runPass_28 : decode cX4_runPass 28 = .ok (.if_icmp .ge 94, 3) := by decide +kernel
theorem dX4_runPass_31 : decode cX4_runPass 31 = .ok (.iconst 4, 1) := by decide +kernel
theorem dX4_runPass_32 : decode cX4_runPass 32 = .ok (.aload_n 0, 1) := by decide +kernel
theorem dX4_runPass_33 : decode cX4_runPass 33 = .ok (.getfield 36, 3) := by decide +kernel
theorem dX4_runPass_36 : decode cX4_runPass 36 = .ok (.iload 4, 2) := by decide +kernel
theorem dX4_runPass_38 : decode cX4_runPass 38 = .ok (.isub, 1) := by decide +kernel
theorem dX4_runPass_39 : decode cX4_runPass 39 = .ok (.invokestatic 58, 3) := by decide +kernel
theorem dX4_runPass_42 : decode cX4_runPass 42 = .ok (.istore 5, 2) := by decide +kernel
theorem dX4_runPass_44 : decode cX4_runPass 44 = .ok (.iconst 0, 1) := by decide +kernel
theorem dX4_runPass_45 : decode cX4_runPass 45 = .ok (.istore 6, 2) := by decide +kernel
theorem dX4_runPass_47 : decode cX4_runPass 47 = .ok (.iload 6, 2) := by decide +kernel
theorem dX4_runPass_49 : decode cX4_runPass 49 = .ok (.aload_n 0, 1) := by decide +kernel
theorem dX4_runPass_50 : decode cX4_runPass 50 = .ok (.getfield 32, 3) := by decide +kernel
theorem dX4_runPass_53 : decode cX4_runPass 53 = .ok (.if_icmp .ge 63, 3) := by decide +kernel
theorem dX4_runPass_56 : decode cX4_runPass 56 = .ok (.iload_n 3, 1) := by decide +kernel
theorem dX4_runPass_57 : decode cX4_runPass 57 = .ok (.ifCond .ne 19, 3) := by decide +kernel
theorem dX4_runPass_60 : decode cX4_runPass 60 = .ok (.aload_n 0, 1) := by decide +kernel
theorem dX4_runPass_61 : decode cX4_runPass 61 = .ok (.iload 6, 2) := by decide +kernel
theorem dX4_runPass_63 : decode cX4_runPass 63 = .ok (.iload 4, 2) := by decide +kernel
theorem dX4_runPass_65 : decode cX4_runPass 65 = .ok (.invokestatic 51, 3) := by decide +kernel
theorem dX4_runPass_68 : decode cX4_runPass 68 = .ok (.iload 5, 2) := by decide +kernel
theorem dX4_runPass_70 : decode cX4_runPass 70 = .ok (.invokevirtual 63, 3) := by decide +kernel
theorem dX4_runPass_73 : decode cX4_runPass 73 = .ok (.goto 37, 3) := by decide +kernel
theorem dX4_runPass_76 : decode cX4_runPass 76 = .ok (.iload_n 3, 1) := by decide +kernel
theorem dX4_runPass_77 : decode cX4_runPass 77 = .ok (.iconst 1, 1) := by decide +kernel
theorem dX4_runPass_78 : decode cX4_runPass 78 = .ok (.if_icmp .ne 19, 3) := by decide +kernel
theorem dX4_runPass_81 : decode cX4_runPass 81 = .ok (.aload_n 0, 1) := by decide +kernel
theorem dX4_runPass_82 : decode cX4_runPass 82 = .ok (.iload 6, 2) := by decide +kernel
theorem dX4_runPass_84 : decode cX4_runPass 84 = .ok (.iload 4, 2) := by decide +kernel
theorem dX4_runPass_86 : decode cX4_runPass 86 = .ok (.invokestatic 51, 3) := by decide +kernel
theorem dX4_runPass_89 : decode cX4_runPass 89 = .ok (.iload 5, 2) := by decide +kernel
theorem dX4_runPass_91 : decode cX4_runPass 91 = .ok (.invokevirtual 67, 3) := by decide +kernel
theorem dX4_runPass_94 : decode cX4_runPass 94 = .ok (.goto 16, 3) := by decide +kernel
theorem dX4_runPass_97 : decode cX4_runPass 97 = .ok (.aload_n 0, 1) := by decide +kernel
theorem dX4_runPass_98 : decode cX4_runPass 98 = .ok (.iload 6, 2) := by decide +kernel
theorem dX4_runPass_100 : decode cX4_runPass 100 = .ok (.iload 4, 2) := by decide +kernel
theorem dX4_runPass_102 : decode cX4_runPass 102 = .ok (.invokestatic 51, 3) := by decide +kernel
theorem dX4_runPass_105 : decode cX4_runPass 105 = .ok (.iload 5, 2) := by decide +kernel
theorem dX4_runPass_107 : decode cX4_runPass 107 = .ok (.invokevirtual 70, 3) := by decide +kernel
theorem dX4_runPass_110 : decode cX4_runPass 110 = .ok (.iinc 6 1, 3) := by decide +kernel
theorem dX4_runPass_113 : decode cX4_runPass 113 = .ok (.goto (-66), 3) := by decide +kernel
theorem dX4_runPass_116 : decode cX4_runPass 116 = .ok (.iinc 4 4, 3) := by decide +kernel
theorem dX4_runPass_119 : decode cX4_runPass 119 = .ok (.goto (-97), 3) := by decide +kernel
theorem dX4_runPass_122 : decode cX4_runPass 122 = .ok (.iload_n 3, 1) := by decide +kernel
theorem dX4_runPass_123 : decode cX4_runPass 123 = .ok (.iconst 2, 1) := by decide +kernel
theorem dX4_runPass_124 : decode cX4_runPass 124 = .ok (.if_icmp .ne 7, 3) := by decide +kernel
theorem dX4_runPass_127 : decode cX4_runPass 127 = .ok (.aload_n 0, 1) := by decide +kernel
theorem dX4_runPass_128 : decode cX4_runPass 128 = .ok (.invokevirtual 48, 3) := by decide +kernel
theorem dX4_runPass_131 : decode cX4_runPass 131 = .ok (.return_, 1) := by decide +kernel
theorem dX4_place_0 : decode cX4_place 0 = .ok (.iload_n 1, 1) := by decide +kernel
theorem dX4_place_1 : decode cX4_place 1 = .ok (.iconst 1, 1) := by decide +kernel
theorem dX4_place_2 : decode cX4_place 2 = .ok (.iadd, 1) := by decide +kernel
theorem dX4_place_3 : decode cX4_place 3 = .ok (.bipush 10, 2) := by decide +kernel
theorem dX4_place_5 : decode cX4_place 5 = .ok (.imul, 1) := by decide +kernel
theorem dX4_place_6 : decode cX4_place 6 = .ok (.iload_n 0, 1) := by decide +kernel
theorem dX4_place_7 : decode cX4_place 7 = .ok (.iadd, 1) := by decide +kernel
theorem dX4_place_8 : decode cX4_place 8 = .ok (.iconst 1, 1) := by decide +kernel
theorem dX4_place_9 : decode cX4_place 9 = .ok (.iadd, 1) := by decide +kernel
theorem dX4_place_10 : decode cX4_place 10 = .ok (.ireturn, 1) := by decide +kernel
theorem dX4_clearTold_0 : decode cX4_clearTold 0 = .ok (.iconst 0, 1) := by decide +kernel
theorem dX4_clearTold_1 : decode cX4_clearTold 1 = .ok (.istore_n 1, 1) := by decide +kernel
theorem dX4_clearTold_2 : decode cX4_clearTold 2 = .ok (.iload_n 1, 1) := by decide +kernel
theorem dX4_clearTold_3 : decode cX4_clearTold 3 = .ok (.aload_n 0, 1) := by decide +kernel
theorem dX4_clearTold_4 : decode cX4_clearTold 4 = .ok (.getfield 21, 3) := by decide +kernel
theorem dX4_clearTold_7 : decode cX4_clearTold 7 = .ok (.arraylength, 1) := by decide +kernel
theorem dX4_clearTold_8 : decode cX4_clearTold 8 = .ok (.if_icmp .ge 16, 3) := by decide +kernel
theorem dX4_clearTold_11 : decode cX4_clearTold 11 = .ok (.aload_n 0, 1) := by decide +kernel
theorem dX4_clearTold_12 : decode cX4_clearTold 12 = .ok (.getfield 21, 3) := by decide +kernel
theorem dX4_clearTold_15 : decode cX4_clearTold 15 = .ok (.iload_n 1, 1) := by decide +kernel
theorem dX4_clearTold_16 : decode cX4_clearTold 16 = .ok (.iconst 0, 1) := by decide +kernel
theorem dX4_clearTold_17 : decode cX4_clearTold 17 = .ok (.bastore, 1) := by decide +kernel
theorem dX4_clearTold_18 : decode cX4_clearTold 18 = .ok (.iinc 1 1, 3) := by decide +kernel
theorem dX4_clearTold_21 : decode cX4_clearTold 21 = .ok (.goto (-19), 3) := by decide +kernel
theorem dX4_clearTold_24 : decode cX4_clearTold 24 = .ok (.return_, 1) := by decide +kernel
theorem dX4_spreadColumn_0 : decode cX4_spreadColumn 0 = .ok (.iconst 0, 1) := by decide +kernel
theorem dX4_spreadColumn_1 : decode cX4_spreadColumn 1 = .ok (.istore_n 3, 1) := by decide +kernel
theorem dX4_spreadColumn_2 : decode cX4_spreadColumn 2 = .ok (.iload_n 3, 1) := by decide +kernel
theorem dX4_spreadColumn_3 : decode cX4_spreadColumn 3 = .ok (.iload_n 2, 1) := by decide +kernel
theorem dX4_spreadColumn_4 : decode cX4_spreadColumn 4 = .ok (.if_icmp .ge 79, 3) := by decide +kernel
theorem dX4_spreadColumn_7 : decode cX4_spreadColumn 7 = .ok (.iload_n 1, 1) := by decide +kernel
theorem dX4_spreadColumn_8 : decode cX4_spreadColumn 8 = .ok (.iload_n 3, 1) := by decide +kernel
theorem dX4_spreadColumn_9 : decode cX4_spreadColumn 9 = .ok (.bipush 10, 2) := by decide +kernel
theorem dX4_spreadColumn_11 : decode cX4_spreadColumn 11 = .ok (.imul, 1) := by decide +kernel
theorem dX4_spreadColumn_12 : decode cX4_spreadColumn 12 = .ok (.iadd, 1) := by decide +kernel
theorem dX4_spreadColumn_13 : decode cX4_spreadColumn 13 = .ok (.istore 4, 2) := by decide +kernel
theorem dX4_spreadColumn_15 : decode cX4_spreadColumn 15 = .ok (.aload_n 0, 1) := by decide +kernel
theorem dX4_spreadColumn_16 : decode cX4_spreadColumn 16 = .ok (.getfield 18, 3) := by decide +kernel
theorem dX4_spreadColumn_19 : decode cX4_spreadColumn 19 = .ok (.iload 4, 2) := by decide +kernel
theorem dX4_spreadColumn_21 : decode cX4_spreadColumn 21 = .ok (.iaload, 1) := by decide +kernel
theorem dX4_spreadColumn_22 : decode cX4_spreadColumn 22 = .ok (.ifCond .ne 12, 3) := by decide +kernel
theorem dX4_spreadColumn_25 : decode cX4_spreadColumn 25 = .ok (.aload_n 0, 1) := by decide +kernel
theorem dX4_spreadColumn_26 : decode cX4_spreadColumn 26 = .ok (.iload 4, 2) := by decide +kernel
theorem dX4_spreadColumn_28 : decode cX4_spreadColumn 28 = .ok (.invokevirtual 73, 3) := by decide +kernel
theorem dX4_spreadColumn_31 : decode cX4_spreadColumn 31 = .ok (.goto 4, 3) := by decide +kernel
theorem dX4_spreadColumn_34 : decode cX4_spreadColumn 34 = .ok (.iconst 0, 1) := by decide +kernel
theorem dX4_spreadColumn_35 : decode cX4_spreadColumn 35 = .ok (.istore 5, 2) := by decide +kernel
theorem dX4_spreadColumn_37 : decode cX4_spreadColumn 37 = .ok (.iload 5, 2) := by decide +kernel
theorem dX4_spreadColumn_39 : decode cX4_spreadColumn 39 = .ok (.ifCond .le 38, 3) := by decide +kernel
theorem dX4_spreadColumn_42 : decode cX4_spreadColumn 42 = .ok (.aload_n 0, 1) := by decide +kernel
theorem dX4_spreadColumn_43 : decode cX4_spreadColumn 43 = .ok (.getfield 21, 3) := by decide +kernel
theorem dX4_spreadColumn_46 : decode cX4_spreadColumn 46 = .ok (.iload 4, 2) := by decide +kernel
theorem dX4_spreadColumn_48 : decode cX4_spreadColumn 48 = .ok (.iconst 1, 1) := by decide +kernel
theorem dX4_spreadColumn_49 : decode cX4_spreadColumn 49 = .ok (.bastore, 1) := by decide +kernel
theorem dX4_spreadColumn_50 : decode cX4_spreadColumn 50 = .ok (.aload_n 0, 1) := by decide +kernel
theorem dX4_spreadColumn_51 : decode cX4_spreadColumn 51 = .ok (.getfield 28, 3) := by decide +kernel
theorem dX4_spreadColumn_54 : decode cX4_spreadColumn 54 = .ok (.iload 5, 2) := by decide +kernel
theorem dX4_spreadColumn_56 : decode cX4_spreadColumn 56 = .ok (.aload_n 0, 1) := by decide +kernel
theorem dX4_spreadColumn_57 : decode cX4_spreadColumn 57 = .ok (.iload 4, 2) := by decide +kernel
theorem dX4_spreadColumn_59 : decode cX4_spreadColumn 59 = .ok (.invokevirtual 77, 3) := by decide +kernel
theorem dX4_spreadColumn_62 : decode cX4_spreadColumn 62 = .ok (.invokeinterface 80 3, 5) := by decide +kernel
theorem dX4_spreadColumn_67 : decode cX4_spreadColumn 67 = .ok (.iconst 1, 1) := by decide +kernel
theorem dX4_spreadColumn_68 : decode cX4_spreadColumn 68 = .ok (.if_icmp .ne 9, 3) := by decide +kernel
theorem dX4_spreadColumn_71 : decode cX4_spreadColumn 71 = .ok (.aload_n 0, 1) := by decide +kernel
theorem dX4_spreadColumn_72 : decode cX4_spreadColumn 72 = .ok (.iload 4, 2) := by decide +kernel
theorem dX4_spreadColumn_74 : decode cX4_spreadColumn 74 = .ok (.invokevirtual 85, 3) := by decide +kernel
theorem dX4_spreadColumn_77 : decode cX4_spreadColumn 77 = .ok (.iinc 3 1, 3) := by decide +kernel
theorem dX4_spreadColumn_80 : decode cX4_spreadColumn 80 = .ok (.goto (-78), 3) := by decide +kernel
theorem dX4_spreadColumn_83 : decode cX4_spreadColumn 83 = .ok (.return_, 1) := by decide +kernel
theorem dX4_refineColumn_0 : decode cX4_refineColumn 0 = .ok (.iconst 0, 1) := by decide +kernel
theorem dX4_refineColumn_1 : decode cX4_refineColumn 1 = .ok (.istore_n 3, 1) := by decide +kernel
theorem dX4_refineColumn_2 : decode cX4_refineColumn 2 = .ok (.iload_n 3, 1) := by decide +kernel
theorem dX4_refineColumn_3 : decode cX4_refineColumn 3 = .ok (.iload_n 2, 1) := by decide +kernel
theorem dX4_refineColumn_4 : decode cX4_refineColumn 4 = .ok (.if_icmp .ge 100, 3) := by decide +kernel
theorem dX4_refineColumn_7 : decode cX4_refineColumn 7 = .ok (.iload_n 1, 1) := by decide +kernel
theorem dX4_refineColumn_8 : decode cX4_refineColumn 8 = .ok (.iload_n 3, 1) := by decide +kernel
theorem dX4_refineColumn_9 : decode cX4_refineColumn 9 = .ok (.bipush 10, 2) := by decide +kernel
theorem dX4_refineColumn_11 : decode cX4_refineColumn 11 = .ok (.imul, 1) := by decide +kernel
theorem dX4_refineColumn_12 : decode cX4_refineColumn 12 = .ok (.iadd, 1) := by decide +kernel
theorem dX4_refineColumn_13 : decode cX4_refineColumn 13 = .ok (.istore 4, 2) := by decide +kernel
theorem dX4_refineColumn_15 : decode cX4_refineColumn 15 = .ok (.aload_n 0, 1) := by decide +kernel
theorem dX4_refineColumn_16 : decode cX4_refineColumn 16 = .ok (.getfield 18, 3) := by decide +kernel
theorem dX4_refineColumn_19 : decode cX4_refineColumn 19 = .ok (.iload 4, 2) := by decide +kernel
theorem dX4_refineColumn_21 : decode cX4_refineColumn 21 = .ok (.iaload, 1) := by decide +kernel
theorem dX4_refineColumn_22 : decode cX4_refineColumn 22 = .ok (.ifCond .eq 76, 3) := by decide +kernel
theorem dX4_refineColumn_25 : decode cX4_refineColumn 25 = .ok (.aload_n 0, 1) := by decide +kernel
theorem dX4_refineColumn_26 : decode cX4_refineColumn 26 = .ok (.getfield 21, 3) := by decide +kernel
theorem dX4_refineColumn_29 : decode cX4_refineColumn 29 = .ok (.iload 4, 2) := by decide +kernel
theorem dX4_refineColumn_31 : decode cX4_refineColumn 31 = .ok (.baload, 1) := by decide +kernel
theorem dX4_refineColumn_32 : decode cX4_refineColumn 32 = .ok (.ifCond .ne 66, 3) := by decide +kernel
theorem dX4_refineColumn_35 : decode cX4_refineColumn 35 = .ok (.aload_n 0, 1) := by decide +kernel
theorem dX4_refineColumn_36 : decode cX4_refineColumn 36 = .ok (.getfield 25, 3) := by decide +kernel
theorem dX4_refineColumn_39 : decode cX4_refineColumn 39 = .ok (.iload 4, 2) := by decide +kernel
theorem dX4_refineColumn_41 : decode cX4_refineColumn 41 = .ok (.baload, 1) := by decide +kernel
theorem dX4_refineColumn_42 : decode cX4_refineColumn 42 = .ok (.ifCond .eq 8, 3) := by decide +kernel
theorem dX4_refineColumn_45 : decode cX4_refineColumn 45 = .ok (.bipush 16, 2) := by decide +kernel
theorem dX4_refineColumn_47 : decode cX4_refineColumn 47 = .ok (.goto 9, 3) := by decide +kernel
theorem dX4_refineColumn_50 : decode cX4_refineColumn 50 = .ok (.aload_n 0, 1) := by decide +kernel
theorem dX4_refineColumn_51 : decode cX4_refineColumn 51 = .ok (.iload 4, 2) := by decide +kernel
theorem dX4_refineColumn_53 : decode cX4_refineColumn 53 = .ok (.invokevirtual 89, 3) := by decide +kernel
theorem dX4_refineColumn_56 : decode cX4_refineColumn 56 = .ok (.istore 5, 2) := by decide +kernel
theorem dX4_refineColumn_58 : decode cX4_refineColumn 58 = .ok (.aload_n 0, 1) := by decide +kernel
theorem dX4_refineColumn_59 : decode cX4_refineColumn 59 = .ok (.getfield 25, 3) := by decide +kernel
theorem dX4_refineColumn_62 : decode cX4_refineColumn 62 = .ok (.iload 4, 2) := by decide +kernel
theorem dX4_refineColumn_64 : decode cX4_refineColumn 64 = .ok (.iconst 1, 1) := by decide +kernel
theorem dX4_refineColumn_65 : decode cX4_refineColumn 65 = .ok (.bastore, 1) := by decide +kernel
theorem dX4_refineColumn_66 : decode cX4_refineColumn 66 = .ok (.aload_n 0, 1) := by decide +kernel
theorem dX4_refineColumn_67 : decode cX4_refineColumn 67 = .ok (.getfield 15, 3) := by decide +kernel
theorem dX4_refineColumn_70 : decode cX4_refineColumn 70 = .ok (.iload 4, 2) := by decide +kernel
theorem dX4_refineColumn_72 : decode cX4_refineColumn 72 = .ok (.dup2, 1) := by decide +kernel
theorem dX4_refineColumn_73 : decode cX4_refineColumn 73 = .ok (.iaload, 1) := by decide +kernel
theorem dX4_refineColumn_74 : decode cX4_refineColumn 74 = .ok (.aload_n 0, 1) := by decide +kernel
theorem dX4_refineColumn_75 : decode cX4_refineColumn 75 = .ok (.getfield 28, 3) := by decide +kernel
theorem dX4_refineColumn_78 : decode cX4_refineColumn 78 = .ok (.iload 5, 2) := by decide +kernel
theorem dX4_refineColumn_80 : decode cX4_refineColumn 80 = .ok (.aload_n 0, 1) := by decide +kernel
theorem dX4_refineColumn_81 : decode cX4_refineColumn 81 = .ok (.iload 4, 2) := by decide +kernel
theorem dX4_refineColumn_83 : decode cX4_refineColumn 83 = .ok (.invokevirtual 77, 3) := by decide +kernel
theorem dX4_refineColumn_86 : decode cX4_refineColumn 86 = .ok (.invokeinterface 80 3, 5) := by decide +kernel
theorem dX4_refineColumn_91 : decode cX4_refineColumn 91 = .ok (.aload_n 0, 1) := by decide +kernel
theorem dX4_refineColumn_92 : decode cX4_refineColumn 92 = .ok (.getfield 55, 3) := by decide +kernel
theorem dX4_refineColumn_95 : decode cX4_refineColumn 95 = .ok (.ishl, 1) := by decide +kernel
theorem dX4_refineColumn_96 : decode cX4_refineColumn 96 = .ok (.ior, 1) := by decide +kernel
theorem dX4_refineColumn_97 : decode cX4_refineColumn 97 = .ok (.iastore, 1) := by decide +kernel
theorem dX4_refineColumn_98 : decode cX4_refineColumn 98 = .ok (.iinc 3 1, 3) := by decide +kernel
theorem dX4_refineColumn_101 : decode cX4_refineColumn 101 = .ok (.goto (-99), 3) := by decide +kernel
theorem dX4_refineColumn_104 : decode cX4_refineColumn 104 = .ok (.return_, 1) := by decide +kernel
theorem dX4_firstRefiningContext_0 : decode cX4_firstRefiningContext 0 = .ok (.aload_n 0, 1) := by decide +kernel
theorem dX4_firstRefiningContext_1 : decode cX4_firstRefiningContext 1 = .ok (.iload_n 1, 1) := by decide +kernel
theorem dX4_firstRefiningContext_2 : decode cX4_firstRefiningContext 2 = .ok (.invokevirtual 92, 3) := by decide +kernel
theorem dX4_firstRefiningContext_5 : decode cX4_firstRefiningContext 5 = .ok (.aload_n 0, 1) := by decide +kernel
theorem dX4_firstRefiningContext_6 : decode cX4_firstRefiningContext 6 = .ok (.iload_n 1, 1) := by decide +kernel
theorem dX4_firstRefiningContext_7 : decode cX4_firstRefiningContext 7 = .ok (.invokevirtual 95, 3) := by decide +kernel
theorem dX4_firstRefiningContext_10 : decode cX4_firstRefiningContext 10 = .ok (.iadd, 1) := by decide +kernel
theorem dX4_firstRefiningContext_11 : decode cX4_firstRefiningContext 11 = .ok (.aload_n 0, 1) := by decide +kernel
theorem dX4_firstRefiningContext_12 : decode cX4_firstRefiningContext 12 = .ok (.iload_n 1, 1) := by decide +kernel
theorem dX4_firstRefiningContext_13 : decode cX4_firstRefiningContext 13 = .ok (.invokevirtual 98, 3) := by decide +kernel
theorem dX4_firstRefiningContext_16 : decode cX4_firstRefiningContext 16 = .ok (.iadd, 1) := by decide +kernel
theorem dX4_firstRefiningContext_17 : decode cX4_firstRefiningContext 17 = .ok (.ifCond .ne 7, 3) := by decide +kernel
theorem dX4_firstRefiningContext_20 : decode cX4_firstRefiningContext 20 = .ok (.iconst 1, 1) := by decide +kernel
theorem dX4_firstRefiningContext_21 : decode cX4_firstRefiningContext 21 = .ok (.goto 4, 3) := by decide +kernel
theorem dX4_firstRefiningContext_24 : decode cX4_firstRefiningContext 24 = .ok (.iconst 0, 1) := by decide +kernel
theorem dX4_firstRefiningContext_25 : decode cX4_firstRefiningContext 25 = .ok (.istore_n 2, 1) := by decide +kernel
theorem dX4_firstRefiningContext_26 : decode cX4_firstRefiningContext 26 = .ok (.iload_n 2, 1) := by decide +kernel
theorem dX4_firstRefiningContext_27 : decode cX4_firstRefiningContext 27 = .ok (.ifCond .eq 8, 3) := by decide +kernel
theorem dX4_firstRefiningContext_30 : decode cX4_firstRefiningContext 30 = .ok (.bipush 14, 2) := by decide +kernel
theorem dX4_firstRefiningContext_32 : decode cX4_firstRefiningContext 32 = .ok (.goto 5, 3) := by decide +kernel
theorem dX4_firstRefiningContext_35 : decode cX4_firstRefiningContext 35 = .ok (.bipush 15, 2) := by decide +kernel
theorem dX4_firstRefiningContext_37 : decode cX4_firstRefiningContext 37 = .ok (.ireturn, 1) := by decide +kernel
theorem dX4_cleanColumn_0 : decode cX4_cleanColumn 0 = .ok (.iconst 0, 1) := by decide +kernel
theorem dX4_cleanColumn_1 : decode cX4_cleanColumn 1 = .ok (.istore_n 3, 1) := by decide +kernel
theorem dX4_cleanColumn_2 : decode cX4_cleanColumn 2 = .ok (.iload_n 2, 1) := by decide +kernel
theorem dX4_cleanColumn_3 : decode cX4_cleanColumn 3 = .ok (.iconst 4, 1) := by decide +kernel
theorem dX4_cleanColumn_4 : decode cX4_cleanColumn 4 = .ok (.if_icmp .ne 40, 3) := by decide +kernel
theorem dX4_cleanColumn_7 : decode cX4_cleanColumn 7 = .ok (.aload_n 0, 1) := by decide +kernel
theorem dX4_cleanColumn_8 : decode cX4_cleanColumn 8 = .ok (.iload_n 1, 1) := by decide +kernel
theorem dX4_cleanColumn_9 : decode cX4_cleanColumn 9 = .ok (.invokevirtual 101, 3) := by decide +kernel
theorem dX4_cleanColumn_12 : decode cX4_cleanColumn 12 = .ok (.ifCond .eq 32, 3) := by decide +kernel
theorem dX4_cleanColumn_15 : decode cX4_cleanColumn 15 = .ok (.aload_n 0, 1) := by decide +kernel
theorem dX4_cleanColumn_16 : decode cX4_cleanColumn 16 = .ok (.iload_n 1, 1) := by decide +kernel
theorem dX4_cleanColumn_17 : decode cX4_cleanColumn 17 = .ok (.invokevirtual 105, 3) := by decide +kernel
theorem dX4_cleanColumn_20 : decode cX4_cleanColumn 20 = .ok (.istore 4, 2) := by decide +kernel
theorem dX4_cleanColumn_22 : decode cX4_cleanColumn 22 = .ok (.iload 4, 2) := by decide +kernel
theorem dX4_cleanColumn_24 : decode cX4_cleanColumn 24 = .ok (.iconst 4, 1) := by decide +kernel
theorem dX4_cleanColumn_25 : decode cX4_cleanColumn 25 = .ok (.if_icmp .ge 14, 3) := by decide +kernel
theorem dX4_cleanColumn_28 : decode cX4_cleanColumn 28 = .ok (.aload_n 0, 1) := by decide +kernel
theorem dX4_cleanColumn_29 : decode cX4_cleanColumn 29 = .ok (.iload_n 1, 1) := by decide +kernel
theorem dX4_cleanColumn_30 : decode cX4_cleanColumn 30 = .ok (.iload 4, 2) := by decide +kernel
theorem dX4_cleanColumn_32 : decode cX4_cleanColumn 32 = .ok (.bipush 10, 2) := by decide +kernel
theorem dX4_cleanColumn_34 : decode cX4_cleanColumn 34 = .ok (.imul, 1) := by decide +kernel
theorem dX4_cleanColumn_35 : decode cX4_cleanColumn 35 = .ok (.iadd, 1) := by decide +kernel
theorem dX4_cleanColumn_36 : decode cX4_cleanColumn 36 = .ok (.invokevirtual 85, 3) := by decide +kernel
theorem dX4_cleanColumn_39 : decode cX4_cleanColumn 39 = .ok (.iload 4, 2) := by decide +kernel
theorem dX4_cleanColumn_41 : decode cX4_cleanColumn 41 = .ok (.iconst 1, 1) := by decide +kernel
theorem dX4_cleanColumn_42 : decode cX4_cleanColumn 42 = .ok (.iadd, 1) := by decide +kernel
theorem dX4_cleanColumn_43 : decode cX4_cleanColumn 43 = .ok (.istore_n 3, 1) := by decide +kernel
theorem dX4_cleanColumn_44 : decode cX4_cleanColumn 44 = .ok (.iload_n 3, 1) := by decide +kernel
theorem dX4_cleanColumn_45 : decode cX4_cleanColumn 45 = .ok (.istore 4, 2) := by decide +kernel
theorem dX4_cleanColumn_47 : decode cX4_cleanColumn 47 = .ok (.iload 4, 2) := by decide +kernel
theorem dX4_cleanColumn_49 : decode cX4_cleanColumn 49 = .ok (.iload_n 2, 1) := by decide +kernel
theorem dX4_cleanColumn_50 : decode cX4_cleanColumn 50 = .ok (.if_icmp .ge 69, 3) := by decide +kernel
theorem dX4_cleanColumn_53 : decode cX4_cleanColumn 53 = .ok (.iload_n 1, 1) := by decide +kernel
theorem dX4_cleanColumn_54 : decode cX4_cleanColumn 54 = .ok (.iload 4, 2) := by decide +kernel
theorem dX4_cleanColumn_56 : decode cX4_cleanColumn 56 = .ok (.bipush 10, 2) := by decide +kernel
theorem dX4_cleanColumn_58 : decode cX4_cleanColumn 58 = .ok (.imul, 1) := by decide +kernel
theorem dX4_cleanColumn_59 : decode cX4_cleanColumn 59 = .ok (.iadd, 1) := by decide +kernel
theorem dX4_cleanColumn_60 : decode cX4_cleanColumn 60 = .ok (.istore 5, 2) := by decide +kernel
theorem dX4_cleanColumn_62 : decode cX4_cleanColumn 62 = .ok (.aload_n 0, 1) := by decide +kernel
theorem dX4_cleanColumn_63 : decode cX4_cleanColumn 63 = .ok (.getfield 18, 3) := by decide +kernel
theorem dX4_cleanColumn_66 : decode cX4_cleanColumn 66 = .ok (.iload 5, 2) := by decide +kernel
theorem dX4_cleanColumn_68 : decode cX4_cleanColumn 68 = .ok (.iaload, 1) := by decide +kernel
theorem dX4_cleanColumn_69 : decode cX4_cleanColumn 69 = .ok (.ifCond .ne 44, 3) := by decide +kernel
theorem dX4_cleanColumn_72 : decode cX4_cleanColumn 72 = .ok (.aload_n 0, 1) := by decide +kernel
theorem dX4_cleanColumn_73 : decode cX4_cleanColumn 73 = .ok (.getfield 21, 3) := by decide +kernel
theorem dX4_cleanColumn_76 : decode cX4_cleanColumn 76 = .ok (.iload 5, 2) := by decide +kernel
theorem dX4_cleanColumn_78 : decode cX4_cleanColumn 78 = .ok (.baload, 1) := by decide +kernel
theorem dX4_cleanColumn_79 : decode cX4_cleanColumn 79 = .ok (.ifCond .ne 34, 3) := by decide +kernel
theorem dX4_cleanColumn_82 : decode cX4_cleanColumn 82 = .ok (.aload_n 0, 1) := by decide +kernel
theorem dX4_cleanColumn_83 : decode cX4_cleanColumn 83 = .ok (.getfield 28, 3) := by decide +kernel
theorem dX4_cleanColumn_86 : decode cX4_cleanColumn 86 = .ok (.aload_n 0, 1) := by decide +kernel
theorem dX4_cleanColumn_87 : decode cX4_cleanColumn 87 = .ok (.iload 5, 2) := by decide +kernel
theorem dX4_cleanColumn_89 : decode cX4_cleanColumn 89 = .ok (.invokevirtual 73, 3) := by decide +kernel
theorem dX4_cleanColumn_92 : decode cX4_cleanColumn 92 = .ok (.aload_n 0, 1) := by decide +kernel
theorem dX4_cleanColumn_93 : decode cX4_cleanColumn 93 = .ok (.iload 5, 2) := by decide +kernel
theorem dX4_cleanColumn_95 : decode cX4_cleanColumn 95 = .ok (.invokevirtual 77, 3) := by decide +kernel
theorem dX4_cleanColumn_98 : decode cX4_cleanColumn 98 = .ok (.invokeinterface 80 3, 5) := by decide +kernel
theorem dX4_cleanColumn_103 : decode cX4_cleanColumn 103 = .ok (.iconst 1, 1) := by decide +kernel
theorem dX4_cleanColumn_104 : decode cX4_cleanColumn 104 = .ok (.if_icmp .ne 9, 3) := by decide +kernel
theorem dX4_cleanColumn_107 : decode cX4_cleanColumn 107 = .ok (.aload_n 0, 1) := by decide +kernel
theorem dX4_cleanColumn_108 : decode cX4_cleanColumn 108 = .ok (.iload 5, 2) := by decide +kernel
theorem dX4_cleanColumn_110 : decode cX4_cleanColumn 110 = .ok (.invokevirtual 85, 3) := by decide +kernel
theorem dX4_cleanColumn_113 : decode cX4_cleanColumn 113 = .ok (.iinc 4 1, 3) := by decide +kernel
theorem dX4_cleanColumn_116 : decode cX4_cleanColumn 116 = .ok (.goto (-69), 3) := by decide +kernel
theorem dX4_cleanColumn_119 : decode cX4_cleanColumn 119 = .ok (.return_, 1) := by decide +kernel
theorem dX4_isQuiet_0 : decode cX4_isQuiet 0 = .ok (.iconst 0, 1) := by decide +kernel
theorem dX4_isQuiet_1 : decode cX4_isQuiet 1 = .ok (.istore_n 2, 1) := by decide +kernel
theorem dX4_isQuiet_2 : decode cX4_isQuiet 2 = .ok (.iload_n 2, 1) := by decide +kernel
theorem dX4_isQuiet_3 : decode cX4_isQuiet 3 = .ok (.iconst 4, 1) := by decide +kernel
theorem dX4_isQuiet_4 : decode cX4_isQuiet 4 = .ok (.if_icmp .ge 44, 3) := by decide +kernel
theorem dX4_isQuiet_7 : decode cX4_isQuiet 7 = .ok (.iload_n 1, 1) := by decide +kernel
theorem dX4_isQuiet_8 : decode cX4_isQuiet 8 = .ok (.iload_n 2, 1) := by decide +kernel
theorem dX4_isQuiet_9 : decode cX4_isQuiet 9 = .ok (.bipush 10, 2) := by decide +kernel
theorem dX4_isQuiet_11 : decode cX4_isQuiet 11 = .ok (.imul, 1) := by decide +kernel
theorem dX4_isQuiet_12 : decode cX4_isQuiet 12 = .ok (.iadd, 1) := by decide +kernel
theorem dX4_isQuiet_13 : decode cX4_isQuiet 13 = .ok (.istore_n 3, 1) := by decide +kernel
theorem dX4_isQuiet_14 : decode cX4_isQuiet 14 = .ok (.aload_n 0, 1) := by decide +kernel
theorem dX4_isQuiet_15 : decode cX4_isQuiet 15 = .ok (.getfield 18, 3) := by decide +kernel
theorem dX4_isQuiet_18 : decode cX4_isQuiet 18 = .ok (.iload_n 3, 1) := by decide +kernel
theorem dX4_isQuiet_19 : decode cX4_isQuiet 19 = .ok (.iaload, 1) := by decide +kernel
theorem dX4_isQuiet_20 : decode cX4_isQuiet 20 = .ok (.ifCond .ne 20, 3) := by decide +kernel
theorem dX4_isQuiet_23 : decode cX4_isQuiet 23 = .ok (.aload_n 0, 1) := by decide +kernel
theorem dX4_isQuiet_24 : decode cX4_isQuiet 24 = .ok (.getfield 21, 3) := by decide +kernel
theorem dX4_isQuiet_27 : decode cX4_isQuiet 27 = .ok (.iload_n 3, 1) := by decide +kernel
theorem dX4_isQuiet_28 : decode cX4_isQuiet 28 = .ok (.baload, 1) := by decide +kernel
theorem dX4_isQuiet_29 : decode cX4_isQuiet 29 = .ok (.ifCond .ne 11, 3) := by decide +kernel
theorem dX4_isQuiet_32 : decode cX4_isQuiet 32 = .ok (.aload_n 0, 1) := by decide +kernel
theorem dX4_isQuiet_33 : decode cX4_isQuiet 33 = .ok (.iload_n 3, 1) := by decide +kernel
theorem dX4_isQuiet_34 : decode cX4_isQuiet 34 = .ok (.invokevirtual 73, 3) := by decide +kernel
theorem dX4_isQuiet_37 : decode cX4_isQuiet 37 = .ok (.ifCond .eq 5, 3) := by decide +kernel
theorem dX4_isQuiet_40 : decode cX4_isQuiet 40 = .ok (.iconst 0, 1) := by decide +kernel
theorem dX4_isQuiet_41 : decode cX4_isQuiet 41 = .ok (.ireturn, 1) := by decide +kernel
theorem dX4_isQuiet_42 : decode cX4_isQuiet 42 = .ok (.iinc 2 1, 3) := by decide +kernel
theorem dX4_isQuiet_45 : decode cX4_isQuiet 45 = .ok (.goto (-43), 3) := by decide +kernel
theorem dX4_isQuiet_48 : decode cX4_isQuiet 48 = .ok (.iconst 1, 1) := by decide +kernel
theorem dX4_isQuiet_49 : decode cX4_isQuiet 49 = .ok (.ireturn, 1) := by decide +kernel
theorem dX4_tellQuiet_0 : decode cX4_tellQuiet 0 = .ok (.iconst 0, 1) := by decide +kernel
theorem dX4_tellQuiet_1 : decode cX4_tellQuiet 1 = .ok (.istore_n 2, 1) := by decide +kernel
theorem dX4_tellQuiet_2 : decode cX4_tellQuiet 2 = .ok (.iload_n 2, 1) := by decide +kernel
theorem dX4_tellQuiet_3 : decode cX4_tellQuiet 3 = .ok (.iconst 4, 1) := by decide +kernel
theorem dX4_tellQuiet_4 : decode cX4_tellQuiet 4 = .ok (.if_icmp .ge 22, 3) := by decide +kernel
theorem dX4_tellQuiet_7 : decode cX4_tellQuiet 7 = .ok (.aload_n 0, 1) := by decide +kernel
theorem dX4_tellQuiet_8 : decode cX4_tellQuiet 8 = .ok (.iload_n 1, 1) := by decide +kernel
theorem dX4_tellQuiet_9 : decode cX4_tellQuiet 9 = .ok (.iload_n 2, 1) := by decide +kernel
theorem dX4_tellQuiet_10 : decode cX4_tellQuiet 10 = .ok (.bipush 10, 2) := by decide +kernel
theorem dX4_tellQuiet_12 : decode cX4_tellQuiet 12 = .ok (.imul, 1) := by decide +kernel
theorem dX4_tellQuiet_13 : decode cX4_tellQuiet 13 = .ok (.iadd, 1) := by decide +kernel
theorem dX4_tellQuiet_14 : decode cX4_tellQuiet 14 = .ok (.invokevirtual 77, 3) := by decide +kernel
theorem dX4_tellQuiet_17 : decode cX4_tellQuiet 17 = .ok (.ifCond .ne 9, 3) := by decide +kernel
theorem dX4_tellQuiet_20 : decode cX4_tellQuiet 20 = .ok (.iinc 2 1, 3) := by decide +kernel
theorem dX4_tellQuiet_23 : decode cX4_tellQuiet 23 = .ok (.goto (-21), 3) := by decide +kernel
theorem dX4_tellQuiet_26 : decode cX4_tellQuiet 26 = .ok (.aload_n 0, 1) := by decide +kernel
theorem dX4_tellQuiet_27 : decode cX4_tellQuiet 27 = .ok (.getfield 28, 3) := by decide +kernel
theorem dX4_tellQuiet_30 : decode cX4_tellQuiet 30 = .ok (.bipush 17, 2) := by decide +kernel
theorem dX4_tellQuiet_32 : decode cX4_tellQuiet 32 = .ok (.iload_n 2, 1) := by decide +kernel
theorem dX4_tellQuiet_33 : decode cX4_tellQuiet 33 = .ok (.iconst 4, 1) := by decide +kernel
theorem dX4_tellQuiet_34 : decode cX4_tellQuiet 34 = .ok (.if_icmp .ge 7, 3) := by decide +kernel
theorem dX4_tellQuiet_37 : decode cX4_tellQuiet 37 = .ok (.iconst 1, 1) := by decide +kernel
theorem dX4_tellQuiet_38 : decode cX4_tellQuiet 38 = .ok (.goto 4, 3) := by decide +kernel
theorem dX4_tellQuiet_41 : decode cX4_tellQuiet 41 = .ok (.iconst 0, 1) := by decide +kernel
theorem dX4_tellQuiet_42 : decode cX4_tellQuiet 42 = .ok (.invokeinterface 80 3, 5) := by decide +kernel
theorem dX4_tellQuiet_47 : decode cX4_tellQuiet 47 = .ok (.ifCond .ne 5, 3) := by decide +kernel
theorem dX4_tellQuiet_50 : decode cX4_tellQuiet 50 = .ok (.iconst 4, 1) := by decide +kernel
theorem dX4_tellQuiet_51 : decode cX4_tellQuiet 51 = .ok (.ireturn, 1) := by decide +kernel
theorem dX4_tellQuiet_52 : decode cX4_tellQuiet 52 = .ok (.aload_n 0, 1) := by decide +kernel
theorem dX4_tellQuiet_53 : decode cX4_tellQuiet 53 = .ok (.getfield 28, 3) := by decide +kernel
theorem dX4_tellQuiet_56 : decode cX4_tellQuiet 56 = .ok (.bipush 18, 2) := by decide +kernel
theorem dX4_tellQuiet_58 : decode cX4_tellQuiet 58 = .ok (.iload_n 2, 1) := by decide +kernel
theorem dX4_tellQuiet_59 : decode cX4_tellQuiet 59 = .ok (.iconst 1, 1) := by decide +kernel
theorem dX4_tellQuiet_60 : decode cX4_tellQuiet 60 = .ok (.ishr, 1) := by decide +kernel
theorem dX4_tellQuiet_61 : decode cX4_tellQuiet 61 = .ok (.iconst 1, 1) := by decide +kernel
theorem dX4_tellQuiet_62 : decode cX4_tellQuiet 62 = .ok (.iand, 1) := by decide +kernel
theorem dX4_tellQuiet_63 : decode cX4_tellQuiet 63 = .ok (.invokeinterface 80 3, 5) := by decide +kernel
theorem dX4_tellQuiet_68 : decode cX4_tellQuiet 68 = .ok (.istore_n 3, 1) := by decide +kernel
theorem dX4_tellQuiet_69 : decode cX4_tellQuiet 69 = .ok (.aload_n 0, 1) := by decide +kernel
theorem dX4_tellQuiet_70 : decode cX4_tellQuiet 70 = .ok (.getfield 28, 3) := by decide +kernel
theorem dX4_tellQuiet_73 : decode cX4_tellQuiet 73 = .ok (.bipush 18, 2) := by decide +kernel
theorem dX4_tellQuiet_75 : decode cX4_tellQuiet 75 = .ok (.iload_n 2, 1) := by decide +kernel
theorem dX4_tellQuiet_76 : decode cX4_tellQuiet 76 = .ok (.iconst 1, 1) := by decide +kernel
theorem dX4_tellQuiet_77 : decode cX4_tellQuiet 77 = .ok (.iand, 1) := by decide +kernel
theorem dX4_tellQuiet_78 : decode cX4_tellQuiet 78 = .ok (.invokeinterface 80 3, 5) := by decide +kernel
theorem dX4_tellQuiet_83 : decode cX4_tellQuiet 83 = .ok (.istore 4, 2) := by decide +kernel
theorem dX4_tellQuiet_85 : decode cX4_tellQuiet 85 = .ok (.iconst 2, 1) := by decide +kernel
theorem dX4_tellQuiet_86 : decode cX4_tellQuiet 86 = .ok (.iload_n 3, 1) := by decide +kernel
theorem dX4_tellQuiet_87 : decode cX4_tellQuiet 87 = .ok (.imul, 1) := by decide +kernel
theorem dX4_tellQuiet_88 : decode cX4_tellQuiet 88 = .ok (.iload 4, 2) := by decide +kernel
theorem dX4_tellQuiet_90 : decode cX4_tellQuiet 90 = .ok (.iadd, 1) := by decide +kernel
theorem dX4_tellQuiet_91 : decode cX4_tellQuiet 91 = .ok (.ireturn, 1) := by decide +kernel
theorem dX4_wake_0 : decode cX4_wake 0 = .ok (.aload_n 0, 1) := by decide +kernel
theorem dX4_wake_1 : decode cX4_wake 1 = .ok (.getfield 18, 3) := by decide +kernel
theorem dX4_wake_4 : decode cX4_wake 4 = .ok (.iload_n 1, 1) := by decide +kernel
theorem dX4_wake_5 : decode cX4_wake 5 = .ok (.iconst 1, 1) := by decide +kernel
theorem dX4_wake_6 : decode cX4_wake 6 = .ok (.isub, 1) := by decide +kernel
theorem dX4_wake_7 : decode cX4_wake 7 = .ok (.iaload, 1) := by decide +kernel
theorem dX4_wake_8 : decode cX4_wake 8 = .ok (.aload_n 0, 1) := by decide +kernel
theorem dX4_wake_9 : decode cX4_wake 9 = .ok (.getfield 18, 3) := by decide +kernel
theorem dX4_wake_12 : decode cX4_wake 12 = .ok (.iload_n 1, 1) := by decide +kernel
theorem dX4_wake_13 : decode cX4_wake 13 = .ok (.iconst 1, 1) := by decide +kernel
theorem dX4_wake_14 : decode cX4_wake 14 = .ok (.iadd, 1) := by decide +kernel
theorem dX4_wake_15 : decode cX4_wake 15 = .ok (.iaload, 1) := by decide +kernel
theorem dX4_wake_16 : decode cX4_wake 16 = .ok (.iadd, 1) := by decide +kernel
theorem dX4_wake_17 : decode cX4_wake 17 = .ok (.invokestatic 108, 3) := by decide +kernel
theorem dX4_wake_20 : decode cX4_wake 20 = .ok (.istore_n 2, 1) := by decide +kernel
theorem dX4_wake_21 : decode cX4_wake 21 = .ok (.aload_n 0, 1) := by decide +kernel
theorem dX4_wake_22 : decode cX4_wake 22 = .ok (.getfield 18, 3) := by decide +kernel
theorem dX4_wake_25 : decode cX4_wake 25 = .ok (.iload_n 1, 1) := by decide +kernel
theorem dX4_wake_26 : decode cX4_wake 26 = .ok (.bipush 10, 2) := by decide +kernel
theorem dX4_wake_28 : decode cX4_wake 28 = .ok (.isub, 1) := by decide +kernel
theorem dX4_wake_29 : decode cX4_wake 29 = .ok (.iaload, 1) := by decide +kernel
theorem dX4_wake_30 : decode cX4_wake 30 = .ok (.aload_n 0, 1) := by decide +kernel
theorem dX4_wake_31 : decode cX4_wake 31 = .ok (.getfield 18, 3) := by decide +kernel
theorem dX4_wake_34 : decode cX4_wake 34 = .ok (.iload_n 1, 1) := by decide +kernel
theorem dX4_wake_35 : decode cX4_wake 35 = .ok (.bipush 10, 2) := by decide +kernel
theorem dX4_wake_37 : decode cX4_wake 37 = .ok (.iadd, 1) := by decide +kernel
theorem dX4_wake_38 : decode cX4_wake 38 = .ok (.iaload, 1) := by decide +kernel
theorem dX4_wake_39 : decode cX4_wake 39 = .ok (.iadd, 1) := by decide +kernel
theorem dX4_wake_40 : decode cX4_wake 40 = .ok (.invokestatic 108, 3) := by decide +kernel
theorem dX4_wake_43 : decode cX4_wake 43 = .ok (.istore_n 3, 1) := by decide +kernel
theorem dX4_wake_44 : decode cX4_wake 44 = .ok (.iload_n 2, 1) := by decide +kernel
theorem dX4_wake_45 : decode cX4_wake 45 = .ok (.ifCond .lt 11, 3) := by decide +kernel
theorem dX4_wake_48 : decode cX4_wake 48 = .ok (.iload_n 2, 1) := by decide +kernel
theorem dX4_wake_49 : decode cX4_wake 49 = .ok (.ifCond .ne 11, 3) := by decide +kernel
theorem dX4_wake_52 : decode cX4_wake 52 = .ok (.iload_n 3, 1) := by decide +kernel
theorem dX4_wake_53 : decode cX4_wake 53 = .ok (.ifCond .ge 7, 3) := by decide +kernel
theorem dX4_wake_56 : decode cX4_wake 56 = .ok (.iconst 1, 1) := by decide +kernel
theorem dX4_wake_57 : decode cX4_wake 57 = .ok (.goto 4, 3) := by decide +kernel
theorem dX4_wake_60 : decode cX4_wake 60 = .ok (.iconst 0, 1) := by decide +kernel
theorem dX4_wake_61 : decode cX4_wake 61 = .ok (.istore 4, 2) := by decide +kernel
theorem dX4_wake_63 : decode cX4_wake 63 = .ok (.iload 4, 2) := by decide +kernel
theorem dX4_wake_65 : decode cX4_wake 65 = .ok (.iconst 1, 1) := by decide +kernel
theorem dX4_wake_66 : decode cX4_wake 66 = .ok (.if_icmp .ne 9, 3) := by decide +kernel
theorem dX4_wake_69 : decode cX4_wake 69 = .ok (.iload_n 2, 1) := by decide +kernel
theorem dX4_wake_70 : decode cX4_wake 70 = .ok (.ineg, 1) := by decide +kernel
theorem dX4_wake_71 : decode cX4_wake 71 = .ok (.istore_n 2, 1) := by decide +kernel
theorem dX4_wake_72 : decode cX4_wake 72 = .ok (.iload_n 3, 1) := by decide +kernel
theorem dX4_wake_73 : decode cX4_wake 73 = .ok (.ineg, 1) := by decide +kernel
theorem dX4_wake_74 : decode cX4_wake 74 = .ok (.istore_n 3, 1) := by decide +kernel
theorem dX4_wake_75 : decode cX4_wake 75 = .ok (.aload_n 0, 1) := by decide +kernel
theorem dX4_wake_76 : decode cX4_wake 76 = .ok (.getfield 11, 3) := by decide +kernel
theorem dX4_wake_79 : decode cX4_wake 79 = .ok (.iload_n 1, 1) := by decide +kernel
theorem dX4_wake_80 : decode cX4_wake 80 = .ok (.iaload, 1) := by decide +kernel
theorem dX4_wake_81 : decode cX4_wake 81 = .ok (.ifCond .ge 7, 3) := by decide +kernel
theorem dX4_wake_84 : decode cX4_wake 84 = .ok (.iconst 1, 1) := by decide +kernel
theorem dX4_wake_85 : decode cX4_wake 85 = .ok (.goto 4, 3) := by decide +kernel
theorem dX4_wake_88 : decode cX4_wake 88 = .ok (.iconst 0, 1) := by decide +kernel
theorem dX4_wake_89 : decode cX4_wake 89 = .ok (.istore 5, 2) := by decide +kernel
theorem dX4_wake_91 : decode cX4_wake 91 = .ok (.aload_n 0, 1) := by decide +kernel
theorem dX4_wake_92 : decode cX4_wake 92 = .ok (.getfield 28, 3) := by decide +kernel
theorem dX4_wake_95 : decode cX4_wake 95 = .ok (.bipush 9, 2) := by decide +kernel
theorem dX4_wake_97 : decode cX4_wake 97 = .ok (.iconst 3, 1) := by decide +kernel
theorem dX4_wake_98 : decode cX4_wake 98 = .ok (.iload_n 2, 1) := by decide +kernel
theorem dX4_wake_99 : decode cX4_wake 99 = .ok (.imul, 1) := by decide +kernel
theorem dX4_wake_100 : decode cX4_wake 100 = .ok (.iadd, 1) := by decide +kernel
theorem dX4_wake_101 : decode cX4_wake 101 = .ok (.iload_n 3, 1) := by decide +kernel
theorem dX4_wake_102 : decode cX4_wake 102 = .ok (.iadd, 1) := by decide +kernel
theorem dX4_wake_103 : decode cX4_wake 103 = .ok (.iload 5, 2) := by decide +kernel
theorem dX4_wake_105 : decode cX4_wake 105 = .ok (.iload 4, 2) := by decide +kernel
theorem dX4_wake_107 : decode cX4_wake 107 = .ok (.ixor, 1) := by decide +kernel
theorem dX4_wake_108 : decode cX4_wake 108 = .ok (.invokeinterface 80 3, 5) := by decide +kernel
theorem dX4_wake_113 : decode cX4_wake 113 = .ok (.iload 4, 2) := by decide +kernel
theorem dX4_wake_115 : decode cX4_wake 115 = .ok (.ixor, 1) := by decide +kernel
theorem dX4_wake_116 : decode cX4_wake 116 = .ok (.istore 6, 2) := by decide +kernel
theorem dX4_wake_118 : decode cX4_wake 118 = .ok (.aload_n 0, 1) := by decide +kernel
theorem dX4_wake_119 : decode cX4_wake 119 = .ok (.getfield 18, 3) := by decide +kernel
theorem dX4_wake_122 : decode cX4_wake 122 = .ok (.iload_n 1, 1) := by decide +kernel
theorem dX4_wake_123 : decode cX4_wake 123 = .ok (.iload 6, 2) := by decide +kernel
theorem dX4_wake_125 : decode cX4_wake 125 = .ok (.iconst 1, 1) := by decide +kernel
theorem dX4_wake_126 : decode cX4_wake 126 = .ok (.if_icmp .ne 7, 3) := by decide +kernel
theorem dX4_wake_129 : decode cX4_wake 129 = .ok (.iconst (-1), 1) := by decide +kernel
theorem dX4_wake_130 : decode cX4_wake 130 = .ok (.goto 4, 3) := by decide +kernel
theorem dX4_wake_133 : decode cX4_wake 133 = .ok (.iconst 1, 1) := by decide +kernel
theorem dX4_wake_134 : decode cX4_wake 134 = .ok (.iastore, 1) := by decide +kernel
theorem dX4_wake_135 : decode cX4_wake 135 = .ok (.aload_n 0, 1) := by decide +kernel
theorem dX4_wake_136 : decode cX4_wake 136 = .ok (.getfield 15, 3) := by decide +kernel
theorem dX4_wake_139 : decode cX4_wake 139 = .ok (.iload_n 1, 1) := by decide +kernel
theorem dX4_wake_140 : decode cX4_wake 140 = .ok (.dup2, 1) := by decide +kernel
theorem dX4_wake_141 : decode cX4_wake 141 = .ok (.iaload, 1) := by decide +kernel
theorem dX4_wake_142 : decode cX4_wake 142 = .ok (.iconst 1, 1) := by decide +kernel
theorem dX4_wake_143 : decode cX4_wake 143 = .ok (.aload_n 0, 1) := by decide +kernel
theorem dX4_wake_144 : decode cX4_wake 144 = .ok (.getfield 55, 3) := by decide +kernel
theorem dX4_wake_147 : decode cX4_wake 147 = .ok (.ishl, 1) := by decide +kernel
theorem dX4_wake_148 : decode cX4_wake 148 = .ok (.ior, 1) := by decide +kernel
theorem dX4_wake_149 : decode cX4_wake 149 = .ok (.iastore, 1) := by decide +kernel
theorem dX4_wake_150 : decode cX4_wake 150 = .ok (.return_, 1) := by decide +kernel
theorem dX4_cut_0 : decode cX4_cut 0 = .ok (.iconst (-1), 1) := by decide +kernel
theorem dX4_cut_1 : decode cX4_cut 1 = .ok (.iconst 1, 1) := by decide +kernel
theorem dX4_cut_2 : decode cX4_cut 2 = .ok (.iload_n 0, 1) := by decide +kernel
theorem dX4_cut_3 : decode cX4_cut 3 = .ok (.invokestatic 58, 3) := by decide +kernel
theorem dX4_cut_6 : decode cX4_cut 6 = .ok (.invokestatic 111, 3) := by decide +kernel
theorem dX4_cut_9 : decode cX4_cut 9 = .ok (.ireturn, 1) := by decide +kernel
theorem dX4_meantBit_0 : decode cX4_meantBit 0 = .ok (.aload_n 0, 1) := by decide +kernel
theorem dX4_meantBit_1 : decode cX4_meantBit 1 = .ok (.getfield 11, 3) := by decide +kernel
theorem dX4_meantBit_4 : decode cX4_meantBit 4 = .ok (.iload_n 1, 1) := by decide +kernel
theorem dX4_meantBit_5 : decode cX4_meantBit 5 = .ok (.iaload, 1) := by decide +kernel
theorem dX4_meantBit_6 : decode cX4_meantBit 6 = .ok (.invokestatic 114, 3) := by decide +kernel
theorem dX4_meantBit_9 : decode cX4_meantBit 9 = .ok (.aload_n 0, 1) := by decide +kernel
theorem dX4_meantBit_10 : decode cX4_meantBit 10 = .ok (.getfield 55, 3) := by decide +kernel
theorem dX4_meantBit_13 : decode cX4_meantBit 13 = .ok (.ishr, 1) := by decide +kernel
theorem dX4_meantBit_14 : decode cX4_meantBit 14 = .ok (.iconst 1, 1) := by decide +kernel
theorem dX4_meantBit_15 : decode cX4_meantBit 15 = .ok (.iand, 1) := by decide +kernel
theorem dX4_meantBit_16 : decode cX4_meantBit 16 = .ok (.ireturn, 1) := by decide +kernel
theorem dX4_inRow_0 : decode cX4_inRow 0 = .ok (.aload_n 0, 1) := by decide +kernel
theorem dX4_inRow_1 : decode cX4_inRow 1 = .ok (.getfield 18, 3) := by decide +kernel
theorem dX4_inRow_4 : decode cX4_inRow 4 = .ok (.iload_n 1, 1) := by decide +kernel
theorem dX4_inRow_5 : decode cX4_inRow 5 = .ok (.iconst 1, 1) := by decide +kernel
theorem dX4_inRow_6 : decode cX4_inRow 6 = .ok (.isub, 1) := by decide +kernel
theorem dX4_inRow_7 : decode cX4_inRow 7 = .ok (.iaload, 1) := by decide +kernel
theorem dX4_inRow_8 : decode cX4_inRow 8 = .ok (.iconst 1, 1) := by decide +kernel
theorem dX4_inRow_9 : decode cX4_inRow 9 = .ok (.iand, 1) := by decide +kernel
theorem dX4_inRow_10 : decode cX4_inRow 10 = .ok (.aload_n 0, 1) := by decide +kernel
theorem dX4_inRow_11 : decode cX4_inRow 11 = .ok (.getfield 18, 3) := by decide +kernel
theorem dX4_inRow_14 : decode cX4_inRow 14 = .ok (.iload_n 1, 1) := by decide +kernel
theorem dX4_inRow_15 : decode cX4_inRow 15 = .ok (.iconst 1, 1) := by decide +kernel
theorem dX4_inRow_16 : decode cX4_inRow 16 = .ok (.iadd, 1) := by decide +kernel
theorem dX4_inRow_17 : decode cX4_inRow 17 = .ok (.iaload, 1) := by decide +kernel
theorem dX4_inRow_18 : decode cX4_inRow 18 = .ok (.iconst 1, 1) := by decide +kernel
theorem dX4_inRow_19 : decode cX4_inRow 19 = .ok (.iand, 1) := by decide +kernel
theorem dX4_inRow_20 : decode cX4_inRow 20 = .ok (.iadd, 1) := by decide +kernel
theorem dX4_inRow_21 : decode cX4_inRow 21 = .ok (.ireturn, 1) := by decide +kernel
theorem dX4_inColumn_0 : decode cX4_inColumn 0 = .ok (.aload_n 0, 1) := by decide +kernel
theorem dX4_inColumn_1 : decode cX4_inColumn 1 = .ok (.getfield 18, 3) := by decide +kernel
theorem dX4_inColumn_4 : decode cX4_inColumn 4 = .ok (.iload_n 1, 1) := by decide +kernel
theorem dX4_inColumn_5 : decode cX4_inColumn 5 = .ok (.bipush 10, 2) := by decide +kernel
theorem dX4_inColumn_7 : decode cX4_inColumn 7 = .ok (.isub, 1) := by decide +kernel
theorem dX4_inColumn_8 : decode cX4_inColumn 8 = .ok (.iaload, 1) := by decide +kernel
theorem dX4_inColumn_9 : decode cX4_inColumn 9 = .ok (.iconst 1, 1) := by decide +kernel
theorem dX4_inColumn_10 : decode cX4_inColumn 10 = .ok (.iand, 1) := by decide +kernel
theorem dX4_inColumn_11 : decode cX4_inColumn 11 = .ok (.aload_n 0, 1) := by decide +kernel
theorem dX4_inColumn_12 : decode cX4_inColumn 12 = .ok (.getfield 18, 3) := by decide +kernel
theorem dX4_inColumn_15 : decode cX4_inColumn 15 = .ok (.iload_n 1, 1) := by decide +kernel
theorem dX4_inColumn_16 : decode cX4_inColumn 16 = .ok (.bipush 10, 2) := by decide +kernel
theorem dX4_inColumn_18 : decode cX4_inColumn 18 = .ok (.iadd, 1) := by decide +kernel
theorem dX4_inColumn_19 : decode cX4_inColumn 19 = .ok (.iaload, 1) := by decide +kernel
theorem dX4_inColumn_20 : decode cX4_inColumn 20 = .ok (.iconst 1, 1) := by decide +kernel
theorem dX4_inColumn_21 : decode cX4_inColumn 21 = .ok (.iand, 1) := by decide +kernel
theorem dX4_inColumn_22 : decode cX4_inColumn 22 = .ok (.iadd, 1) := by decide +kernel
theorem dX4_inColumn_23 : decode cX4_inColumn 23 = .ok (.ireturn, 1) := by decide +kernel
theorem dX4_acrossCorners_0 : decode cX4_acrossCorners 0 = .ok (.aload_n 0, 1) := by decide +kernel
theorem dX4_acrossCorners_1 : decode cX4_acrossCorners 1 = .ok (.getfield 18, 3) := by decide +kernel
theorem dX4_acrossCorners_4 : decode cX4_acrossCorners 4 = .ok (.iload_n 1, 1) := by decide +kernel
theorem dX4_acrossCorners_5 : decode cX4_acrossCorners 5 = .ok (.bipush 10, 2) := by decide +kernel
theorem dX4_acrossCorners_7 : decode cX4_acrossCorners 7 = .ok (.isub, 1) := by decide +kernel
theorem dX4_acrossCorners_8 : decode cX4_acrossCorners 8 = .ok (.iconst 1, 1) := by decide +kernel
theorem dX4_acrossCorners_9 : decode cX4_acrossCorners 9 = .ok (.isub, 1) := by decide +kernel
theorem dX4_acrossCorners_10 : decode cX4_acrossCorners 10 = .ok (.iaload, 1) := by decide +kernel
theorem dX4_acrossCorners_11 : decode cX4_acrossCorners 11 = .ok (.iconst 1, 1) := by decide +kernel
theorem dX4_acrossCorners_12 : decode cX4_acrossCorners 12 = .ok (.iand, 1) := by decide +kernel
theorem dX4_acrossCorners_13 : decode cX4_acrossCorners 13 = .ok (.aload_n 0, 1) := by decide +kernel
theorem dX4_acrossCorners_14 : decode cX4_acrossCorners 14 = .ok (.getfield 18, 3) := by decide +kernel
theorem dX4_acrossCorners_17 : decode cX4_acrossCorners 17 = .ok (.iload_n 1, 1) := by decide +kernel
theorem dX4_acrossCorners_18 : decode cX4_acrossCorners 18 = .ok (.bipush 10, 2) := by decide +kernel
theorem dX4_acrossCorners_20 : decode cX4_acrossCorners 20 = .ok (.isub, 1) := by decide +kernel
theorem dX4_acrossCorners_21 : decode cX4_acrossCorners 21 = .ok (.iconst 1, 1) := by decide +kernel
theorem dX4_acrossCorners_22 : decode cX4_acrossCorners 22 = .ok (.iadd, 1) := by decide +kernel
theorem dX4_acrossCorners_23 : decode cX4_acrossCorners 23 = .ok (.iaload, 1) := by decide +kernel
theorem dX4_acrossCorners_24 : decode cX4_acrossCorners 24 = .ok (.iconst 1, 1) := by decide +kernel
theorem dX4_acrossCorners_25 : decode cX4_acrossCorners 25 = .ok (.iand, 1) := by decide +kernel
theorem dX4_acrossCorners_26 : decode cX4_acrossCorners 26 = .ok (.iadd, 1) := by decide +kernel
theorem dX4_acrossCorners_27 : decode cX4_acrossCorners 27 = .ok (.aload_n 0, 1) := by decide +kernel
theorem dX4_acrossCorners_28 : decode cX4_acrossCorners 28 = .ok (.getfield 18, 3) := by decide +kernel
theorem dX4_acrossCorners_31 : decode cX4_acrossCorners 31 = .ok (.iload_n 1, 1) := by decide +kernel
theorem dX4_acrossCorners_32 : decode cX4_acrossCorners 32 = .ok (.bipush 10, 2) := by decide +kernel
theorem dX4_acrossCorners_34 : decode cX4_acrossCorners 34 = .ok (.iadd, 1) := by decide +kernel
theorem dX4_acrossCorners_35 : decode cX4_acrossCorners 35 = .ok (.iconst 1, 1) := by decide +kernel
theorem dX4_acrossCorners_36 : decode cX4_acrossCorners 36 = .ok (.isub, 1) := by decide +kernel
theorem dX4_acrossCorners_37 : decode cX4_acrossCorners 37 = .ok (.iaload, 1) := by decide +kernel
theorem dX4_acrossCorners_38 : decode cX4_acrossCorners 38 = .ok (.iconst 1, 1) := by decide +kernel
theorem dX4_acrossCorners_39 : decode cX4_acrossCorners 39 = .ok (.iand, 1) := by decide +kernel
theorem dX4_acrossCorners_40 : decode cX4_acrossCorners 40 = .ok (.iadd, 1) := by decide +kernel
theorem dX4_acrossCorners_41 : decode cX4_acrossCorners 41 = .ok (.aload_n 0, 1) := by decide +kernel
theorem dX4_acrossCorners_42 : decode cX4_acrossCorners 42 = .ok (.getfield 18, 3) := by decide +kernel
theorem dX4_acrossCorners_45 : decode cX4_acrossCorners 45 = .ok (.iload_n 1, 1) := by decide +kernel
theorem dX4_acrossCorners_46 : decode cX4_acrossCorners 46 = .ok (.bipush 10, 2) := by decide +kernel
theorem dX4_acrossCorners_48 : decode cX4_acrossCorners 48 = .ok (.iadd, 1) := by decide +kernel
theorem dX4_acrossCorners_49 : decode cX4_acrossCorners 49 = .ok (.iconst 1, 1) := by decide +kernel
theorem dX4_acrossCorners_50 : decode cX4_acrossCorners 50 = .ok (.iadd, 1) := by decide +kernel
theorem dX4_acrossCorners_51 : decode cX4_acrossCorners 51 = .ok (.iaload, 1) := by decide +kernel
theorem dX4_acrossCorners_52 : decode cX4_acrossCorners 52 = .ok (.iconst 1, 1) := by decide +kernel
theorem dX4_acrossCorners_53 : decode cX4_acrossCorners 53 = .ok (.iand, 1) := by decide +kernel
theorem dX4_acrossCorners_54 : decode cX4_acrossCorners 54 = .ok (.iadd, 1) := by decide +kernel
theorem dX4_acrossCorners_55 : decode cX4_acrossCorners 55 = .ok (.ireturn, 1) := by decide +kernel
theorem dX4_contextOf_0 : decode cX4_contextOf 0 = .ok (.aload_n 0, 1) := by decide +kernel
theorem dX4_contextOf_1 : decode cX4_contextOf 1 = .ok (.iload_n 1, 1) := by decide +kernel
theorem dX4_contextOf_2 : decode cX4_contextOf 2 = .ok (.invokevirtual 92, 3) := by decide +kernel
theorem dX4_contextOf_5 : decode cX4_contextOf 5 = .ok (.istore_n 2, 1) := by decide +kernel
theorem dX4_contextOf_6 : decode cX4_contextOf 6 = .ok (.aload_n 0, 1) := by decide +kernel
theorem dX4_contextOf_7 : decode cX4_contextOf 7 = .ok (.iload_n 1, 1) := by decide +kernel
theorem dX4_contextOf_8 : decode cX4_contextOf 8 = .ok (.invokevirtual 95, 3) := by decide +kernel
theorem dX4_contextOf_11 : decode cX4_contextOf 11 = .ok (.istore_n 3, 1) := by decide +kernel
theorem dX4_contextOf_12 : decode cX4_contextOf 12 = .ok (.aload_n 0, 1) := by decide +kernel
theorem dX4_contextOf_13 : decode cX4_contextOf 13 = .ok (.iload_n 1, 1) := by decide +kernel
theorem dX4_contextOf_14 : decode cX4_contextOf 14 = .ok (.invokevirtual 98, 3) := by decide +kernel
theorem dX4_contextOf_17 : decode cX4_contextOf 17 = .ok (.istore 4, 2) := by decide +kernel
theorem dX4_contextOf_19 : decode cX4_contextOf 19 = .ok (.aload_n 0, 1) := by decide +kernel
theorem dX4_contextOf_20 : decode cX4_contextOf 20 = .ok (.getfield 39, 3) := by decide +kernel
theorem dX4_contextOf_23 : decode cX4_contextOf 23 = .ok (.iconst 2, 1) := by decide +kernel
theorem dX4_contextOf_24 : decode cX4_contextOf 24 = .ok (.if_icmp .ne 12, 3) := by decide +kernel
theorem dX4_contextOf_27 : decode cX4_contextOf 27 = .ok (.iload_n 2, 1) := by decide +kernel
theorem dX4_contextOf_28 : decode cX4_contextOf 28 = .ok (.iload_n 3, 1) := by decide +kernel
theorem dX4_contextOf_29 : decode cX4_contextOf 29 = .ok (.iadd, 1) := by decide +kernel
theorem dX4_contextOf_30 : decode cX4_contextOf 30 = .ok (.iload 4, 2) := by decide +kernel
theorem dX4_contextOf_32 : decode cX4_contextOf 32 = .ok (.invokestatic 119, 3) := by decide +kernel
theorem dX4_contextOf_35 : decode cX4_contextOf 35 = .ok (.ireturn, 1) := by decide +kernel
theorem dX4_contextOf_36 : decode cX4_contextOf 36 = .ok (.aload_n 0, 1) := by decide +kernel
theorem dX4_contextOf_37 : decode cX4_contextOf 37 = .ok (.getfield 39, 3) := by decide +kernel
theorem dX4_contextOf_40 : decode cX4_contextOf 40 = .ok (.iconst 1, 1) := by decide +kernel
theorem dX4_contextOf_41 : decode cX4_contextOf 41 = .ok (.if_icmp .ne 13, 3) := by decide +kernel
theorem dX4_contextOf_44 : decode cX4_contextOf 44 = .ok (.iload_n 3, 1) := by decide +kernel
theorem dX4_contextOf_45 : decode cX4_contextOf 45 = .ok (.iload_n 2, 1) := by decide +kernel
theorem dX4_contextOf_46 : decode cX4_contextOf 46 = .ok (.iload 4, 2) := by decide +kernel
theorem dX4_contextOf_48 : decode cX4_contextOf 48 = .ok (.invokestatic 122, 3) := by decide +kernel
theorem dX4_contextOf_51 : decode cX4_contextOf 51 = .ok (.goto 10, 3) := by decide +kernel
theorem dX4_contextOf_54 : decode cX4_contextOf 54 = .ok (.iload_n 2, 1) := by decide +kernel
theorem dX4_contextOf_55 : decode cX4_contextOf 55 = .ok (.iload_n 3, 1) := by decide +kernel
theorem dX4_contextOf_56 : decode cX4_contextOf 56 = .ok (.iload 4, 2) := by decide +kernel
theorem dX4_contextOf_58 : decode cX4_contextOf 58 = .ok (.invokestatic 122, 3) := by decide +kernel
theorem dX4_contextOf_61 : decode cX4_contextOf 61 = .ok (.ireturn, 1) := by decide +kernel
theorem dX4_rowFirst_0 : decode cX4_rowFirst 0 = .ok (.iload_n 0, 1) := by decide +kernel
theorem dX4_rowFirst_1 : decode cX4_rowFirst 1 = .ok (.iconst 2, 1) := by decide +kernel
theorem dX4_rowFirst_2 : decode cX4_rowFirst 2 = .ok (.if_icmp .ne 6, 3) := by decide +kernel
theorem dX4_rowFirst_5 : decode cX4_rowFirst 5 = .ok (.bipush 8, 2) := by decide +kernel
theorem dX4_rowFirst_7 : decode cX4_rowFirst 7 = .ok (.ireturn, 1) := by decide +kernel
theorem dX4_rowFirst_8 : decode cX4_rowFirst 8 = .ok (.iload_n 0, 1) := by decide +kernel
theorem dX4_rowFirst_9 : decode cX4_rowFirst 9 = .ok (.iconst 1, 1) := by decide +kernel
theorem dX4_rowFirst_10 : decode cX4_rowFirst 10 = .ok (.if_icmp .ne 23, 3) := by decide +kernel
theorem dX4_rowFirst_13 : decode cX4_rowFirst 13 = .ok (.iload_n 1, 1) := by decide +kernel
theorem dX4_rowFirst_14 : decode cX4_rowFirst 14 = .ok (.ifCond .le 8, 3) := by decide +kernel
theorem dX4_rowFirst_17 : decode cX4_rowFirst 17 = .ok (.bipush 7, 2) := by decide +kernel
theorem dX4_rowFirst_19 : decode cX4_rowFirst 19 = .ok (.goto 13, 3) := by decide +kernel
theorem dX4_rowFirst_22 : decode cX4_rowFirst 22 = .ok (.iload_n 2, 1) := by decide +kernel
theorem dX4_rowFirst_23 : decode cX4_rowFirst 23 = .ok (.ifCond .le 8, 3) := by decide +kernel
theorem dX4_rowFirst_26 : decode cX4_rowFirst 26 = .ok (.bipush 6, 2) := by decide +kernel
theorem dX4_rowFirst_28 : decode cX4_rowFirst 28 = .ok (.goto 4, 3) := by decide +kernel
theorem dX4_rowFirst_31 : decode cX4_rowFirst 31 = .ok (.iconst 5, 1) := by decide +kernel
theorem dX4_rowFirst_32 : decode cX4_rowFirst 32 = .ok (.ireturn, 1) := by decide +kernel
theorem dX4_rowFirst_33 : decode cX4_rowFirst 33 = .ok (.iload_n 1, 1) := by decide +kernel
theorem dX4_rowFirst_34 : decode cX4_rowFirst 34 = .ok (.ifCond .le 14, 3) := by decide +kernel
theorem dX4_rowFirst_37 : decode cX4_rowFirst 37 = .ok (.iload_n 1, 1) := by decide +kernel
theorem dX4_rowFirst_38 : decode cX4_rowFirst 38 = .ok (.iconst 2, 1) := by decide +kernel
theorem dX4_rowFirst_39 : decode cX4_rowFirst 39 = .ok (.if_icmp .ne 7, 3) := by decide +kernel
theorem dX4_rowFirst_42 : decode cX4_rowFirst 42 = .ok (.iconst 4, 1) := by decide +kernel
theorem dX4_rowFirst_43 : decode cX4_rowFirst 43 = .ok (.goto 4, 3) := by decide +kernel
theorem dX4_rowFirst_46 : decode cX4_rowFirst 46 = .ok (.iconst 3, 1) := by decide +kernel
theorem dX4_rowFirst_47 : decode cX4_rowFirst 47 = .ok (.ireturn, 1) := by decide +kernel
theorem dX4_rowFirst_48 : decode cX4_rowFirst 48 = .ok (.iload_n 2, 1) := by decide +kernel
theorem dX4_rowFirst_49 : decode cX4_rowFirst 49 = .ok (.iconst 2, 1) := by decide +kernel
theorem dX4_rowFirst_50 : decode cX4_rowFirst 50 = .ok (.if_icmp .ge 7, 3) := by decide +kernel
theorem dX4_rowFirst_53 : decode cX4_rowFirst 53 = .ok (.iload_n 2, 1) := by decide +kernel
theorem dX4_rowFirst_54 : decode cX4_rowFirst 54 = .ok (.goto 4, 3) := by decide +kernel
theorem dX4_rowFirst_57 : decode cX4_rowFirst 57 = .ok (.iconst 2, 1) := by decide +kernel
theorem dX4_rowFirst_58 : decode cX4_rowFirst 58 = .ok (.ireturn, 1) := by decide +kernel
theorem dX4_cornersFirst_0 : decode cX4_cornersFirst 0 = .ok (.iload_n 1, 1) := by decide +kernel
theorem dX4_cornersFirst_1 : decode cX4_cornersFirst 1 = .ok (.iconst 3, 1) := by decide +kernel
theorem dX4_cornersFirst_2 : decode cX4_cornersFirst 2 = .ok (.if_icmp .lt 6, 3) := by decide +kernel
theorem dX4_cornersFirst_5 : decode cX4_cornersFirst 5 = .ok (.bipush 8, 2) := by decide +kernel
theorem dX4_cornersFirst_7 : decode cX4_cornersFirst 7 = .ok (.ireturn, 1) := by decide +kernel
theorem dX4_cornersFirst_8 : decode cX4_cornersFirst 8 = .ok (.iload_n 1, 1) := by decide +kernel
theorem dX4_cornersFirst_9 : decode cX4_cornersFirst 9 = .ok (.iconst 2, 1) := by decide +kernel
theorem dX4_cornersFirst_10 : decode cX4_cornersFirst 10 = .ok (.if_icmp .ne 15, 3) := by decide +kernel
theorem dX4_cornersFirst_13 : decode cX4_cornersFirst 13 = .ok (.iload_n 0, 1) := by decide +kernel
theorem dX4_cornersFirst_14 : decode cX4_cornersFirst 14 = .ok (.ifCond .le 8, 3) := by decide +kernel
theorem dX4_cornersFirst_17 : decode cX4_cornersFirst 17 = .ok (.bipush 7, 2) := by decide +kernel
theorem dX4_cornersFirst_19 : decode cX4_cornersFirst 19 = .ok (.goto 5, 3) := by decide +kernel
theorem dX4_cornersFirst_22 : decode cX4_cornersFirst 22 = .ok (.bipush 6, 2) := by decide +kernel
theorem dX4_cornersFirst_24 : decode cX4_cornersFirst 24 = .ok (.ireturn, 1) := by decide +kernel
theorem dX4_cornersFirst_25 : decode cX4_cornersFirst 25 = .ok (.iconst 3, 1) := by decide +kernel
theorem dX4_cornersFirst_26 : decode cX4_cornersFirst 26 = .ok (.iload_n 1, 1) := by decide +kernel
theorem dX4_cornersFirst_27 : decode cX4_cornersFirst 27 = .ok (.imul, 1) := by decide +kernel
theorem dX4_cornersFirst_28 : decode cX4_cornersFirst 28 = .ok (.iload_n 0, 1) := by decide +kernel
theorem dX4_cornersFirst_29 : decode cX4_cornersFirst 29 = .ok (.iconst 2, 1) := by decide +kernel
theorem dX4_cornersFirst_30 : decode cX4_cornersFirst 30 = .ok (.if_icmp .ge 7, 3) := by decide +kernel
theorem dX4_cornersFirst_33 : decode cX4_cornersFirst 33 = .ok (.iload_n 0, 1) := by decide +kernel
theorem dX4_cornersFirst_34 : decode cX4_cornersFirst 34 = .ok (.goto 4, 3) := by decide +kernel
theorem dX4_cornersFirst_37 : decode cX4_cornersFirst 37 = .ok (.iconst 2, 1) := by decide +kernel
theorem dX4_cornersFirst_38 : decode cX4_cornersFirst 38 = .ok (.iadd, 1) := by decide +kernel
theorem dX4_cornersFirst_39 : decode cX4_cornersFirst 39 = .ok (.ireturn, 1) := by decide +kernel
theorem dX5_init_0 : decode cX5_init 0 = .ok (.aload_n 0, 1) := by decide +kernel
theorem dX5_init_1 : decode cX5_init 1 = .ok (.invokespecial 3, 3) := by decide +kernel
theorem dX5_init_4 : decode cX5_init 4 = .ok (.aload_n 0, 1) := by decide +kernel
theorem dX5_init_5 : decode cX5_init 5 = .ok (.bipush 64, 2) := by decide +kernel
theorem dX5_init_7 : decode cX5_init 7 = .ok (.newarray .int, 2) := by decide +kernel
theorem dX5_init_9 : decode cX5_init 9 = .ok (.putfield 9, 3) := by decide +kernel
theorem dX5_init_12 : decode cX5_init 12 = .ok (.return_, 1) := by decide +kernel
theorem dX5_begin_0 : decode cX5_begin 0 = .ok (.aload_n 0, 1) := by decide +kernel
theorem dX5_begin_1 : decode cX5_begin 1 = .ok (.iload_n 1, 1) := by decide +kernel
theorem dX5_begin_2 : decode cX5_begin 2 = .ok (.putfield 15, 3) := by decide +kernel
theorem dX5_begin_5 : decode cX5_begin 5 = .ok (.aload_n 0, 1) := by decide +kernel
theorem dX5_begin_6 : decode cX5_begin 6 = .ok (.iload_n 2, 1) := by decide +kernel
theorem dX5_begin_7 : decode cX5_begin 7 = .ok (.putfield 19, 3) := by decide +kernel
theorem dX5_begin_10 : decode cX5_begin 10 = .ok (.aload_n 0, 1) := by decide +kernel
theorem dX5_begin_11 : decode cX5_begin 11 = .ok (.getfield 9, 3) := by decide +kernel
theorem dX5_begin_14 : decode cX5_begin 14 = .ok (.iconst 0, 1) := by decide +kernel
theorem dX5_begin_15 : decode cX5_begin 15 = .ok (.invokestatic 22, 3) := by decide +kernel
theorem dX5_begin_18 : decode cX5_begin 18 = .ok (.return_, 1) := by decide +kernel
theorem dX5_has_0 : decode cX5_has 0 = .ok (.iload_n 1, 1) := by decide +kernel
theorem dX5_has_1 : decode cX5_has 1 = .ok (.ifCond .lt 27, 3) := by decide +kernel
theorem dX5_has_4 : decode cX5_has 4 = .ok (.iload_n 1, 1) := by decide +kernel
theorem dX5_has_5 : decode cX5_has 5 = .ok (.aload_n 0, 1) := by decide +kernel
theorem dX5_has_6 : decode cX5_has 6 = .ok (.getfield 15, 3) := by decide +kernel
theorem dX5_has_9 : decode cX5_has 9 = .ok (.if_icmp .ge 19, 3) := by decide +kernel
theorem dX5_has_12 : decode cX5_has 12 = .ok (.iload_n 2, 1) := by decide +kernel
theorem dX5_has_13 : decode cX5_has 13 = .ok (.ifCond .lt 15, 3) := by decide +kernel
theorem dX5_has_16 : decode cX5_has 16 = .ok (.iload_n 2, 1) := by decide +kernel
theorem dX5_has_17 : decode cX5_has 17 = .ok (.aload_n 0, 1) := by decide +kernel
theorem dX5_has_18 : decode cX5_has 18 = .ok (.getfield 19, 3) := by decide +kernel
theorem dX5_has_21 : decode cX5_has 21 = .ok (.if_icmp .ge 7, 3) := by decide +kernel
theorem dX5_has_24 : decode cX5_has 24 = .ok (.iconst 1, 1) := by decide +kernel
theorem dX5_has_25 : decode cX5_has 25 = .ok (.goto 4, 3) := by decide +kernel
theorem dX5_has_28 : decode cX5_has 28 = .ok (.iconst 0, 1) := by decide +kernel
theorem dX5_has_29 : decode cX5_has 29 = .ok (.ireturn, 1) := by decide +kernel
theorem dX5_at_0 : decode cX5_at 0 = .ok (.aload_n 0, 1) := by decide +kernel
theorem dX5_at_1 : decode cX5_at 1 = .ok (.iload_n 1, 1) := by decide +kernel
theorem dX5_at_2 : decode cX5_at 2 = .ok (.iload_n 2, 1) := by decide +kernel
theorem dX5_at_3 : decode cX5_at 3 = .ok (.invokevirtual 28, 3) := by decide +kernel
theorem dX5_at_6 : decode cX5_at 6 = .ok (.ifCond .eq 17, 3) := by decide +kernel
theorem dX5_at_9 : decode cX5_at 9 = .ok (.aload_n 0, 1) := by decide +kernel
theorem dX5_at_10 : decode cX5_at 10 = .ok (.getfield 9, 3) := by decide +kernel
theorem dX5_at_13 : decode cX5_at 13 = .ok (.iload_n 2, 1) := by decide +kernel
theorem dX5_at_14 : decode cX5_at 14 = .ok (.bipush 8, 2) := by decide +kernel
theorem dX5_at_16 : decode cX5_at 16 = .ok (.imul, 1) := by decide +kernel
theorem dX5_at_17 : decode cX5_at 17 = .ok (.iload_n 1, 1) := by decide +kernel
theorem dX5_at_18 : decode cX5_at 18 = .ok (.iadd, 1) := by decide +kernel
theorem dX5_at_19 : decode cX5_at 19 = .ok (.iaload, 1) := by decide +kernel
theorem dX5_at_20 : decode cX5_at 20 = .ok (.goto 5, 3) := by decide +kernel
theorem dX5_at_23 : decode cX5_at 23 = .ok (.ldc 32, 2) := by decide +kernel
theorem dX5_at_25 : decode cX5_at 25 = .ok (.ireturn, 1) := by decide +kernel
theorem dX5_set_0 : decode cX5_set 0 = .ok (.aload_n 0, 1) := by decide +kernel
theorem dX5_set_1 : decode cX5_set 1 = .ok (.iload_n 1, 1) := by decide +kernel
theorem dX5_set_2 : decode cX5_set 2 = .ok (.iload_n 2, 1) := by decide +kernel
theorem dX5_set_3 : decode cX5_set 3 = .ok (.invokevirtual 28, 3) := by decide +kernel
theorem dX5_set_6 : decode cX5_set 6 = .ok (.ifCond .eq 15, 3) := by decide +kernel
theorem dX5_set_9 : decode cX5_set 9 = .ok (.aload_n 0, 1) := by decide +kernel
theorem dX5_set_10 : decode cX5_set 10 = .ok (.getfield 9, 3) := by decide +kernel
theorem dX5_set_13 : decode cX5_set 13 = .ok (.iload_n 2, 1) := by decide +kernel
theorem dX5_set_14 : decode cX5_set 14 = .ok (.bipush 8, 2) := by decide +kernel
theorem dX5_set_16 : decode cX5_set 16 = .ok (.imul, 1) := by decide +kernel
theorem dX5_set_17 : decode cX5_set 17 = .ok (.iload_n 1, 1) := by decide +kernel
theorem dX5_set_18 : decode cX5_set 18 = .ok (.iadd, 1) := by decide +kernel
theorem dX5_set_19 : decode cX5_set 19 = .ok (.iload_n 3, 1) := by decide +kernel
theorem dX5_set_20 : decode cX5_set 20 = .ok (.iastore, 1) := by decide +kernel
theorem dX5_set_21 : decode cX5_set 21 = .ok (.return_, 1) := by decide +kernel
theorem dX5_greatestDifference_0 : decode cX5_greatestDifference 0 = .ok (.aload_n 0, 1) := by decide +kernel
theorem dX5_greatestDifference_1 : decode cX5_greatestDifference 1 = .ok (.getfield 15, 3) := by decide +kernel
theorem dX5_greatestDifference_4 : decode cX5_greatestDifference 4 = .ok (.aload_n 1, 1) := by decide +kernel
theorem dX5_greatestDifference_5 : decode cX5_greatestDifference 5 = .ok (.getfield 15, 3) := by decide +kernel
theorem dX5_greatestDifference_8 : decode cX5_greatestDifference 8 = .ok (.if_icmp .ne 14, 3) := by decide +kernel
theorem dX5_greatestDifference_11 : decode cX5_greatestDifference 11 = .ok (.aload_n 0, 1) := by decide +kernel
theorem dX5_greatestDifference_12 : decode cX5_greatestDifference 12 = .ok (.getfield 19, 3) := by decide +kernel
theorem dX5_greatestDifference_15 : decode cX5_greatestDifference 15 = .ok (.aload_n 1, 1) := by decide +kernel
theorem dX5_greatestDifference_16 : decode cX5_greatestDifference 16 = .ok (.getfield 19, 3) := by decide +kernel
theorem dX5_greatestDifference_19 : decode cX5_greatestDifference 19 = .ok (.if_icmp .eq 6, 3) := by decide +kernel
theorem dX5_greatestDifference_22 : decode cX5_greatestDifference 22 = .ok (.ldc 32, 2) := by decide +kernel
theorem dX5_greatestDifference_24 : decode cX5_greatestDifference 24 = .ok (.ireturn, 1) := by decide +kernel
theorem dX5_greatestDifference_25 : decode cX5_greatestDifference 25 = .ok (.iconst 0, 1) := by decide +kernel
theorem dX5_greatestDifference_26 : decode cX5_greatestDifference 26 = .ok (.istore_n 2, 1) := by decide +kernel
theorem dX5_greatestDifference_27 : decode cX5_greatestDifference 27 = .ok (.iconst 0, 1) := by decide +kernel
theorem dX5_greatestDifference_28 : decode cX5_greatestDifference 28 = .ok (.istore_n 3, 1) := by decide +kernel
theorem dX5_greatestDifference_29 : decode cX5_greatestDifference 29 = .ok (.iload_n 3, 1) := by decide +kernel
theorem dX5_greatestDifference_30 : decode cX5_greatestDifference 30 = .ok (.aload_n 0, 1) := by decide +kernel
theorem dX5_greatestDifference_31 : decode cX5_greatestDifference 31 = .ok (.getfield 9, 3) := by decide +kernel
theorem dX5_greatestDifference_34 : decode cX5_greatestDifference 34 = .ok (.arraylength, 1) := by decide +kernel
theorem dX5_greatestDifference_35 : decode cX5_greatestDifference 35 = .ok (.if_icmp .ge 30, 3) := by decide +kernel
theorem dX5_greatestDifference_38 : decode cX5_greatestDifference 38 = .ok (.iload_n 2, 1) := by decide +kernel
theorem dX5_greatestDifference_39 : decode cX5_greatestDifference 39 = .ok (.aload_n 0, 1) := by decide +kernel
theorem dX5_greatestDifference_40 : decode cX5_greatestDifference 40 = .ok (.getfield 9, 3) := by decide +kernel
theorem dX5_greatestDifference_43 : decode cX5_greatestDifference 43 = .ok (.iload_n 3, 1) := by decide +kernel
theorem dX5_greatestDifference_44 : decode cX5_greatestDifference 44 = .ok (.iaload, 1) := by decide +kernel
theorem dX5_greatestDifference_45 : decode cX5_greatestDifference 45 = .ok (.aload_n 1, 1) := by decide +kernel
theorem dX5_greatestDifference_46 : decode cX5_greatestDifference 46 = .ok (.getfield 9, 3) := by decide +kernel
theorem dX5_greatestDifference_49 : decode cX5_greatestDifference 49 = .ok (.iload_n 3, 1) := by decide +kernel
theorem dX5_greatestDifference_50 : decode cX5_greatestDifference 50 = .ok (.iaload, 1) := by decide +kernel
theorem dX5_greatestDifference_51 : decode cX5_greatestDifference 51 = .ok (.isub, 1) := by decide +kernel
theorem dX5_greatestDifference_52 : decode cX5_greatestDifference 52 = .ok (.invokestatic 33, 3) := by decide +kernel
theorem dX5_greatestDifference_55 : decode cX5_greatestDifference 55 = .ok (.invokestatic 39, 3) := by decide +kernel
theorem dX5_greatestDifference_58 : decode cX5_greatestDifference 58 = .ok (.istore_n 2, 1) := by decide +kernel
theorem dX5_greatestDifference_59 : decode cX5_greatestDifference 59 = .ok (.iinc 3 1, 3) := by decide +kernel
theorem dX5_greatestDifference_62 : decode cX5_greatestDifference 62 = .ok (.goto (-33), 3) := by decide +kernel
theorem dX5_greatestDifference_65 : decode cX5_greatestDifference 65 = .ok (.iload_n 2, 1) := by decide +kernel
theorem dX5_greatestDifference_66 : decode cX5_greatestDifference 66 = .ok (.ireturn, 1) := by decide +kernel
theorem dX6_init_0 : decode cX6_init 0 = .ok (.aload_n 0, 1) := by decide +kernel
theorem dX6_init_1 : decode cX6_init 1 = .ok (.invokespecial 3, 3) := by decide +kernel
theorem dX6_init_4 : decode cX6_init 4 = .ok (.aload_n 0, 1) := by decide +kernel
theorem dX6_init_5 : decode cX6_init 5 = .ok (.new 9, 3) := by decide +kernel
theorem dX6_init_8 : decode cX6_init 8 = .ok (.dup, 1) := by decide +kernel
theorem dX6_init_9 : decode cX6_init 9 = .ok (.invokespecial 11, 3) := by decide +kernel
theorem dX6_init_12 : decode cX6_init 12 = .ok (.putfield 12, 3) := by decide +kernel
theorem dX6_init_15 : decode cX6_init 15 = .ok (.aload_n 0, 1) := by decide +kernel
theorem dX6_init_16 : decode cX6_init 16 = .ok (.sipush 1024, 3) := by decide +kernel
theorem dX6_init_19 : decode cX6_init 19 = .ok (.newarray .int, 2) := by decide +kernel
theorem dX6_init_21 : decode cX6_init 21 = .ok (.putfield 18, 3) := by decide +kernel
theorem dX6_init_24 : decode cX6_init 24 = .ok (.return_, 1) := by decide +kernel
theorem dX6_clear_0 : decode cX6_clear 0 = .ok (.aload_n 0, 1) := by decide +kernel
theorem dX6_clear_1 : decode cX6_clear 1 = .ok (.iconst 0, 1) := by decide +kernel
theorem dX6_clear_2 : decode cX6_clear 2 = .ok (.putfield 22, 3) := by decide +kernel
theorem dX6_clear_5 : decode cX6_clear 5 = .ok (.return_, 1) := by decide +kernel
theorem dX6_addFrom_0 : decode cX6_addFrom 0 = .ok (.iconst 0, 1) := by decide +kernel
theorem dX6_addFrom_1 : decode cX6_addFrom 1 = .ok (.istore 4, 2) := by decide +kernel
theorem dX6_addFrom_3 : decode cX6_addFrom 3 = .ok (.iload 4, 2) := by decide +kernel
theorem dX6_addFrom_5 : decode cX6_addFrom 5 = .ok (.iload_n 3, 1) := by decide +kernel
theorem dX6_addFrom_6 : decode cX6_addFrom 6 = .ok (.if_icmp .ge 46, 3) := by decide +kernel
theorem dX6_addFrom_9 : decode cX6_addFrom 9 = .ok (.aload_n 0, 1) := by decide +kernel
theorem dX6_addFrom_10 : decode cX6_addFrom 10 = .ok (.getfield 22, 3) := by decide +kernel
theorem dX6_addFrom_13 : decode cX6_addFrom 13 = .ok (.sipush 1024, 3) := by decide +kernel
theorem dX6_addFrom_16 : decode cX6_addFrom 16 = .ok (.if_icmp .ge 36, 3) := by decide +kernel
theorem dX6_addFrom_19 : decode cX6_addFrom 19 = .ok (.aload_n 0, 1) := by decide +kernel
theorem dX6_addFrom_20 : decode cX6_addFrom 20 = .ok (.getfield 18, 3) := by decide +kernel
theorem dX6_addFrom_23 : decode cX6_addFrom 23 = .ok (.aload_n 0, 1) := by decide +kernel
theorem dX6_addFrom_24 : decode cX6_addFrom 24 = .ok (.getfield 22, 3) := by decide +kernel
theorem dX6_addFrom_27 : decode cX6_addFrom 27 = .ok (.aload_n 1, 1) := by decide +kernel
theorem dX6_addFrom_28 : decode cX6_addFrom 28 = .ok (.iload_n 2, 1) := by decide +kernel
theorem dX6_addFrom_29 : decode cX6_addFrom 29 = .ok (.iload 4, 2) := by decide +kernel
theorem dX6_addFrom_31 : decode cX6_addFrom 31 = .ok (.iadd, 1) := by decide +kernel
theorem dX6_addFrom_32 : decode cX6_addFrom 32 = .ok (.invokevirtual 26, 3) := by decide +kernel
theorem dX6_addFrom_35 : decode cX6_addFrom 35 = .ok (.iastore, 1) := by decide +kernel
theorem dX6_addFrom_36 : decode cX6_addFrom 36 = .ok (.aload_n 0, 1) := by decide +kernel
theorem dX6_addFrom_37 : decode cX6_addFrom 37 = .ok (.dup, 1) := by decide +kernel
theorem dX6_addFrom_38 : decode cX6_addFrom 38 = .ok (.getfield 22, 3) := by decide +kernel
theorem dX6_addFrom_41 : decode cX6_addFrom 41 = .ok (.iconst 1, 1) := by decide +kernel
theorem dX6_addFrom_42 : decode cX6_addFrom 42 = .ok (.iadd, 1) := by decide +kernel
theorem dX6_addFrom_43 : decode cX6_addFrom 43 = .ok (.putfield 22, 3) := by decide +kernel
theorem dX6_addFrom_46 : decode cX6_addFrom 46 = .ok (.iinc 4 1, 3) := by decide +kernel
theorem dX6_addFrom_49 : decode cX6_addFrom 49 = .ok (.goto (-46), 3) := by decide +kernel
theorem dX6_addFrom_52 : decode cX6_addFrom 52 = .ok (.return_, 1) := by decide +kernel
theorem dX6_given_0 : decode cX6_given 0 = .ok (.aload_n 0, 1) := by decide +kernel
theorem dX6_given_1 : decode cX6_given 1 = .ok (.getfield 22, 3) := by decide +kernel
theorem dX6_given_4 : decode cX6_given 4 = .ok (.ireturn, 1) := by decide +kernel
theorem dX6_begin_0 : decode cX6_begin 0 = .ok (.aload_n 0, 1) := by decide +kernel
theorem dX6_begin_1 : decode cX6_begin 1 = .ok (.getfield 12, 3) := by decide +kernel
theorem dX6_begin_4 : decode cX6_begin 4 = .ok (.invokevirtual 32, 3) := by decide +kernel
theorem dX6_begin_7 : decode cX6_begin 7 = .ok (.aload_n 0, 1) := by decide +kernel
theorem dX6_begin_8 : decode cX6_begin 8 = .ok (.iload_n 1, 1) := by decide +kernel
theorem dX6_begin_9 : decode cX6_begin 9 = .ok (.aload_n 0, 1) := by decide +kernel
theorem dX6_begin_10 : decode cX6_begin 10 = .ok (.getfield 22, 3) := by decide +kernel
theorem dX6_begin_13 : decode cX6_begin 13 = .ok (.invokestatic 35, 3) := by decide +kernel
theorem dX6_begin_16 : decode cX6_begin 16 = .ok (.putfield 41, 3) := by decide +kernel
theorem dX6_begin_19 : decode cX6_begin 19 = .ok (.aload_n 0, 1) := by decide +kernel
theorem dX6_begin_20 : decode cX6_begin 20 = .ok (.iconst 0, 1) := by decide +kernel
theorem dX6_begin_21 : decode cX6_begin 21 = .ok (.putfield 44, 3) := by decide +kernel
theorem dX6_begin_24 : decode cX6_begin 24 = .ok (.aload_n 0, 1) := by decide +kernel
theorem dX6_begin_25 : decode cX6_begin 25 = .ok (.aload_n 0, 1) := by decide +kernel
theorem dX6_begin_26 : decode cX6_begin 26 = .ok (.getfield 41, 3) := by decide +kernel
theorem dX6_begin_29 : decode cX6_begin 29 = .ok (.ifCond .le 12, 3) := by decide +kernel
theorem dX6_begin_32 : decode cX6_begin 32 = .ok (.aload_n 0, 1) := by decide +kernel
theorem dX6_begin_33 : decode cX6_begin 33 = .ok (.getfield 18, 3) := by decide +kernel
theorem dX6_begin_36 : decode cX6_begin 36 = .ok (.iconst 0, 1) := by decide +kernel
theorem dX6_begin_37 : decode cX6_begin 37 = .ok (.iaload, 1) := by decide +kernel
theorem dX6_begin_38 : decode cX6_begin 38 = .ok (.goto 6, 3) := by decide +kernel
theorem dX6_begin_41 : decode cX6_begin 41 = .ok (.sipush 255, 3) := by decide +kernel
theorem dX6_begin_44 : decode cX6_begin 44 = .ok (.i2l, 1) := by decide +kernel
theorem dX6_begin_45 : decode cX6_begin 45 = .ok (.ldc2_w 47, 3) := by decide +kernel
theorem dX6_begin_48 : decode cX6_begin 48 = .ok (.lmul, 1) := by decide +kernel
theorem dX6_begin_49 : decode cX6_begin 49 = .ok (.putfield 49, 3) := by decide +kernel
theorem dX6_begin_52 : decode cX6_begin 52 = .ok (.aload_n 0, 1) := by decide +kernel
theorem dX6_begin_53 : decode cX6_begin 53 = .ok (.invokevirtual 53, 3) := by decide +kernel
theorem dX6_begin_56 : decode cX6_begin 56 = .ok (.aload_n 0, 1) := by decide +kernel
theorem dX6_begin_57 : decode cX6_begin 57 = .ok (.dup, 1) := by decide +kernel
theorem dX6_begin_58 : decode cX6_begin 58 = .ok (.getfield 49, 3) := by decide +kernel
theorem dX6_begin_61 : decode cX6_begin 61 = .ok (.bipush 7, 2) := by decide +kernel
theorem dX6_begin_63 : decode cX6_begin 63 = .ok (.lshl, 1) := by decide +kernel
theorem dX6_begin_64 : decode cX6_begin 64 = .ok (.putfield 49, 3) := by decide +kernel
theorem dX6_begin_67 : decode cX6_begin 67 = .ok (.aload_n 0, 1) := by decide +kernel
theorem dX6_begin_68 : decode cX6_begin 68 = .ok (.dup, 1) := by decide +kernel
theorem dX6_begin_69 : decode cX6_begin 69 = .ok (.getfield 56, 3) := by decide +kernel
theorem dX6_begin_72 : decode cX6_begin 72 = .ok (.bipush 7, 2) := by decide +kernel
theorem dX6_begin_74 : decode cX6_begin 74 = .ok (.isub, 1) := by decide +kernel
theorem dX6_begin_75 : decode cX6_begin 75 = .ok (.putfield 56, 3) := by decide +kernel
theorem dX6_begin_78 : decode cX6_begin 78 = .ok (.aload_n 0, 1) := by decide +kernel
theorem dX6_begin_79 : decode cX6_begin 79 = .ok (.ldc 59, 2) := by decide +kernel
theorem dX6_begin_81 : decode cX6_begin 81 = .ok (.putfield 60, 3) := by decide +kernel
theorem dX6_begin_84 : decode cX6_begin 84 = .ok (.return_, 1) := by decide +kernel
theorem dX6_comeIn_0 : decode cX6_comeIn 0 = .ok (.aload_n 0, 1) := by decide +kernel
theorem dX6_comeIn_1 : decode cX6_comeIn 1 = .ok (.getfield 44, 3) := by decide +kernel
theorem dX6_comeIn_4 : decode cX6_comeIn 4 = .ok (.aload_n 0, 1) := by decide +kernel
theorem dX6_comeIn_5 : decode cX6_comeIn 5 = .ok (.getfield 41, 3) := by decide +kernel
theorem dX6_comeIn_8 : decode cX6_comeIn 8 = .ok (.if_icmp .ge 15, 3) := by decide +kernel
theorem dX6_comeIn_11 : decode cX6_comeIn 11 = .ok (.aload_n 0, 1) := by decide +kernel
theorem dX6_comeIn_12 : decode cX6_comeIn 12 = .ok (.getfield 18, 3) := by decide +kernel
theorem dX6_comeIn_15 : decode cX6_comeIn 15 = .ok (.aload_n 0, 1) := by decide +kernel
theorem dX6_comeIn_16 : decode cX6_comeIn 16 = .ok (.getfield 44, 3) := by decide +kernel
theorem dX6_comeIn_19 : decode cX6_comeIn 19 = .ok (.iaload, 1) := by decide +kernel
theorem dX6_comeIn_20 : decode cX6_comeIn 20 = .ok (.goto 6, 3) := by decide +kernel
theorem dX6_comeIn_23 : decode cX6_comeIn 23 = .ok (.sipush 255, 3) := by decide +kernel
theorem dX6_comeIn_26 : decode cX6_comeIn 26 = .ok (.istore_n 1, 1) := by decide +kernel
theorem dX6_comeIn_27 : decode cX6_comeIn 27 = .ok (.aload_n 0, 1) := by decide +kernel
theorem dX6_comeIn_28 : decode cX6_comeIn 28 = .ok (.getfield 44, 3) := by decide +kernel
theorem dX6_comeIn_31 : decode cX6_comeIn 31 = .ok (.iconst 1, 1) := by decide +kernel
theorem dX6_comeIn_32 : decode cX6_comeIn 32 = .ok (.iadd, 1) := by decide +kernel
theorem dX6_comeIn_33 : decode cX6_comeIn 33 = .ok (.aload_n 0, 1) := by decide +kernel
theorem dX6_comeIn_34 : decode cX6_comeIn 34 = .ok (.getfield 41, 3) := by decide +kernel
theorem dX6_comeIn_37 : decode cX6_comeIn 37 = .ok (.if_icmp .ge 17, 3) := by decide +kernel
theorem dX6_comeIn_40 : decode cX6_comeIn 40 = .ok (.aload_n 0, 1) := by decide +kernel
theorem dX6_comeIn_41 : decode cX6_comeIn 41 = .ok (.getfield 18, 3) := by decide +kernel
theorem dX6_comeIn_44 : decode cX6_comeIn 44 = .ok (.aload_n 0, 1) := by decide +kernel
theorem dX6_comeIn_45 : decode cX6_comeIn 45 = .ok (.getfield 44, 3) := by decide +kernel
theorem dX6_comeIn_48 : decode cX6_comeIn 48 = .ok (.iconst 1, 1) := by decide +kernel
theorem dX6_comeIn_49 : decode cX6_comeIn 49 = .ok (.iadd, 1) := by decide +kernel
theorem dX6_comeIn_50 : decode cX6_comeIn 50 = .ok (.iaload, 1) := by decide +kernel
theorem dX6_comeIn_51 : decode cX6_comeIn 51 = .ok (.goto 6, 3) := by decide +kernel
theorem dX6_comeIn_54 : decode cX6_comeIn 54 = .ok (.sipush 255, 3) := by decide +kernel
theorem dX6_comeIn_57 : decode cX6_comeIn 57 = .ok (.istore_n 2, 1) := by decide +kernel
theorem dX6_comeIn_58 : decode cX6_comeIn 58 = .ok (.iload_n 1, 1) := by decide +kernel
theorem dX6_comeIn_59 : decode cX6_comeIn 59 = .ok (.sipush 255, 3) := by decide +kernel
theorem dX6_comeIn_62 : decode cX6_comeIn 62 = .ok (.if_icmp .ne 29, 3) := by decide +kernel
theorem dX6_comeIn_65 : decode cX6_comeIn 65 = .ok (.iload_n 2, 1) := by decide +kernel
theorem dX6_comeIn_66 : decode cX6_comeIn 66 = .ok (.sipush 143, 3) := by decide +kernel
theorem dX6_comeIn_69 : decode cX6_comeIn 69 = .ok (.if_icmp .le 22, 3) := by decide +kernel
theorem dX6_comeIn_72 : decode cX6_comeIn 72 = .ok (.aload_n 0, 1) := by decide +kernel
theorem dX6_comeIn_73 : decode cX6_comeIn 73 = .ok (.dup, 1) := by decide +kernel
theorem dX6_comeIn_74 : decode cX6_comeIn 74 = .ok (.getfield 49, 3) := by decide +kernel
theorem dX6_comeIn_77 : decode cX6_comeIn 77 = .ok (.ldc2_w 63, 3) := by decide +kernel
theorem dX6_comeIn_80 : decode cX6_comeIn 80 = .ok (.ladd, 1) := by decide +kernel
theorem dX6_comeIn_81 : decode cX6_comeIn 81 = .ok (.putfield 49, 3) := by decide +kernel
theorem dX6_comeIn_84 : decode cX6_comeIn 84 = .ok (.aload_n 0, 1) := by decide +kernel
theorem dX6_comeIn_85 : decode cX6_comeIn 85 = .ok (.bipush 8, 2) := by decide +kernel
theorem dX6_comeIn_87 : decode cX6_comeIn 87 = .ok (.putfield 56, 3) := by decide +kernel
theorem dX6_comeIn_90 : decode cX6_comeIn 90 = .ok (.return_, 1) := by decide +kernel
theorem dX6_comeIn_91 : decode cX6_comeIn 91 = .ok (.aload_n 0, 1) := by decide +kernel
theorem dX6_comeIn_92 : decode cX6_comeIn 92 = .ok (.dup, 1) := by decide +kernel
theorem dX6_comeIn_93 : decode cX6_comeIn 93 = .ok (.getfield 44, 3) := by decide +kernel
theorem dX6_comeIn_96 : decode cX6_comeIn 96 = .ok (.iconst 1, 1) := by decide +kernel
theorem dX6_comeIn_97 : decode cX6_comeIn 97 = .ok (.iadd, 1) := by decide +kernel
theorem dX6_comeIn_98 : decode cX6_comeIn 98 = .ok (.putfield 44, 3) := by decide +kernel
theorem dX6_comeIn_101 : decode cX6_comeIn 101 = .ok (.aload_n 0, 1) := by decide +kernel
theorem dX6_comeIn_102 : decode cX6_comeIn 102 = .ok (.dup, 1) := by decide +kernel
theorem dX6_comeIn_103 : decode cX6_comeIn 103 = .ok (.getfield 49, 3) := by decide +kernel
theorem dX6_comeIn_106 : decode cX6_comeIn 106 = .ok (.iload_n 2, 1) := by decide +kernel
theorem dX6_comeIn_107 : decode cX6_comeIn 107 = .ok (.iload_n 1, 1) := by decide +kernel
theorem dX6_comeIn_108 : decode cX6_comeIn 108 = .ok (.sipush 255, 3) := by decide +kernel
theorem dX6_comeIn_111 : decode cX6_comeIn 111 = .ok (.if_icmp .ne 9, 3) := by decide +kernel
theorem dX6_comeIn_114 : decode cX6_comeIn 114 = .ok (.sipush 512, 3) := by decide +kernel
theorem dX6_comeIn_117 : decode cX6_comeIn 117 = .ok (.goto 6, 3) := by decide +kernel
theorem dX6_comeIn_120 : decode cX6_comeIn 120 = .ok (.sipush 256, 3) := by decide +kernel
theorem dX6_comeIn_123 : decode cX6_comeIn 123 = .ok (.imul, 1) := by decide +kernel
theorem dX6_comeIn_124 : decode cX6_comeIn 124 = .ok (.i2l, 1) := by decide +kernel
theorem dX6_comeIn_125 : decode cX6_comeIn 125 = .ok (.ladd, 1) := by decide +kernel
theorem dX6_comeIn_126 : decode cX6_comeIn 126 = .ok (.putfield 49, 3) := by decide +kernel
theorem dX6_comeIn_129 : decode cX6_comeIn 129 = .ok (.aload_n 0, 1) := by decide +kernel
theorem dX6_comeIn_130 : decode cX6_comeIn 130 = .ok (.iload_n 1, 1) := by decide +kernel
theorem dX6_comeIn_131 : decode cX6_comeIn 131 = .ok (.sipush 255, 3) := by decide +kernel
theorem dX6_comeIn_134 : decode cX6_comeIn 134 = .ok (.if_icmp .ne 8, 3) := by decide +kernel
theorem dX6_comeIn_137 : decode cX6_comeIn 137 = .ok (.bipush 7, 2) := by decide +kernel
theorem dX6_comeIn_139 : decode cX6_comeIn 139 = .ok (.goto 5, 3) := by decide +kernel
theorem dX6_comeIn_142 : decode cX6_comeIn 142 = .ok (.bipush 8, 2) := by decide +kernel
theorem dX6_comeIn_144 : decode cX6_comeIn 144 = .ok (.putfield 56, 3) := by decide +kernel
theorem dX6_comeIn_147 : decode cX6_comeIn 147 = .ok (.return_, 1) := by decide +kernel
theorem dX6_tellBit_0 : decode cX6_tellBit 0 = .ok (.aload_n 0, 1) := by decide +kernel
theorem dX6_tellBit_1 : decode cX6_tellBit 1 = .ok (.getfield 12, 3) := by decide +kernel
theorem dX6_tellBit_4 : decode cX6_tellBit 4 = .ok (.iload_n 1, 1) := by decide +kernel
theorem dX6_tellBit_5 : decode cX6_tellBit 5 = .ok (.invokevirtual 65, 3) := by decide +kernel
theorem dX6_tellBit_8 : decode cX6_tellBit 8 = .ok (.istore_n 3, 1) := by decide +kernel
theorem dX6_tellBit_9 : decode cX6_tellBit 9 = .ok (.aload_n 0, 1) := by decide +kernel
theorem dX6_tellBit_10 : decode cX6_tellBit 10 = .ok (.getfield 12, 3) := by decide +kernel
theorem dX6_tellBit_13 : decode cX6_tellBit 13 = .ok (.iload_n 1, 1) := by decide +kernel
theorem dX6_tellBit_14 : decode cX6_tellBit 14 = .ok (.invokevirtual 68, 3) := by decide +kernel
theorem dX6_tellBit_17 : decode cX6_tellBit 17 = .ok (.istore 4, 2) := by decide +kernel
theorem dX6_tellBit_19 : decode cX6_tellBit 19 = .ok (.aload_n 0, 1) := by decide +kernel
theorem dX6_tellBit_20 : decode cX6_tellBit 20 = .ok (.dup, 1) := by decide +kernel
theorem dX6_tellBit_21 : decode cX6_tellBit 21 = .ok (.getfield 60, 3) := by decide +kernel
theorem dX6_tellBit_24 : decode cX6_tellBit 24 = .ok (.iload_n 3, 1) := by decide +kernel
theorem dX6_tellBit_25 : decode cX6_tellBit 25 = .ok (.isub, 1) := by decide +kernel
theorem dX6_tellBit_26 : decode cX6_tellBit 26 = .ok (.putfield 60, 3) := by decide +kernel
theorem dX6_tellBit_29 : decode cX6_tellBit 29 = .ok (.aload_n 0, 1) := by decide +kernel
theorem dX6_tellBit_30 : decode cX6_tellBit 30 = .ok (.getfield 49, 3) := by decide +kernel
theorem dX6_tellBit_33 : decode cX6_tellBit 33 = .ok (.bipush 16, 2) := by decide +kernel
theorem dX6_tellBit_35 : decode cX6_tellBit 35 = .ok (.lshr, 1) := by decide +kernel
theorem dX6_tellBit_36 : decode cX6_tellBit 36 = .ok (.iload_n 3, 1) := by decide +kernel
theorem dX6_tellBit_37 : decode cX6_tellBit 37 = .ok (.i2l, 1) := by decide +kernel
theorem dX6_tellBit_38 : decode cX6_tellBit 38 = .ok (.lcmp, 1) := by decide +kernel
theorem dX6_tellBit_39 : decode cX6_tellBit 39 = .ok (.ifCond .ge 30, 3) := by decide +kernel
theorem dX6_tellBit_42 : decode cX6_tellBit 42 = .ok (.aload_n 0, 1) := by decide +kernel
theorem dX6_tellBit_43 : decode cX6_tellBit 43 = .ok (.getfield 60, 3) := by decide +kernel
theorem dX6_tellBit_46 : decode cX6_tellBit 46 = .ok (.iload_n 3, 1) := by decide +kernel
theorem dX6_tellBit_47 : decode cX6_tellBit 47 = .ok (.if_icmp .ge 8, 3) := by decide +kernel
theorem dX6_tellBit_50 : decode cX6_tellBit 50 = .ok (.iload 4, 2) := by decide +kernel
theorem dX6_tellBit_52 : decode cX6_tellBit 52 = .ok (.goto 7, 3) := by decide +kernel
theorem dX6_tellBit_55 : decode cX6_tellBit 55 = .ok (.iconst 1, 1) := by decide +kernel
theorem dX6_tellBit_56 : decode cX6_tellBit 56 = .ok (.iload 4, 2) := by decide +kernel
theorem dX6_tellBit_58 : decode cX6_tellBit 58 = .ok (.isub, 1) := by decide +kernel
theorem dX6_tellBit_59 : decode cX6_tellBit 59 = .ok (.istore 5, 2) := by decide +kernel
theorem dX6_tellBit_61 : decode cX6_tellBit 61 = .ok (.aload_n 0, 1) := by decide +kernel
theorem dX6_tellBit_62 : decode cX6_tellBit 62 = .ok (.iload_n 3, 1) := by decide +kernel
theorem dX6_tellBit_63 : decode cX6_tellBit 63 = .ok (.putfield 60, 3) := by decide +kernel
theorem dX6_tellBit_66 : decode cX6_tellBit 66 = .ok (.goto 48, 3) := by decide +kernel
theorem dX6_tellBit_69 : decode cX6_tellBit 69 = .ok (.aload_n 0, 1) := by decide +kernel
theorem dX6_tellBit_70 : decode cX6_tellBit 70 = .ok (.dup, 1) := by decide +kernel
theorem dX6_tellBit_71 : decode cX6_tellBit 71 = .ok (.getfield 49, 3) := by decide +kernel
theorem dX6_tellBit_74 : decode cX6_tellBit 74 = .ok (.iload_n 3, 1) := by decide +kernel
theorem dX6_tellBit_75 : decode cX6_tellBit 75 = .ok (.i2l, 1) := by decide +kernel
theorem dX6_tellBit_76 : decode cX6_tellBit 76 = .ok (.bipush 16, 2) := by decide +kernel
theorem dX6_tellBit_78 : decode cX6_tellBit 78 = .ok (.lshl, 1) := by decide +kernel
theorem dX6_tellBit_79 : decode cX6_tellBit 79 = .ok (.lsub, 1) := by decide +kernel
theorem dX6_tellBit_80 : decode cX6_tellBit 80 = .ok (.putfield 49, 3) := by decide +kernel
theorem dX6_tellBit_83 : decode cX6_tellBit 83 = .ok (.aload_n 0, 1) := by decide +kernel
theorem dX6_tellBit_84 : decode cX6_tellBit 84 = .ok (.getfield 60, 3) := by decide +kernel
theorem dX6_tellBit_87 : decode cX6_tellBit 87 = .ok (.ldc 59, 2) := by decide +kernel
theorem dX6_tellBit_89 : decode cX6_tellBit 89 = .ok (.if_icmp .lt 6, 3) := by decide +kernel
theorem dX6_tellBit_92 : decode cX6_tellBit 92 = .ok (.iload 4, 2) := by decide +kernel
theorem dX6_tellBit_94 : decode cX6_tellBit 94 = .ok (.ireturn, 1) := by decide +kernel
theorem dX6_tellBit_95 : decode cX6_tellBit 95 = .ok (.aload_n 0, 1) := by decide +kernel
theorem dX6_tellBit_96 : decode cX6_tellBit 96 = .ok (.getfield 60, 3) := by decide +kernel
theorem dX6_tellBit_99 : decode cX6_tellBit 99 = .ok (.iload_n 3, 1) := by decide +kernel
theorem dX6_tellBit_100 : decode cX6_tellBit 100 = .ok (.if_icmp .ge 10, 3) := by decide +kernel
theorem dX6_tellBit_103 : decode cX6_tellBit 103 = .ok (.iconst 1, 1) := by decide +kernel
theorem dX6_tellBit_104 : decode cX6_tellBit 104 = .ok (.iload 4, 2) := by decide +kernel
theorem dX6_tellBit_106 : decode cX6_tellBit 106 = .ok (.isub, 1) := by decide +kernel
theorem dX6_tellBit_107 : decode cX6_tellBit 107 = .ok (.goto 5, 3) := by decide +kernel
theorem dX6_tellBit_110 : decode cX6_tellBit 110 = .ok (.iload 4, 2) := by decide +kernel
theorem dX6_tellBit_112 : decode cX6_tellBit 112 = .ok (.istore 5, 2) := by decide +kernel
theorem dX6_tellBit_114 : decode cX6_tellBit 114 = .ok (.aload_n 0, 1) := by decide +kernel
theorem dX6_tellBit_115 : decode cX6_tellBit 115 = .ok (.getfield 12, 3) := by decide +kernel
theorem dX6_tellBit_118 : decode cX6_tellBit 118 = .ok (.iload_n 1, 1) := by decide +kernel
theorem dX6_tellBit_119 : decode cX6_tellBit 119 = .ok (.iload 5, 2) := by decide +kernel
theorem dX6_tellBit_121 : decode cX6_tellBit 121 = .ok (.invokevirtual 71, 3) := by decide +kernel
theorem dX6_tellBit_124 : decode cX6_tellBit 124 = .ok (.iconst 0, 1) := by decide +kernel
theorem dX6_tellBit_125 : decode cX6_tellBit 125 = .ok (.istore 6, 2) := by decide +kernel
theorem dX6_tellBit_127 : decode cX6_tellBit 127 = .ok (.iload 6, 2) := by decide +kernel
theorem dX6_tellBit_129 : decode cX6_tellBit 129 = .ok (.bipush 15, 2) := by decide +kernel
theorem dX6_tellBit_131 : decode cX6_tellBit 131 = .ok (.if_icmp .ge 65, 3) := by decide +kernel
theorem dX6_tellBit_134 : decode cX6_tellBit 134 = .ok (.aload_n 0, 1) := by decide +kernel
theorem dX6_tellBit_135 : decode cX6_tellBit 135 = .ok (.getfield 60, 3) := by decide +kernel
theorem dX6_tellBit_138 : decode cX6_tellBit 138 = .ok (.ldc 59, 2) := by decide +kernel
theorem dX6_tellBit_140 : decode cX6_tellBit 140 = .ok (.if_icmp .ge 56, 3) := by decide +kernel
theorem dX6_tellBit_143 : decode cX6_tellBit 143 = .ok (.aload_n 0, 1) := by decide +kernel
theorem dX6_tellBit_144 : decode cX6_tellBit 144 = .ok (.getfield 56, 3) := by decide +kernel
theorem dX6_tellBit_147 : decode cX6_tellBit 147 = .ok (.ifCond .ne 7, 3) := by decide +kernel
theorem dX6_tellBit_150 : decode cX6_tellBit 150 = .ok (.aload_n 0, 1) := by decide +kernel
theorem dX6_tellBit_151 : decode cX6_tellBit 151 = .ok (.invokevirtual 53, 3) := by decide +kernel
theorem dX6_tellBit_154 : decode cX6_tellBit 154 = .ok (.aload_n 0, 1) := by decide +kernel
theorem dX6_tellBit_155 : decode cX6_tellBit 155 = .ok (.dup, 1) := by decide +kernel
theorem dX6_tellBit_156 : decode cX6_tellBit 156 = .ok (.getfield 60, 3) := by decide +kernel
theorem dX6_tellBit_159 : decode cX6_tellBit 159 = .ok (.iconst 1, 1) := by decide +kernel
theorem dX6_tellBit_160 : decode cX6_tellBit 160 = .ok (.ishl, 1) := by decide +kernel
theorem dX6_tellBit_161 : decode cX6_tellBit 161 = .ok (.putfield 60, 3) := by decide +kernel
theorem dX6_tellBit_164 : decode cX6_tellBit 164 = .ok (.aload_n 0, 1) := by decide +kernel
theorem dX6_tellBit_165 : decode cX6_tellBit 165 = .ok (.aload_n 0, 1) := by decide +kernel
theorem dX6_tellBit_166 : decode cX6_tellBit 166 = .ok (.getfield 49, 3) := by decide +kernel
theorem dX6_tellBit_169 : decode cX6_tellBit 169 = .ok (.iconst 1, 1) := by decide +kernel
theorem dX6_tellBit_170 : decode cX6_tellBit 170 = .ok (.lshl, 1) := by decide +kernel
theorem dX6_tellBit_171 : decode cX6_tellBit 171 = .ok (.ldc2_w 75, 3) := by decide +kernel
theorem dX6_tellBit_174 : decode cX6_tellBit 174 = .ok (.invokestatic 77, 3) := by decide +kernel
theorem dX6_tellBit_177 : decode cX6_tellBit 177 = .ok (.putfield 49, 3) := by decide +kernel
theorem dX6_tellBit_180 : decode cX6_tellBit 180 = .ok (.aload_n 0, 1) := by decide +kernel
theorem dX6_tellBit_181 : decode cX6_tellBit 181 = .ok (.dup, 1) := by decide +kernel
theorem dX6_tellBit_182 : decode cX6_tellBit 182 = .ok (.getfield 56, 3) := by decide +kernel
theorem dX6_tellBit_185 : decode cX6_tellBit 185 = .ok (.iconst 1, 1) := by decide +kernel
theorem dX6_tellBit_186 : decode cX6_tellBit 186 = .ok (.isub, 1) := by decide +kernel
theorem dX6_tellBit_187 : decode cX6_tellBit 187 = .ok (.putfield 56, 3) := by decide +kernel
theorem dX6_tellBit_190 : decode cX6_tellBit 190 = .ok (.iinc 6 1, 3) := by decide +kernel
theorem dX6_tellBit_193 : decode cX6_tellBit 193 = .ok (.goto (-66), 3) := by decide +kernel
theorem dX6_tellBit_196 : decode cX6_tellBit 196 = .ok (.iload 5, 2) := by decide +kernel
theorem dX6_tellBit_198 : decode cX6_tellBit 198 = .ok (.ireturn, 1) := by decide +kernel
theorem dX7_init_0 : decode cX7_init 0 = .ok (.aload_n 0, 1) := by decide +kernel
theorem dX7_init_1 : decode cX7_init 1 = .ok (.invokespecial 3, 3) := by decide +kernel
theorem dX7_init_4 : decode cX7_init 4 = .ok (.aload_n 0, 1) := by decide +kernel
theorem dX7_init_5 : decode cX7_init 5 = .ok (.sipush 1024, 3) := by decide +kernel
theorem dX7_init_8 : decode cX7_init 8 = .ok (.newarray .int, 2) := by decide +kernel
theorem dX7_init_10 : decode cX7_init 10 = .ok (.putfield 9, 3) := by decide +kernel
theorem dX7_init_13 : decode cX7_init 13 = .ok (.aload_n 0, 1) := by decide +kernel
theorem dX7_init_14 : decode cX7_init 14 = .ok (.sipush 1024, 3) := by decide +kernel
theorem dX7_init_17 : decode cX7_init 17 = .ok (.newarray .int, 2) := by decide +kernel
theorem dX7_init_19 : decode cX7_init 19 = .ok (.putfield 15, 3) := by decide +kernel
theorem dX7_init_22 : decode cX7_init 22 = .ok (.aload_n 0, 1) := by decide +kernel
theorem dX7_init_23 : decode cX7_init 23 = .ok (.bipush 34, 2) := by decide +kernel
theorem dX7_init_25 : decode cX7_init 25 = .ok (.newarray .int, 2) := by decide +kernel
theorem dX7_init_27 : decode cX7_init 27 = .ok (.putfield 18, 3) := by decide +kernel
theorem dX7_init_30 : decode cX7_init 30 = .ok (.return_, 1) := by decide +kernel
theorem dX7_clear_0 : decode cX7_clear 0 = .ok (.aload_n 0, 1) := by decide +kernel
theorem dX7_clear_1 : decode cX7_clear 1 = .ok (.iconst 0, 1) := by decide +kernel
theorem dX7_clear_2 : decode cX7_clear 2 = .ok (.putfield 21, 3) := by decide +kernel
theorem dX7_clear_5 : decode cX7_clear 5 = .ok (.aload_n 0, 1) := by decide +kernel
theorem dX7_clear_6 : decode cX7_clear 6 = .ok (.iconst 0, 1) := by decide +kernel
theorem dX7_clear_7 : decode cX7_clear 7 = .ok (.putfield 25, 3) := by decide +kernel
theorem dX7_clear_10 : decode cX7_clear 10 = .ok (.return_, 1) := by decide +kernel
theorem dX7_tellBit_0 : decode cX7_tellBit 0 = .ok (.aload_n 0, 1) := by decide +kernel
theorem dX7_tellBit_1 : decode cX7_tellBit 1 = .ok (.getfield 21, 3) := by decide +kernel
theorem dX7_tellBit_4 : decode cX7_tellBit 4 = .ok (.sipush 1024, 3) := by decide +kernel
theorem dX7_tellBit_7 : decode cX7_tellBit 7 = .ok (.if_icmp .ge 33, 3) := by decide +kernel
theorem dX7_tellBit_10 : decode cX7_tellBit 10 = .ok (.aload_n 0, 1) := by decide +kernel
theorem dX7_tellBit_11 : decode cX7_tellBit 11 = .ok (.getfield 9, 3) := by decide +kernel
theorem dX7_tellBit_14 : decode cX7_tellBit 14 = .ok (.aload_n 0, 1) := by decide +kernel
theorem dX7_tellBit_15 : decode cX7_tellBit 15 = .ok (.getfield 21, 3) := by decide +kernel
theorem dX7_tellBit_18 : decode cX7_tellBit 18 = .ok (.iload_n 1, 1) := by decide +kernel
theorem dX7_tellBit_19 : decode cX7_tellBit 19 = .ok (.iastore, 1) := by decide +kernel
theorem dX7_tellBit_20 : decode cX7_tellBit 20 = .ok (.aload_n 0, 1) := by decide +kernel
theorem dX7_tellBit_21 : decode cX7_tellBit 21 = .ok (.getfield 15, 3) := by decide +kernel
theorem dX7_tellBit_24 : decode cX7_tellBit 24 = .ok (.aload_n 0, 1) := by decide +kernel
theorem dX7_tellBit_25 : decode cX7_tellBit 25 = .ok (.getfield 21, 3) := by decide +kernel
theorem dX7_tellBit_28 : decode cX7_tellBit 28 = .ok (.iload_n 2, 1) := by decide +kernel
theorem dX7_tellBit_29 : decode cX7_tellBit 29 = .ok (.iastore, 1) := by decide +kernel
theorem dX7_tellBit_30 : decode cX7_tellBit 30 = .ok (.aload_n 0, 1) := by decide +kernel
theorem dX7_tellBit_31 : decode cX7_tellBit 31 = .ok (.dup, 1) := by decide +kernel
theorem dX7_tellBit_32 : decode cX7_tellBit 32 = .ok (.getfield 21, 3) := by decide +kernel
theorem dX7_tellBit_35 : decode cX7_tellBit 35 = .ok (.iconst 1, 1) := by decide +kernel
theorem dX7_tellBit_36 : decode cX7_tellBit 36 = .ok (.iadd, 1) := by decide +kernel
theorem dX7_tellBit_37 : decode cX7_tellBit 37 = .ok (.putfield 21, 3) := by decide +kernel
theorem dX7_tellBit_40 : decode cX7_tellBit 40 = .ok (.iload_n 2, 1) := by decide +kernel
theorem dX7_tellBit_41 : decode cX7_tellBit 41 = .ok (.ireturn, 1) := by decide +kernel
theorem dX7_endPass_0 : decode cX7_endPass 0 = .ok (.aload_n 0, 1) := by decide +kernel
theorem dX7_endPass_1 : decode cX7_endPass 1 = .ok (.getfield 25, 3) := by decide +kernel
theorem dX7_endPass_4 : decode cX7_endPass 4 = .ok (.bipush 34, 2) := by decide +kernel
theorem dX7_endPass_6 : decode cX7_endPass 6 = .ok (.if_icmp .ge 26, 3) := by decide +kernel
theorem dX7_endPass_9 : decode cX7_endPass 9 = .ok (.aload_n 0, 1) := by decide +kernel
theorem dX7_endPass_10 : decode cX7_endPass 10 = .ok (.getfield 18, 3) := by decide +kernel
theorem dX7_endPass_13 : decode cX7_endPass 13 = .ok (.aload_n 0, 1) := by decide +kernel
theorem dX7_endPass_14 : decode cX7_endPass 14 = .ok (.getfield 25, 3) := by decide +kernel
theorem dX7_endPass_17 : decode cX7_endPass 17 = .ok (.aload_n 0, 1) := by decide +kernel
theorem dX7_endPass_18 : decode cX7_endPass 18 = .ok (.getfield 21, 3) := by decide +kernel
theorem dX7_endPass_21 : decode cX7_endPass 21 = .ok (.iastore, 1) := by decide +kernel
theorem dX7_endPass_22 : decode cX7_endPass 22 = .ok (.aload_n 0, 1) := by decide +kernel
theorem dX7_endPass_23 : decode cX7_endPass 23 = .ok (.dup, 1) := by decide +kernel
theorem dX7_endPass_24 : decode cX7_endPass 24 = .ok (.getfield 25, 3) := by decide +kernel
theorem dX7_endPass_27 : decode cX7_endPass 27 = .ok (.iconst 1, 1) := by decide +kernel
theorem dX7_endPass_28 : decode cX7_endPass 28 = .ok (.iadd, 1) := by decide +kernel
theorem dX7_endPass_29 : decode cX7_endPass 29 = .ok (.putfield 25, 3) := by decide +kernel
theorem dX7_endPass_32 : decode cX7_endPass 32 = .ok (.return_, 1) := by decide +kernel
theorem dX7_tellTo_0 : decode cX7_tellTo 0 = .ok (.iconst 0, 1) := by decide +kernel
theorem dX7_tellTo_1 : decode cX7_tellTo 1 = .ok (.istore_n 2, 1) := by decide +kernel
theorem dX7_tellTo_2 : decode cX7_tellTo 2 = .ok (.iload_n 2, 1) := by decide +kernel
theorem dX7_tellTo_3 : decode cX7_tellTo 3 = .ok (.aload_n 0, 1) := by decide +kernel
theorem dX7_tellTo_4 : decode cX7_tellTo 4 = .ok (.getfield 21, 3) := by decide +kernel
theorem dX7_tellTo_7 : decode cX7_tellTo 7 = .ok (.if_icmp .ge 25, 3) := by decide +kernel
theorem dX7_tellTo_10 : decode cX7_tellTo 10 = .ok (.aload_n 1, 1) := by decide +kernel
theorem dX7_tellTo_11 : decode cX7_tellTo 11 = .ok (.aload_n 0, 1) := by decide +kernel
theorem dX7_tellTo_12 : decode cX7_tellTo 12 = .ok (.getfield 9, 3) := by decide +kernel
theorem dX7_tellTo_15 : decode cX7_tellTo 15 = .ok (.iload_n 2, 1) := by decide +kernel
theorem dX7_tellTo_16 : decode cX7_tellTo 16 = .ok (.iaload, 1) := by decide +kernel
theorem dX7_tellTo_17 : decode cX7_tellTo 17 = .ok (.aload_n 0, 1) := by decide +kernel
theorem dX7_tellTo_18 : decode cX7_tellTo 18 = .ok (.getfield 15, 3) := by decide +kernel
theorem dX7_tellTo_21 : decode cX7_tellTo 21 = .ok (.iload_n 2, 1) := by decide +kernel
theorem dX7_tellTo_22 : decode cX7_tellTo 22 = .ok (.iaload, 1) := by decide +kernel
theorem dX7_tellTo_23 : decode cX7_tellTo 23 = .ok (.invokevirtual 28, 3) := by decide +kernel
theorem dX7_tellTo_26 : decode cX7_tellTo 26 = .ok (.iinc 2 1, 3) := by decide +kernel
theorem dX7_tellTo_29 : decode cX7_tellTo 29 = .ok (.goto (-27), 3) := by decide +kernel
theorem dX7_tellTo_32 : decode cX7_tellTo 32 = .ok (.return_, 1) := by decide +kernel
theorem dX7_passesReadRight_0 : decode cX7_passesReadRight 0 = .ok (.iconst 0, 1) := by decide +kernel
theorem dX7_passesReadRight_1 : decode cX7_passesReadRight 1 = .ok (.istore_n 2, 1) := by decide +kernel
theorem dX7_passesReadRight_2 : decode cX7_passesReadRight 2 = .ok (.iconst 0, 1) := by decide +kernel
theorem dX7_passesReadRight_3 : decode cX7_passesReadRight 3 = .ok (.istore_n 3, 1) := by decide +kernel
theorem dX7_passesReadRight_4 : decode cX7_passesReadRight 4 = .ok (.iload_n 3, 1) := by decide +kernel
theorem dX7_passesReadRight_5 : decode cX7_passesReadRight 5 = .ok (.aload_n 0, 1) := by decide +kernel
theorem dX7_passesReadRight_6 : decode cX7_passesReadRight 6 = .ok (.getfield 25, 3) := by decide +kernel
theorem dX7_passesReadRight_9 : decode cX7_passesReadRight 9 = .ok (.if_icmp .ge 47, 3) := by decide +kernel
theorem dX7_passesReadRight_12 : decode cX7_passesReadRight 12 = .ok (.iload_n 2, 1) := by decide +kernel
theorem dX7_passesReadRight_13 : decode cX7_passesReadRight 13 = .ok (.aload_n 0, 1) := by decide +kernel
theorem dX7_passesReadRight_14 : decode cX7_passesReadRight 14 = .ok (.getfield 18, 3) := by decide +kernel
theorem dX7_passesReadRight_17 : decode cX7_passesReadRight 17 = .ok (.iload_n 3, 1) := by decide +kernel
theorem dX7_passesReadRight_18 : decode cX7_passesReadRight 18 = .ok (.iaload, 1) := by decide +kernel
theorem dX7_passesReadRight_19 : decode cX7_passesReadRight 19 = .ok (.if_icmp .ge 31, 3) := by decide +kernel
theorem dX7_passesReadRight_22 : decode cX7_passesReadRight 22 = .ok (.aload_n 1, 1) := by decide +kernel
theorem dX7_passesReadRight_23 : decode cX7_passesReadRight 23 = .ok (.aload_n 0, 1) := by decide +kernel
theorem dX7_passesReadRight_24 : decode cX7_passesReadRight 24 = .ok (.getfield 9, 3) := by decide +kernel
theorem dX7_passesReadRight_27 : decode cX7_passesReadRight 27 = .ok (.iload_n 2, 1) := by decide +kernel
theorem dX7_passesReadRight_28 : decode cX7_passesReadRight 28 = .ok (.iaload, 1) := by decide +kernel
theorem dX7_passesReadRight_29 : decode cX7_passesReadRight 29 = .ok (.iconst 0, 1) := by decide +kernel
theorem dX7_passesReadRight_30 : decode cX7_passesReadRight 30 = .ok (.invokevirtual 34, 3) := by decide +kernel
theorem dX7_passesReadRight_33 : decode cX7_passesReadRight 33 = .ok (.aload_n 0, 1) := by decide +kernel
theorem dX7_passesReadRight_34 : decode cX7_passesReadRight 34 = .ok (.getfield 15, 3) := by decide +kernel
theorem dX7_passesReadRight_37 : decode cX7_passesReadRight 37 = .ok (.iload_n 2, 1) := by decide +kernel
theorem dX7_passesReadRight_38 : decode cX7_passesReadRight 38 = .ok (.iaload, 1) := by decide +kernel
theorem dX7_passesReadRight_39 : decode cX7_passesReadRight 39 = .ok (.if_icmp .eq 5, 3) := by decide +kernel
theorem dX7_passesReadRight_42 : decode cX7_passesReadRight 42 = .ok (.iload_n 3, 1) := by decide +kernel
theorem dX7_passesReadRight_43 : decode cX7_passesReadRight 43 = .ok (.ireturn, 1) := by decide +kernel
theorem dX7_passesReadRight_44 : decode cX7_passesReadRight 44 = .ok (.iinc 2 1, 3) := by decide +kernel
theorem dX7_passesReadRight_47 : decode cX7_passesReadRight 47 = .ok (.goto (-35), 3) := by decide +kernel
theorem dX7_passesReadRight_50 : decode cX7_passesReadRight 50 = .ok (.iinc 3 1, 3) := by decide +kernel
theorem dX7_passesReadRight_53 : decode cX7_passesReadRight 53 = .ok (.goto (-49), 3) := by decide +kernel
theorem dX7_passesReadRight_56 : decode cX7_passesReadRight 56 = .ok (.aload_n 0, 1) := by decide +kernel
theorem dX7_passesReadRight_57 : decode cX7_passesReadRight 57 = .ok (.getfield 25, 3) := by decide +kernel
theorem dX7_passesReadRight_60 : decode cX7_passesReadRight 60 = .ok (.ireturn, 1) := by decide +kernel
theorem dX8_init_0 : decode cX8_init 0 = .ok (.aload_n 0, 1) := by decide +kernel
theorem dX8_init_1 : decode cX8_init 1 = .ok (.invokespecial 3, 3) := by decide +kernel
theorem dX8_init_4 : decode cX8_init 4 = .ok (.aload_n 0, 1) := by decide +kernel
theorem dX8_init_5 : decode cX8_init 5 = .ok (.new 9, 3) := by decide +kernel
theorem dX8_init_8 : decode cX8_init 8 = .ok (.dup, 1) := by decide +kernel
theorem dX8_init_9 : decode cX8_init 9 = .ok (.invokespecial 11, 3) := by decide +kernel
theorem dX8_init_12 : decode cX8_init 12 = .ok (.putfield 12, 3) := by decide +kernel
theorem dX8_init_15 : decode cX8_init 15 = .ok (.aload_n 0, 1) := by decide +kernel
theorem dX8_init_16 : decode cX8_init 16 = .ok (.sipush 1024, 3) := by decide +kernel
theorem dX8_init_19 : decode cX8_init 19 = .ok (.newarray .int, 2) := by decide +kernel
theorem dX8_init_21 : decode cX8_init 21 = .ok (.putfield 18, 3) := by decide +kernel
theorem dX8_init_24 : decode cX8_init 24 = .ok (.return_, 1) := by decide +kernel
theorem dX8_begin_0 : decode cX8_begin 0 = .ok (.aload_n 0, 1) := by decide +kernel
theorem dX8_begin_1 : decode cX8_begin 1 = .ok (.getfield 12, 3) := by decide +kernel
theorem dX8_begin_4 : decode cX8_begin 4 = .ok (.invokevirtual 22, 3) := by decide +kernel
theorem dX8_begin_7 : decode cX8_begin 7 = .ok (.aload_n 0, 1) := by decide +kernel

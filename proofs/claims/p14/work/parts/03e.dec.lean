theorem dX12_code_28 : decode cX12_code 28 = .ok (.iload_n 3, 1) := by decide +kernel
theorem dX12_code_29 : decode cX12_code 29 = .ok (.ireturn, 1) := by decide +kernel
theorem dX12_code_30 : decode cX12_code 30 = .ok (.aload_n 0, 1) := by decide +kernel
theorem dX12_code_31 : decode cX12_code 31 = .ok (.aload_n 0, 1) := by decide +kernel
theorem dX12_code_32 : decode cX12_code 32 = .ok (.getfield 227, 3) := by decide +kernel
theorem dX12_code_35 : decode cX12_code 35 = .ok (.ifCond .ne 8, 3) := by decide +kernel
theorem dX12_code_38 : decode cX12_code 38 = .ok (.iload_n 3, 1) := by decide +kernel
theorem dX12_code_39 : decode cX12_code 39 = .ok (.iload_n 2, 1) := by decide +kernel
theorem dX12_code_40 : decode cX12_code 40 = .ok (.if_icmp .eq 7, 3) := by decide +kernel
theorem dX12_code_43 : decode cX12_code 43 = .ok (.iconst 1, 1) := by decide +kernel
theorem dX12_code_44 : decode cX12_code 44 = .ok (.goto 4, 3) := by decide +kernel
theorem dX12_code_47 : decode cX12_code 47 = .ok (.iconst 0, 1) := by decide +kernel
theorem dX12_code_48 : decode cX12_code 48 = .ok (.putfield 227, 3) := by decide +kernel
theorem dX12_code_51 : decode cX12_code 51 = .ok (.iload_n 2, 1) := by decide +kernel
theorem dX12_code_52 : decode cX12_code 52 = .ok (.ireturn, 1) := by decide +kernel
theorem dX12_spot_0 : decode cX12_spot 0 = .ok (.bipush 10, 2) := by decide +kernel
theorem dX12_spot_2 : decode cX12_spot 2 = .ok (.iload_n 1, 1) := by decide +kernel
theorem dX12_spot_3 : decode cX12_spot 3 = .ok (.imul, 1) := by decide +kernel
theorem dX12_spot_4 : decode cX12_spot 4 = .ok (.iload_n 0, 1) := by decide +kernel
theorem dX12_spot_5 : decode cX12_spot 5 = .ok (.iadd, 1) := by decide +kernel
theorem dX12_spot_6 : decode cX12_spot 6 = .ok (.bipush 11, 2) := by decide +kernel
theorem dX12_spot_8 : decode cX12_spot 8 = .ok (.iadd, 1) := by decide +kernel
theorem dX12_spot_9 : decode cX12_spot 9 = .ok (.ireturn, 1) := by decide +kernel
theorem dX12_here_0 : decode cX12_here 0 = .ok (.aload_n 0, 1) := by decide +kernel
theorem dX12_here_1 : decode cX12_here 1 = .ok (.getfield 75, 3) := by decide +kernel
theorem dX12_here_4 : decode cX12_here 4 = .ok (.iload_n 1, 1) := by decide +kernel
theorem dX12_here_5 : decode cX12_here 5 = .ok (.iaload, 1) := by decide +kernel
theorem dX12_here_6 : decode cX12_here 6 = .ok (.ifCond .ne 7, 3) := by decide +kernel
theorem dX12_here_9 : decode cX12_here 9 = .ok (.iconst 0, 1) := by decide +kernel
theorem dX12_here_10 : decode cX12_here 10 = .ok (.goto 4, 3) := by decide +kernel
theorem dX12_here_13 : decode cX12_here 13 = .ok (.iconst 1, 1) := by decide +kernel
theorem dX12_here_14 : decode cX12_here 14 = .ok (.ireturn, 1) := by decide +kernel
theorem dX12_inRow_0 : decode cX12_inRow 0 = .ok (.aload_n 0, 1) := by decide +kernel
theorem dX12_inRow_1 : decode cX12_inRow 1 = .ok (.iload_n 1, 1) := by decide +kernel
theorem dX12_inRow_2 : decode cX12_inRow 2 = .ok (.iconst 1, 1) := by decide +kernel
theorem dX12_inRow_3 : decode cX12_inRow 3 = .ok (.isub, 1) := by decide +kernel
theorem dX12_inRow_4 : decode cX12_inRow 4 = .ok (.invokevirtual 231, 3) := by decide +kernel
theorem dX12_inRow_7 : decode cX12_inRow 7 = .ok (.aload_n 0, 1) := by decide +kernel
theorem dX12_inRow_8 : decode cX12_inRow 8 = .ok (.iload_n 1, 1) := by decide +kernel
theorem dX12_inRow_9 : decode cX12_inRow 9 = .ok (.iconst 1, 1) := by decide +kernel
theorem dX12_inRow_10 : decode cX12_inRow 10 = .ok (.iadd, 1) := by decide +kernel
theorem dX12_inRow_11 : decode cX12_inRow 11 = .ok (.invokevirtual 231, 3) := by decide +kernel
theorem dX12_inRow_14 : decode cX12_inRow 14 = .ok (.iadd, 1) := by decide +kernel
theorem dX12_inRow_15 : decode cX12_inRow 15 = .ok (.ireturn, 1) := by decide +kernel
theorem dX12_inColumn_0 : decode cX12_inColumn 0 = .ok (.aload_n 0, 1) := by decide +kernel
theorem dX12_inColumn_1 : decode cX12_inColumn 1 = .ok (.iload_n 1, 1) := by decide +kernel
theorem dX12_inColumn_2 : decode cX12_inColumn 2 = .ok (.bipush 10, 2) := by decide +kernel
theorem dX12_inColumn_4 : decode cX12_inColumn 4 = .ok (.isub, 1) := by decide +kernel
theorem dX12_inColumn_5 : decode cX12_inColumn 5 = .ok (.invokevirtual 231, 3) := by decide +kernel
theorem dX12_inColumn_8 : decode cX12_inColumn 8 = .ok (.aload_n 0, 1) := by decide +kernel
theorem dX12_inColumn_9 : decode cX12_inColumn 9 = .ok (.iload_n 1, 1) := by decide +kernel
theorem dX12_inColumn_10 : decode cX12_inColumn 10 = .ok (.bipush 10, 2) := by decide +kernel
theorem dX12_inColumn_12 : decode cX12_inColumn 12 = .ok (.iadd, 1) := by decide +kernel
theorem dX12_inColumn_13 : decode cX12_inColumn 13 = .ok (.invokevirtual 231, 3) := by decide +kernel
theorem dX12_inColumn_16 : decode cX12_inColumn 16 = .ok (.iadd, 1) := by decide +kernel
theorem dX12_inColumn_17 : decode cX12_inColumn 17 = .ok (.ireturn, 1) := by decide +kernel
theorem dX12_acrossOf_0 : decode cX12_acrossOf 0 = .ok (.aload_n 0, 1) := by decide +kernel
theorem dX12_acrossOf_1 : decode cX12_acrossOf 1 = .ok (.iload_n 1, 1) := by decide +kernel
theorem dX12_acrossOf_2 : decode cX12_acrossOf 2 = .ok (.bipush 11, 2) := by decide +kernel
theorem dX12_acrossOf_4 : decode cX12_acrossOf 4 = .ok (.isub, 1) := by decide +kernel
theorem dX12_acrossOf_5 : decode cX12_acrossOf 5 = .ok (.invokevirtual 231, 3) := by decide +kernel
theorem dX12_acrossOf_8 : decode cX12_acrossOf 8 = .ok (.aload_n 0, 1) := by decide +kernel
theorem dX12_acrossOf_9 : decode cX12_acrossOf 9 = .ok (.iload_n 1, 1) := by decide +kernel
theorem dX12_acrossOf_10 : decode cX12_acrossOf 10 = .ok (.bipush 9, 2) := by decide +kernel
theorem dX12_acrossOf_12 : decode cX12_acrossOf 12 = .ok (.isub, 1) := by decide +kernel
theorem dX12_acrossOf_13 : decode cX12_acrossOf 13 = .ok (.invokevirtual 231, 3) := by decide +kernel
theorem dX12_acrossOf_16 : decode cX12_acrossOf 16 = .ok (.iadd, 1) := by decide +kernel
theorem dX12_acrossOf_17 : decode cX12_acrossOf 17 = .ok (.aload_n 0, 1) := by decide +kernel
theorem dX12_acrossOf_18 : decode cX12_acrossOf 18 = .ok (.iload_n 1, 1) := by decide +kernel
theorem dX12_acrossOf_19 : decode cX12_acrossOf 19 = .ok (.bipush 9, 2) := by decide +kernel
theorem dX12_acrossOf_21 : decode cX12_acrossOf 21 = .ok (.iadd, 1) := by decide +kernel
theorem dX12_acrossOf_22 : decode cX12_acrossOf 22 = .ok (.invokevirtual 231, 3) := by decide +kernel
theorem dX12_acrossOf_25 : decode cX12_acrossOf 25 = .ok (.iadd, 1) := by decide +kernel
theorem dX12_acrossOf_26 : decode cX12_acrossOf 26 = .ok (.aload_n 0, 1) := by decide +kernel
theorem dX12_acrossOf_27 : decode cX12_acrossOf 27 = .ok (.iload_n 1, 1) := by decide +kernel
theorem dX12_acrossOf_28 : decode cX12_acrossOf 28 = .ok (.bipush 11, 2) := by decide +kernel
theorem dX12_acrossOf_30 : decode cX12_acrossOf 30 = .ok (.iadd, 1) := by decide +kernel
theorem dX12_acrossOf_31 : decode cX12_acrossOf 31 = .ok (.invokevirtual 231, 3) := by decide +kernel
theorem dX12_acrossOf_34 : decode cX12_acrossOf 34 = .ok (.iadd, 1) := by decide +kernel
theorem dX12_acrossOf_35 : decode cX12_acrossOf 35 = .ok (.ireturn, 1) := by decide +kernel
theorem dX12_context_0 : decode cX12_context 0 = .ok (.iload_n 1, 1) := by decide +kernel
theorem dX12_context_1 : decode cX12_context 1 = .ok (.iload_n 2, 1) := by decide +kernel
theorem dX12_context_2 : decode cX12_context 2 = .ok (.invokestatic 234, 3) := by decide +kernel
theorem dX12_context_5 : decode cX12_context 5 = .ok (.istore_n 3, 1) := by decide +kernel
theorem dX12_context_6 : decode cX12_context 6 = .ok (.aload_n 0, 1) := by decide +kernel
theorem dX12_context_7 : decode cX12_context 7 = .ok (.iload_n 3, 1) := by decide +kernel
theorem dX12_context_8 : decode cX12_context 8 = .ok (.invokevirtual 237, 3) := by decide +kernel
theorem dX12_context_11 : decode cX12_context 11 = .ok (.istore 4, 2) := by decide +kernel
theorem dX12_context_13 : decode cX12_context 13 = .ok (.aload_n 0, 1) := by decide +kernel
theorem dX12_context_14 : decode cX12_context 14 = .ok (.iload_n 3, 1) := by decide +kernel
theorem dX12_context_15 : decode cX12_context 15 = .ok (.invokevirtual 240, 3) := by decide +kernel
theorem dX12_context_18 : decode cX12_context 18 = .ok (.istore 5, 2) := by decide +kernel
theorem dX12_context_20 : decode cX12_context 20 = .ok (.aload_n 0, 1) := by decide +kernel
theorem dX12_context_21 : decode cX12_context 21 = .ok (.iload_n 3, 1) := by decide +kernel
theorem dX12_context_22 : decode cX12_context 22 = .ok (.invokevirtual 243, 3) := by decide +kernel
theorem dX12_context_25 : decode cX12_context 25 = .ok (.istore 6, 2) := by decide +kernel
theorem dX12_context_27 : decode cX12_context 27 = .ok (.aload_n 0, 1) := by decide +kernel
theorem dX12_context_28 : decode cX12_context 28 = .ok (.getfield 41, 3) := by decide +kernel
theorem dX12_context_31 : decode cX12_context 31 = .ok (.aload_n 0, 1) := by decide +kernel
theorem dX12_context_32 : decode cX12_context 32 = .ok (.getfield 246, 3) := by decide +kernel
theorem dX12_context_35 : decode cX12_context 35 = .ok (.iaload, 1) := by decide +kernel
theorem dX12_context_36 : decode cX12_context 36 = .ok (.iconst 2, 1) := by decide +kernel
theorem dX12_context_37 : decode cX12_context 37 = .ok (.if_icmp .ne 63, 3) := by decide +kernel
theorem dX12_context_40 : decode cX12_context 40 = .ok (.iload 4, 2) := by decide +kernel
theorem dX12_context_42 : decode cX12_context 42 = .ok (.iload 5, 2) := by decide +kernel
theorem dX12_context_44 : decode cX12_context 44 = .ok (.iadd, 1) := by decide +kernel
theorem dX12_context_45 : decode cX12_context 45 = .ok (.iconst 2, 1) := by decide +kernel
theorem dX12_context_46 : decode cX12_context 46 = .ok (.if_icmp .le 7, 3) := by decide +kernel
theorem dX12_context_49 : decode cX12_context 49 = .ok (.iconst 2, 1) := by decide +kernel
theorem dX12_context_50 : decode cX12_context 50 = .ok (.goto 8, 3) := by decide +kernel
theorem dX12_context_53 : decode cX12_context 53 = .ok (.iload 4, 2) := by decide +kernel
theorem dX12_context_55 : decode cX12_context 55 = .ok (.iload 5, 2) := by decide +kernel
theorem dX12_context_57 : decode cX12_context 57 = .ok (.iadd, 1) := by decide +kernel
theorem dX12_context_58 : decode cX12_context 58 = .ok (.istore 7, 2) := by decide +kernel
theorem dX12_context_60 : decode cX12_context 60 = .ok (.iload 6, 2) := by decide +kernel
theorem dX12_context_62 : decode cX12_context 62 = .ok (.iconst 2, 1) := by decide +kernel
theorem dX12_context_63 : decode cX12_context 63 = .ok (.if_icmp .le 8, 3) := by decide +kernel
theorem dX12_context_66 : decode cX12_context 66 = .ok (.bipush 8, 2) := by decide +kernel
theorem dX12_context_68 : decode cX12_context 68 = .ok (.goto 31, 3) := by decide +kernel
theorem dX12_context_71 : decode cX12_context 71 = .ok (.iload 6, 2) := by decide +kernel
theorem dX12_context_73 : decode cX12_context 73 = .ok (.iconst 2, 1) := by decide +kernel
theorem dX12_context_74 : decode cX12_context 74 = .ok (.if_icmp .ne 18, 3) := by decide +kernel
theorem dX12_context_77 : decode cX12_context 77 = .ok (.iload 7, 2) := by decide +kernel
theorem dX12_context_79 : decode cX12_context 79 = .ok (.ifCond .le 8, 3) := by decide +kernel
theorem dX12_context_82 : decode cX12_context 82 = .ok (.bipush 7, 2) := by decide +kernel
theorem dX12_context_84 : decode cX12_context 84 = .ok (.goto 15, 3) := by decide +kernel
theorem dX12_context_87 : decode cX12_context 87 = .ok (.bipush 6, 2) := by decide +kernel
theorem dX12_context_89 : decode cX12_context 89 = .ok (.goto 10, 3) := by decide +kernel
theorem dX12_context_92 : decode cX12_context 92 = .ok (.iconst 3, 1) := by decide +kernel
theorem dX12_context_93 : decode cX12_context 93 = .ok (.iload 6, 2) := by decide +kernel
theorem dX12_context_95 : decode cX12_context 95 = .ok (.imul, 1) := by decide +kernel
theorem dX12_context_96 : decode cX12_context 96 = .ok (.iload 7, 2) := by decide +kernel
theorem dX12_context_98 : decode cX12_context 98 = .ok (.iadd, 1) := by decide +kernel
theorem dX12_context_99 : decode cX12_context 99 = .ok (.ireturn, 1) := by decide +kernel
theorem dX12_context_100 : decode cX12_context 100 = .ok (.aload_n 0, 1) := by decide +kernel
theorem dX12_context_101 : decode cX12_context 101 = .ok (.getfield 41, 3) := by decide +kernel
theorem dX12_context_104 : decode cX12_context 104 = .ok (.aload_n 0, 1) := by decide +kernel
theorem dX12_context_105 : decode cX12_context 105 = .ok (.getfield 246, 3) := by decide +kernel
theorem dX12_context_108 : decode cX12_context 108 = .ok (.iaload, 1) := by decide +kernel
theorem dX12_context_109 : decode cX12_context 109 = .ok (.iconst 1, 1) := by decide +kernel
theorem dX12_context_110 : decode cX12_context 110 = .ok (.if_icmp .ne 15, 3) := by decide +kernel
theorem dX12_context_113 : decode cX12_context 113 = .ok (.iload 4, 2) := by decide +kernel
theorem dX12_context_115 : decode cX12_context 115 = .ok (.istore 7, 2) := by decide +kernel
theorem dX12_context_117 : decode cX12_context 117 = .ok (.iload 5, 2) := by decide +kernel
theorem dX12_context_119 : decode cX12_context 119 = .ok (.istore 4, 2) := by decide +kernel
theorem dX12_context_121 : decode cX12_context 121 = .ok (.iload 7, 2) := by decide +kernel
theorem dX12_context_123 : decode cX12_context 123 = .ok (.istore 5, 2) := by decide +kernel
theorem dX12_context_125 : decode cX12_context 125 = .ok (.iload 4, 2) := by decide +kernel
theorem dX12_context_127 : decode cX12_context 127 = .ok (.iconst 2, 1) := by decide +kernel
theorem dX12_context_128 : decode cX12_context 128 = .ok (.if_icmp .ne 8, 3) := by decide +kernel
theorem dX12_context_131 : decode cX12_context 131 = .ok (.bipush 8, 2) := by decide +kernel
theorem dX12_context_133 : decode cX12_context 133 = .ok (.goto 65, 3) := by decide +kernel
theorem dX12_context_136 : decode cX12_context 136 = .ok (.iload 4, 2) := by decide +kernel
theorem dX12_context_138 : decode cX12_context 138 = .ok (.iconst 1, 1) := by decide +kernel
theorem dX12_context_139 : decode cX12_context 139 = .ok (.if_icmp .ne 27, 3) := by decide +kernel
theorem dX12_context_142 : decode cX12_context 142 = .ok (.iload 5, 2) := by decide +kernel
theorem dX12_context_144 : decode cX12_context 144 = .ok (.ifCond .le 8, 3) := by decide +kernel
theorem dX12_context_147 : decode cX12_context 147 = .ok (.bipush 7, 2) := by decide +kernel
theorem dX12_context_149 : decode cX12_context 149 = .ok (.goto 49, 3) := by decide +kernel
theorem dX12_context_152 : decode cX12_context 152 = .ok (.iload 6, 2) := by decide +kernel
theorem dX12_context_154 : decode cX12_context 154 = .ok (.ifCond .le 8, 3) := by decide +kernel
theorem dX12_context_157 : decode cX12_context 157 = .ok (.bipush 6, 2) := by decide +kernel
theorem dX12_context_159 : decode cX12_context 159 = .ok (.goto 39, 3) := by decide +kernel
theorem dX12_context_162 : decode cX12_context 162 = .ok (.iconst 5, 1) := by decide +kernel
theorem dX12_context_163 : decode cX12_context 163 = .ok (.goto 35, 3) := by decide +kernel
theorem dX12_context_166 : decode cX12_context 166 = .ok (.iload 5, 2) := by decide +kernel
theorem dX12_context_168 : decode cX12_context 168 = .ok (.iconst 2, 1) := by decide +kernel
theorem dX12_context_169 : decode cX12_context 169 = .ok (.if_icmp .ne 7, 3) := by decide +kernel
theorem dX12_context_172 : decode cX12_context 172 = .ok (.iconst 4, 1) := by decide +kernel
theorem dX12_context_173 : decode cX12_context 173 = .ok (.goto 25, 3) := by decide +kernel
theorem dX12_context_176 : decode cX12_context 176 = .ok (.iload 5, 2) := by decide +kernel
theorem dX12_context_178 : decode cX12_context 178 = .ok (.iconst 1, 1) := by decide +kernel
theorem dX12_context_179 : decode cX12_context 179 = .ok (.if_icmp .ne 7, 3) := by decide +kernel
theorem dX12_context_182 : decode cX12_context 182 = .ok (.iconst 3, 1) := by decide +kernel
theorem dX12_context_183 : decode cX12_context 183 = .ok (.goto 15, 3) := by decide +kernel
theorem dX12_context_186 : decode cX12_context 186 = .ok (.iload 6, 2) := by decide +kernel
theorem dX12_context_188 : decode cX12_context 188 = .ok (.iconst 1, 1) := by decide +kernel
theorem dX12_context_189 : decode cX12_context 189 = .ok (.if_icmp .le 7, 3) := by decide +kernel
theorem dX12_context_192 : decode cX12_context 192 = .ok (.iconst 2, 1) := by decide +kernel
theorem dX12_context_193 : decode cX12_context 193 = .ok (.goto 5, 3) := by decide +kernel
theorem dX12_context_196 : decode cX12_context 196 = .ok (.iload 6, 2) := by decide +kernel
theorem dX12_context_198 : decode cX12_context 198 = .ok (.ireturn, 1) := by decide +kernel
theorem dX12_unit_0 : decode cX12_unit 0 = .ok (.iload_n 0, 1) := by decide +kernel
theorem dX12_unit_1 : decode cX12_unit 1 = .ok (.ifCond .le 7, 3) := by decide +kernel
theorem dX12_unit_4 : decode cX12_unit 4 = .ok (.iconst 1, 1) := by decide +kernel
theorem dX12_unit_5 : decode cX12_unit 5 = .ok (.goto 12, 3) := by decide +kernel
theorem dX12_unit_8 : decode cX12_unit 8 = .ok (.iload_n 0, 1) := by decide +kernel
theorem dX12_unit_9 : decode cX12_unit 9 = .ok (.ifCond .ge 7, 3) := by decide +kernel
theorem dX12_unit_12 : decode cX12_unit 12 = .ok (.iconst (-1), 1) := by decide +kernel
theorem dX12_unit_13 : decode cX12_unit 13 = .ok (.goto 4, 3) := by decide +kernel
theorem dX12_unit_16 : decode cX12_unit 16 = .ok (.iconst 0, 1) := by decide +kernel
theorem dX12_unit_17 : decode cX12_unit 17 = .ok (.ireturn, 1) := by decide +kernel
theorem dX12_cell_0 : decode cX12_cell 0 = .ok (.bipush 64, 2) := by decide +kernel
theorem dX12_cell_2 : decode cX12_cell 2 = .ok (.aload_n 0, 1) := by decide +kernel
theorem dX12_cell_3 : decode cX12_cell 3 = .ok (.getfield 246, 3) := by decide +kernel
theorem dX12_cell_6 : decode cX12_cell 6 = .ok (.imul, 1) := by decide +kernel
theorem dX12_cell_7 : decode cX12_cell 7 = .ok (.bipush 8, 2) := by decide +kernel
theorem dX12_cell_9 : decode cX12_cell 9 = .ok (.iload_n 2, 1) := by decide +kernel
theorem dX12_cell_10 : decode cX12_cell 10 = .ok (.imul, 1) := by decide +kernel
theorem dX12_cell_11 : decode cX12_cell 11 = .ok (.iadd, 1) := by decide +kernel
theorem dX12_cell_12 : decode cX12_cell 12 = .ok (.iload_n 1, 1) := by decide +kernel
theorem dX12_cell_13 : decode cX12_cell 13 = .ok (.iadd, 1) := by decide +kernel
theorem dX12_cell_14 : decode cX12_cell 14 = .ok (.ireturn, 1) := by decide +kernel
theorem dX12_bitAt_0 : decode cX12_bitAt 0 = .ok (.aload_n 0, 1) := by decide +kernel
theorem dX12_bitAt_1 : decode cX12_bitAt 1 = .ok (.getfield 47, 3) := by decide +kernel
theorem dX12_bitAt_4 : decode cX12_bitAt 4 = .ok (.aload_n 0, 1) := by decide +kernel
theorem dX12_bitAt_5 : decode cX12_bitAt 5 = .ok (.iload_n 1, 1) := by decide +kernel
theorem dX12_bitAt_6 : decode cX12_bitAt 6 = .ok (.iload_n 2, 1) := by decide +kernel
theorem dX12_bitAt_7 : decode cX12_bitAt 7 = .ok (.invokevirtual 249, 3) := by decide +kernel
theorem dX12_bitAt_10 : decode cX12_bitAt 10 = .ok (.iaload, 1) := by decide +kernel
theorem dX12_bitAt_11 : decode cX12_bitAt 11 = .ok (.aload_n 0, 1) := by decide +kernel
theorem dX12_bitAt_12 : decode cX12_bitAt 12 = .ok (.getfield 252, 3) := by decide +kernel
theorem dX12_bitAt_15 : decode cX12_bitAt 15 = .ok (.ishr, 1) := by decide +kernel
theorem dX12_bitAt_16 : decode cX12_bitAt 16 = .ok (.iconst 1, 1) := by decide +kernel
theorem dX12_bitAt_17 : decode cX12_bitAt 17 = .ok (.iand, 1) := by decide +kernel
theorem dX12_bitAt_18 : decode cX12_bitAt 18 = .ok (.ireturn, 1) := by decide +kernel
theorem dX12_wake_0 : decode cX12_wake 0 = .ok (.iload_n 1, 1) := by decide +kernel
theorem dX12_wake_1 : decode cX12_wake 1 = .ok (.iload_n 2, 1) := by decide +kernel
theorem dX12_wake_2 : decode cX12_wake 2 = .ok (.invokestatic 234, 3) := by decide +kernel
theorem dX12_wake_5 : decode cX12_wake 5 = .ok (.istore_n 3, 1) := by decide +kernel
theorem dX12_wake_6 : decode cX12_wake 6 = .ok (.aload_n 0, 1) := by decide +kernel
theorem dX12_wake_7 : decode cX12_wake 7 = .ok (.getfield 75, 3) := by decide +kernel
theorem dX12_wake_10 : decode cX12_wake 10 = .ok (.iload_n 3, 1) := by decide +kernel
theorem dX12_wake_11 : decode cX12_wake 11 = .ok (.iconst 1, 1) := by decide +kernel
theorem dX12_wake_12 : decode cX12_wake 12 = .ok (.isub, 1) := by decide +kernel
theorem dX12_wake_13 : decode cX12_wake 13 = .ok (.iaload, 1) := by decide +kernel
theorem dX12_wake_14 : decode cX12_wake 14 = .ok (.aload_n 0, 1) := by decide +kernel
theorem dX12_wake_15 : decode cX12_wake 15 = .ok (.getfield 75, 3) := by decide +kernel
theorem dX12_wake_18 : decode cX12_wake 18 = .ok (.iload_n 3, 1) := by decide +kernel
theorem dX12_wake_19 : decode cX12_wake 19 = .ok (.iconst 1, 1) := by decide +kernel
theorem dX12_wake_20 : decode cX12_wake 20 = .ok (.iadd, 1) := by decide +kernel
theorem dX12_wake_21 : decode cX12_wake 21 = .ok (.iaload, 1) := by decide +kernel
theorem dX12_wake_22 : decode cX12_wake 22 = .ok (.iadd, 1) := by decide +kernel
theorem dX12_wake_23 : decode cX12_wake 23 = .ok (.invokestatic 255, 3) := by decide +kernel
theorem dX12_wake_26 : decode cX12_wake 26 = .ok (.istore 4, 2) := by decide +kernel
theorem dX12_wake_28 : decode cX12_wake 28 = .ok (.aload_n 0, 1) := by decide +kernel
theorem dX12_wake_29 : decode cX12_wake 29 = .ok (.getfield 75, 3) := by decide +kernel
theorem dX12_wake_32 : decode cX12_wake 32 = .ok (.iload_n 3, 1) := by decide +kernel
theorem dX12_wake_33 : decode cX12_wake 33 = .ok (.bipush 10, 2) := by decide +kernel
theorem dX12_wake_35 : decode cX12_wake 35 = .ok (.isub, 1) := by decide +kernel
theorem dX12_wake_36 : decode cX12_wake 36 = .ok (.iaload, 1) := by decide +kernel
theorem dX12_wake_37 : decode cX12_wake 37 = .ok (.aload_n 0, 1) := by decide +kernel
theorem dX12_wake_38 : decode cX12_wake 38 = .ok (.getfield 75, 3) := by decide +kernel
theorem dX12_wake_41 : decode cX12_wake 41 = .ok (.iload_n 3, 1) := by decide +kernel
theorem dX12_wake_42 : decode cX12_wake 42 = .ok (.bipush 10, 2) := by decide +kernel
theorem dX12_wake_44 : decode cX12_wake 44 = .ok (.iadd, 1) := by decide +kernel
theorem dX12_wake_45 : decode cX12_wake 45 = .ok (.iaload, 1) := by decide +kernel
theorem dX12_wake_46 : decode cX12_wake 46 = .ok (.iadd, 1) := by decide +kernel
theorem dX12_wake_47 : decode cX12_wake 47 = .ok (.invokestatic 255, 3) := by decide +kernel
theorem dX12_wake_50 : decode cX12_wake 50 = .ok (.istore 5, 2) := by decide +kernel
theorem dX12_wake_52 : decode cX12_wake 52 = .ok (.iload 4, 2) := by decide +kernel
theorem dX12_wake_54 : decode cX12_wake 54 = .ok (.ifCond .lt 13, 3) := by decide +kernel
theorem dX12_wake_57 : decode cX12_wake 57 = .ok (.iload 4, 2) := by decide +kernel
theorem dX12_wake_59 : decode cX12_wake 59 = .ok (.ifCond .ne 12, 3) := by decide +kernel
theorem dX12_wake_62 : decode cX12_wake 62 = .ok (.iload 5, 2) := by decide +kernel
theorem dX12_wake_64 : decode cX12_wake 64 = .ok (.ifCond .ge 7, 3) := by decide +kernel
theorem dX12_wake_67 : decode cX12_wake 67 = .ok (.iconst 1, 1) := by decide +kernel
theorem dX12_wake_68 : decode cX12_wake 68 = .ok (.goto 4, 3) := by decide +kernel
theorem dX12_wake_71 : decode cX12_wake 71 = .ok (.iconst 0, 1) := by decide +kernel
theorem dX12_wake_72 : decode cX12_wake 72 = .ok (.istore 6, 2) := by decide +kernel
theorem dX12_wake_74 : decode cX12_wake 74 = .ok (.bipush 9, 2) := by decide +kernel
theorem dX12_wake_76 : decode cX12_wake 76 = .ok (.iload 6, 2) := by decide +kernel
theorem dX12_wake_78 : decode cX12_wake 78 = .ok (.ifCond .eq 14, 3) := by decide +kernel
theorem dX12_wake_81 : decode cX12_wake 81 = .ok (.bipush (-3), 2) := by decide +kernel
theorem dX12_wake_83 : decode cX12_wake 83 = .ok (.iload 4, 2) := by decide +kernel
theorem dX12_wake_85 : decode cX12_wake 85 = .ok (.imul, 1) := by decide +kernel
theorem dX12_wake_86 : decode cX12_wake 86 = .ok (.iload 5, 2) := by decide +kernel
theorem dX12_wake_88 : decode cX12_wake 88 = .ok (.isub, 1) := by decide +kernel
theorem dX12_wake_89 : decode cX12_wake 89 = .ok (.goto 10, 3) := by decide +kernel
theorem dX12_wake_92 : decode cX12_wake 92 = .ok (.iconst 3, 1) := by decide +kernel
theorem dX12_wake_93 : decode cX12_wake 93 = .ok (.iload 4, 2) := by decide +kernel
theorem dX12_wake_95 : decode cX12_wake 95 = .ok (.imul, 1) := by decide +kernel
theorem dX12_wake_96 : decode cX12_wake 96 = .ok (.iload 5, 2) := by decide +kernel
theorem dX12_wake_98 : decode cX12_wake 98 = .ok (.iadd, 1) := by decide +kernel
theorem dX12_wake_99 : decode cX12_wake 99 = .ok (.iadd, 1) := by decide +kernel
theorem dX12_wake_100 : decode cX12_wake 100 = .ok (.istore 7, 2) := by decide +kernel
theorem dX12_wake_102 : decode cX12_wake 102 = .ok (.aload_n 0, 1) := by decide +kernel
theorem dX12_wake_103 : decode cX12_wake 103 = .ok (.getfield 50, 3) := by decide +kernel
theorem dX12_wake_106 : decode cX12_wake 106 = .ok (.aload_n 0, 1) := by decide +kernel
theorem dX12_wake_107 : decode cX12_wake 107 = .ok (.iload_n 1, 1) := by decide +kernel
theorem dX12_wake_108 : decode cX12_wake 108 = .ok (.iload_n 2, 1) := by decide +kernel
theorem dX12_wake_109 : decode cX12_wake 109 = .ok (.invokevirtual 249, 3) := by decide +kernel
theorem dX12_wake_112 : decode cX12_wake 112 = .ok (.baload, 1) := by decide +kernel
theorem dX12_wake_113 : decode cX12_wake 113 = .ok (.ifCond .eq 7, 3) := by decide +kernel
theorem dX12_wake_116 : decode cX12_wake 116 = .ok (.iconst 1, 1) := by decide +kernel
theorem dX12_wake_117 : decode cX12_wake 117 = .ok (.goto 4, 3) := by decide +kernel
theorem dX12_wake_120 : decode cX12_wake 120 = .ok (.iconst 0, 1) := by decide +kernel
theorem dX12_wake_121 : decode cX12_wake 121 = .ok (.istore 8, 2) := by decide +kernel
theorem dX12_wake_123 : decode cX12_wake 123 = .ok (.aload_n 0, 1) := by decide +kernel
theorem dX12_wake_124 : decode cX12_wake 124 = .ok (.iload 7, 2) := by decide +kernel
theorem dX12_wake_126 : decode cX12_wake 126 = .ok (.iload 6, 2) := by decide +kernel
theorem dX12_wake_128 : decode cX12_wake 128 = .ok (.ifCond .eq 10, 3) := by decide +kernel
theorem dX12_wake_131 : decode cX12_wake 131 = .ok (.iconst 1, 1) := by decide +kernel
theorem dX12_wake_132 : decode cX12_wake 132 = .ok (.iload 8, 2) := by decide +kernel
theorem dX12_wake_134 : decode cX12_wake 134 = .ok (.isub, 1) := by decide +kernel
theorem dX12_wake_135 : decode cX12_wake 135 = .ok (.goto 5, 3) := by decide +kernel
theorem dX12_wake_138 : decode cX12_wake 138 = .ok (.iload 8, 2) := by decide +kernel
theorem dX12_wake_140 : decode cX12_wake 140 = .ok (.invokevirtual 258, 3) := by decide +kernel
theorem dX12_wake_143 : decode cX12_wake 143 = .ok (.istore 9, 2) := by decide +kernel
theorem dX12_wake_145 : decode cX12_wake 145 = .ok (.iload 6, 2) := by decide +kernel
theorem dX12_wake_147 : decode cX12_wake 147 = .ok (.ifCond .eq 10, 3) := by decide +kernel
theorem dX12_wake_150 : decode cX12_wake 150 = .ok (.iconst 1, 1) := by decide +kernel
theorem dX12_wake_151 : decode cX12_wake 151 = .ok (.iload 9, 2) := by decide +kernel
theorem dX12_wake_153 : decode cX12_wake 153 = .ok (.isub, 1) := by decide +kernel
theorem dX12_wake_154 : decode cX12_wake 154 = .ok (.goto 5, 3) := by decide +kernel
theorem dX12_wake_157 : decode cX12_wake 157 = .ok (.iload 9, 2) := by decide +kernel
theorem dX12_wake_159 : decode cX12_wake 159 = .ok (.istore 8, 2) := by decide +kernel
theorem dX12_wake_161 : decode cX12_wake 161 = .ok (.aload_n 0, 1) := by decide +kernel
theorem dX12_wake_162 : decode cX12_wake 162 = .ok (.getfield 50, 3) := by decide +kernel
theorem dX12_wake_165 : decode cX12_wake 165 = .ok (.aload_n 0, 1) := by decide +kernel
theorem dX12_wake_166 : decode cX12_wake 166 = .ok (.iload_n 1, 1) := by decide +kernel
theorem dX12_wake_167 : decode cX12_wake 167 = .ok (.iload_n 2, 1) := by decide +kernel
theorem dX12_wake_168 : decode cX12_wake 168 = .ok (.invokevirtual 249, 3) := by decide +kernel
theorem dX12_wake_171 : decode cX12_wake 171 = .ok (.iload 8, 2) := by decide +kernel
theorem dX12_wake_173 : decode cX12_wake 173 = .ok (.iconst 1, 1) := by decide +kernel
theorem dX12_wake_174 : decode cX12_wake 174 = .ok (.if_icmp .ne 7, 3) := by decide +kernel
theorem dX12_wake_177 : decode cX12_wake 177 = .ok (.iconst 1, 1) := by decide +kernel
theorem dX12_wake_178 : decode cX12_wake 178 = .ok (.goto 4, 3) := by decide +kernel
theorem dX12_wake_181 : decode cX12_wake 181 = .ok (.iconst 0, 1) := by decide +kernel
theorem dX12_wake_182 : decode cX12_wake 182 = .ok (.bastore, 1) := by decide +kernel
theorem dX12_wake_183 : decode cX12_wake 183 = .ok (.aload_n 0, 1) := by decide +kernel
theorem dX12_wake_184 : decode cX12_wake 184 = .ok (.getfield 75, 3) := by decide +kernel
theorem dX12_wake_187 : decode cX12_wake 187 = .ok (.iload_n 3, 1) := by decide +kernel
theorem dX12_wake_188 : decode cX12_wake 188 = .ok (.iload 8, 2) := by decide +kernel
theorem dX12_wake_190 : decode cX12_wake 190 = .ok (.iconst 1, 1) := by decide +kernel
theorem dX12_wake_191 : decode cX12_wake 191 = .ok (.if_icmp .ne 7, 3) := by decide +kernel
theorem dX12_wake_194 : decode cX12_wake 194 = .ok (.iconst (-1), 1) := by decide +kernel
theorem dX12_wake_195 : decode cX12_wake 195 = .ok (.goto 4, 3) := by decide +kernel
theorem dX12_wake_198 : decode cX12_wake 198 = .ok (.iconst 1, 1) := by decide +kernel
theorem dX12_wake_199 : decode cX12_wake 199 = .ok (.iastore, 1) := by decide +kernel
theorem dX12_wake_200 : decode cX12_wake 200 = .ok (.aload_n 0, 1) := by decide +kernel
theorem dX12_wake_201 : decode cX12_wake 201 = .ok (.getfield 163, 3) := by decide +kernel
theorem dX12_wake_204 : decode cX12_wake 204 = .ok (.iconst 1, 1) := by decide +kernel
theorem dX12_wake_205 : decode cX12_wake 205 = .ok (.if_icmp .ne 32, 3) := by decide +kernel
theorem dX12_wake_208 : decode cX12_wake 208 = .ok (.aload_n 0, 1) := by decide +kernel
theorem dX12_wake_209 : decode cX12_wake 209 = .ok (.getfield 47, 3) := by decide +kernel
theorem dX12_wake_212 : decode cX12_wake 212 = .ok (.aload_n 0, 1) := by decide +kernel
theorem dX12_wake_213 : decode cX12_wake 213 = .ok (.iload_n 1, 1) := by decide +kernel
theorem dX12_wake_214 : decode cX12_wake 214 = .ok (.iload_n 2, 1) := by decide +kernel
theorem dX12_wake_215 : decode cX12_wake 215 = .ok (.invokevirtual 249, 3) := by decide +kernel
theorem dX12_wake_218 : decode cX12_wake 218 = .ok (.aload_n 0, 1) := by decide +kernel
theorem dX12_wake_219 : decode cX12_wake 219 = .ok (.getfield 47, 3) := by decide +kernel
theorem dX12_wake_222 : decode cX12_wake 222 = .ok (.aload_n 0, 1) := by decide +kernel
theorem dX12_wake_223 : decode cX12_wake 223 = .ok (.iload_n 1, 1) := by decide +kernel
theorem dX12_wake_224 : decode cX12_wake 224 = .ok (.iload_n 2, 1) := by decide +kernel
theorem dX12_wake_225 : decode cX12_wake 225 = .ok (.invokevirtual 249, 3) := by decide +kernel
theorem dX12_wake_228 : decode cX12_wake 228 = .ok (.iaload, 1) := by decide +kernel
theorem dX12_wake_229 : decode cX12_wake 229 = .ok (.iconst 1, 1) := by decide +kernel
theorem dX12_wake_230 : decode cX12_wake 230 = .ok (.aload_n 0, 1) := by decide +kernel
theorem dX12_wake_231 : decode cX12_wake 231 = .ok (.getfield 252, 3) := by decide +kernel
theorem dX12_wake_234 : decode cX12_wake 234 = .ok (.ishl, 1) := by decide +kernel
theorem dX12_wake_235 : decode cX12_wake 235 = .ok (.ior, 1) := by decide +kernel
theorem dX12_wake_236 : decode cX12_wake 236 = .ok (.iastore, 1) := by decide +kernel
theorem dX12_wake_237 : decode cX12_wake 237 = .ok (.return_, 1) := by decide +kernel
theorem dX12_spread_0 : decode cX12_spread 0 = .ok (.aload_n 0, 1) := by decide +kernel
theorem dX12_spread_1 : decode cX12_spread 1 = .ok (.iload_n 1, 1) := by decide +kernel
theorem dX12_spread_2 : decode cX12_spread 2 = .ok (.iload_n 2, 1) := by decide +kernel
theorem dX12_spread_3 : decode cX12_spread 3 = .ok (.invokevirtual 261, 3) := by decide +kernel
theorem dX12_spread_6 : decode cX12_spread 6 = .ok (.istore_n 3, 1) := by decide +kernel
theorem dX12_spread_7 : decode cX12_spread 7 = .ok (.aload_n 0, 1) := by decide +kernel
theorem dX12_spread_8 : decode cX12_spread 8 = .ok (.iload_n 1, 1) := by decide +kernel
theorem dX12_spread_9 : decode cX12_spread 9 = .ok (.iload_n 2, 1) := by decide +kernel
theorem dX12_spread_10 : decode cX12_spread 10 = .ok (.invokestatic 234, 3) := by decide +kernel
theorem dX12_spread_13 : decode cX12_spread 13 = .ok (.invokevirtual 231, 3) := by decide +kernel
theorem dX12_spread_16 : decode cX12_spread 16 = .ok (.ifCond .ne 40, 3) := by decide +kernel
theorem dX12_spread_19 : decode cX12_spread 19 = .ok (.iload_n 3, 1) := by decide +kernel
theorem dX12_spread_20 : decode cX12_spread 20 = .ok (.ifCond .le 36, 3) := by decide +kernel
theorem dX12_spread_23 : decode cX12_spread 23 = .ok (.aload_n 0, 1) := by decide +kernel
theorem dX12_spread_24 : decode cX12_spread 24 = .ok (.getfield 78, 3) := by decide +kernel
theorem dX12_spread_27 : decode cX12_spread 27 = .ok (.bipush 8, 2) := by decide +kernel
theorem dX12_spread_29 : decode cX12_spread 29 = .ok (.iload_n 2, 1) := by decide +kernel
theorem dX12_spread_30 : decode cX12_spread 30 = .ok (.imul, 1) := by decide +kernel
theorem dX12_spread_31 : decode cX12_spread 31 = .ok (.iload_n 1, 1) := by decide +kernel
theorem dX12_spread_32 : decode cX12_spread 32 = .ok (.iadd, 1) := by decide +kernel
theorem dX12_spread_33 : decode cX12_spread 33 = .ok (.iconst 1, 1) := by decide +kernel
theorem dX12_spread_34 : decode cX12_spread 34 = .ok (.bastore, 1) := by decide +kernel
theorem dX12_spread_35 : decode cX12_spread 35 = .ok (.aload_n 0, 1) := by decide +kernel
theorem dX12_spread_36 : decode cX12_spread 36 = .ok (.iload_n 3, 1) := by decide +kernel
theorem dX12_spread_37 : decode cX12_spread 37 = .ok (.aload_n 0, 1) := by decide +kernel
theorem dX12_spread_38 : decode cX12_spread 38 = .ok (.iload_n 1, 1) := by decide +kernel
theorem dX12_spread_39 : decode cX12_spread 39 = .ok (.iload_n 2, 1) := by decide +kernel
theorem dX12_spread_40 : decode cX12_spread 40 = .ok (.invokevirtual 264, 3) := by decide +kernel
theorem dX12_spread_43 : decode cX12_spread 43 = .ok (.invokevirtual 258, 3) := by decide +kernel
theorem dX12_spread_46 : decode cX12_spread 46 = .ok (.iconst 1, 1) := by decide +kernel
theorem dX12_spread_47 : decode cX12_spread 47 = .ok (.if_icmp .ne 9, 3) := by decide +kernel
theorem dX12_spread_50 : decode cX12_spread 50 = .ok (.aload_n 0, 1) := by decide +kernel
theorem dX12_spread_51 : decode cX12_spread 51 = .ok (.iload_n 1, 1) := by decide +kernel
theorem dX12_spread_52 : decode cX12_spread 52 = .ok (.iload_n 2, 1) := by decide +kernel
theorem dX12_spread_53 : decode cX12_spread 53 = .ok (.invokevirtual 267, 3) := by decide +kernel
theorem dX12_spread_56 : decode cX12_spread 56 = .ok (.return_, 1) := by decide +kernel
theorem dX12_refine_0 : decode cX12_refine 0 = .ok (.iload_n 1, 1) := by decide +kernel
theorem dX12_refine_1 : decode cX12_refine 1 = .ok (.iload_n 2, 1) := by decide +kernel
theorem dX12_refine_2 : decode cX12_refine 2 = .ok (.invokestatic 234, 3) := by decide +kernel
theorem dX12_refine_5 : decode cX12_refine 5 = .ok (.istore_n 3, 1) := by decide +kernel
theorem dX12_refine_6 : decode cX12_refine 6 = .ok (.aload_n 0, 1) := by decide +kernel
theorem dX12_refine_7 : decode cX12_refine 7 = .ok (.iload_n 3, 1) := by decide +kernel
theorem dX12_refine_8 : decode cX12_refine 8 = .ok (.invokevirtual 231, 3) := by decide +kernel
theorem dX12_refine_11 : decode cX12_refine 11 = .ok (.ifCond .eq 17, 3) := by decide +kernel
theorem dX12_refine_14 : decode cX12_refine 14 = .ok (.aload_n 0, 1) := by decide +kernel
theorem dX12_refine_15 : decode cX12_refine 15 = .ok (.getfield 78, 3) := by decide +kernel
theorem dX12_refine_18 : decode cX12_refine 18 = .ok (.bipush 8, 2) := by decide +kernel
theorem dX12_refine_20 : decode cX12_refine 20 = .ok (.iload_n 2, 1) := by decide +kernel
theorem dX12_refine_21 : decode cX12_refine 21 = .ok (.imul, 1) := by decide +kernel
theorem dX12_refine_22 : decode cX12_refine 22 = .ok (.iload_n 1, 1) := by decide +kernel
theorem dX12_refine_23 : decode cX12_refine 23 = .ok (.iadd, 1) := by decide +kernel
theorem dX12_refine_24 : decode cX12_refine 24 = .ok (.baload, 1) := by decide +kernel
theorem dX12_refine_25 : decode cX12_refine 25 = .ok (.ifCond .eq 4, 3) := by decide +kernel
theorem dX12_refine_28 : decode cX12_refine 28 = .ok (.return_, 1) := by decide +kernel
theorem dX12_refine_29 : decode cX12_refine 29 = .ok (.aload_n 0, 1) := by decide +kernel
theorem dX12_refine_30 : decode cX12_refine 30 = .ok (.getfield 81, 3) := by decide +kernel
theorem dX12_refine_33 : decode cX12_refine 33 = .ok (.bipush 8, 2) := by decide +kernel
theorem dX12_refine_35 : decode cX12_refine 35 = .ok (.iload_n 2, 1) := by decide +kernel
theorem dX12_refine_36 : decode cX12_refine 36 = .ok (.imul, 1) := by decide +kernel
theorem dX12_refine_37 : decode cX12_refine 37 = .ok (.iload_n 1, 1) := by decide +kernel
theorem dX12_refine_38 : decode cX12_refine 38 = .ok (.iadd, 1) := by decide +kernel
theorem dX12_refine_39 : decode cX12_refine 39 = .ok (.baload, 1) := by decide +kernel
theorem dX12_refine_40 : decode cX12_refine 40 = .ok (.ifCond .eq 8, 3) := by decide +kernel
theorem dX12_refine_43 : decode cX12_refine 43 = .ok (.bipush 16, 2) := by decide +kernel
theorem dX12_refine_45 : decode cX12_refine 45 = .ok (.goto 30, 3) := by decide +kernel
theorem dX12_refine_48 : decode cX12_refine 48 = .ok (.aload_n 0, 1) := by decide +kernel
theorem dX12_refine_49 : decode cX12_refine 49 = .ok (.iload_n 3, 1) := by decide +kernel
theorem dX12_refine_50 : decode cX12_refine 50 = .ok (.invokevirtual 237, 3) := by decide +kernel
theorem dX12_refine_53 : decode cX12_refine 53 = .ok (.aload_n 0, 1) := by decide +kernel
theorem dX12_refine_54 : decode cX12_refine 54 = .ok (.iload_n 3, 1) := by decide +kernel
theorem dX12_refine_55 : decode cX12_refine 55 = .ok (.invokevirtual 240, 3) := by decide +kernel
theorem dX12_refine_58 : decode cX12_refine 58 = .ok (.iadd, 1) := by decide +kernel
theorem dX12_refine_59 : decode cX12_refine 59 = .ok (.aload_n 0, 1) := by decide +kernel
theorem dX12_refine_60 : decode cX12_refine 60 = .ok (.iload_n 3, 1) := by decide +kernel
theorem dX12_refine_61 : decode cX12_refine 61 = .ok (.invokevirtual 243, 3) := by decide +kernel
theorem dX12_refine_64 : decode cX12_refine 64 = .ok (.iadd, 1) := by decide +kernel
theorem dX12_refine_65 : decode cX12_refine 65 = .ok (.ifCond .le 8, 3) := by decide +kernel
theorem dX12_refine_68 : decode cX12_refine 68 = .ok (.bipush 15, 2) := by decide +kernel
theorem dX12_refine_70 : decode cX12_refine 70 = .ok (.goto 5, 3) := by decide +kernel
theorem dX12_refine_73 : decode cX12_refine 73 = .ok (.bipush 14, 2) := by decide +kernel
theorem dX12_refine_75 : decode cX12_refine 75 = .ok (.istore 4, 2) := by decide +kernel
theorem dX12_refine_77 : decode cX12_refine 77 = .ok (.aload_n 0, 1) := by decide +kernel
theorem dX12_refine_78 : decode cX12_refine 78 = .ok (.iload 4, 2) := by decide +kernel
theorem dX12_refine_80 : decode cX12_refine 80 = .ok (.aload_n 0, 1) := by decide +kernel
theorem dX12_refine_81 : decode cX12_refine 81 = .ok (.iload_n 1, 1) := by decide +kernel
theorem dX12_refine_82 : decode cX12_refine 82 = .ok (.iload_n 2, 1) := by decide +kernel
theorem dX12_refine_83 : decode cX12_refine 83 = .ok (.invokevirtual 264, 3) := by decide +kernel
theorem dX12_refine_86 : decode cX12_refine 86 = .ok (.invokevirtual 258, 3) := by decide +kernel
theorem dX12_refine_89 : decode cX12_refine 89 = .ok (.istore 5, 2) := by decide +kernel
theorem dX12_refine_91 : decode cX12_refine 91 = .ok (.aload_n 0, 1) := by decide +kernel
theorem dX12_refine_92 : decode cX12_refine 92 = .ok (.getfield 81, 3) := by decide +kernel
theorem dX12_refine_95 : decode cX12_refine 95 = .ok (.bipush 8, 2) := by decide +kernel
theorem dX12_refine_97 : decode cX12_refine 97 = .ok (.iload_n 2, 1) := by decide +kernel
theorem dX12_refine_98 : decode cX12_refine 98 = .ok (.imul, 1) := by decide +kernel
theorem dX12_refine_99 : decode cX12_refine 99 = .ok (.iload_n 1, 1) := by decide +kernel
theorem dX12_refine_100 : decode cX12_refine 100 = .ok (.iadd, 1) := by decide +kernel
theorem dX12_refine_101 : decode cX12_refine 101 = .ok (.iconst 1, 1) := by decide +kernel
theorem dX12_refine_102 : decode cX12_refine 102 = .ok (.bastore, 1) := by decide +kernel
theorem dX12_refine_103 : decode cX12_refine 103 = .ok (.aload_n 0, 1) := by decide +kernel
theorem dX12_refine_104 : decode cX12_refine 104 = .ok (.getfield 163, 3) := by decide +kernel
theorem dX12_refine_107 : decode cX12_refine 107 = .ok (.iconst 1, 1) := by decide +kernel
theorem dX12_refine_108 : decode cX12_refine 108 = .ok (.if_icmp .ne 33, 3) := by decide +kernel
theorem dX12_refine_111 : decode cX12_refine 111 = .ok (.aload_n 0, 1) := by decide +kernel
theorem dX12_refine_112 : decode cX12_refine 112 = .ok (.getfield 47, 3) := by decide +kernel
theorem dX12_refine_115 : decode cX12_refine 115 = .ok (.aload_n 0, 1) := by decide +kernel
theorem dX12_refine_116 : decode cX12_refine 116 = .ok (.iload_n 1, 1) := by decide +kernel
theorem dX12_refine_117 : decode cX12_refine 117 = .ok (.iload_n 2, 1) := by decide +kernel
theorem dX12_refine_118 : decode cX12_refine 118 = .ok (.invokevirtual 249, 3) := by decide +kernel
theorem dX12_refine_121 : decode cX12_refine 121 = .ok (.aload_n 0, 1) := by decide +kernel
theorem dX12_refine_122 : decode cX12_refine 122 = .ok (.getfield 47, 3) := by decide +kernel
theorem dX12_refine_125 : decode cX12_refine 125 = .ok (.aload_n 0, 1) := by decide +kernel
theorem dX12_refine_126 : decode cX12_refine 126 = .ok (.iload_n 1, 1) := by decide +kernel
theorem dX12_refine_127 : decode cX12_refine 127 = .ok (.iload_n 2, 1) := by decide +kernel
theorem dX12_refine_128 : decode cX12_refine 128 = .ok (.invokevirtual 249, 3) := by decide +kernel
theorem dX12_refine_131 : decode cX12_refine 131 = .ok (.iaload, 1) := by decide +kernel
theorem dX12_refine_132 : decode cX12_refine 132 = .ok (.iload 5, 2) := by decide +kernel
theorem dX12_refine_134 : decode cX12_refine 134 = .ok (.aload_n 0, 1) := by decide +kernel
theorem dX12_refine_135 : decode cX12_refine 135 = .ok (.getfield 252, 3) := by decide +kernel
theorem dX12_refine_138 : decode cX12_refine 138 = .ok (.ishl, 1) := by decide +kernel
theorem dX12_refine_139 : decode cX12_refine 139 = .ok (.ior, 1) := by decide +kernel
theorem dX12_refine_140 : decode cX12_refine 140 = .ok (.iastore, 1) := by decide +kernel
theorem dX12_refine_141 : decode cX12_refine 141 = .ok (.return_, 1) := by decide +kernel
theorem dX12_isUntouched_0 : decode cX12_isUntouched 0 = .ok (.aload_n 0, 1) := by decide +kernel
theorem dX12_isUntouched_1 : decode cX12_isUntouched 1 = .ok (.iload_n 1, 1) := by decide +kernel
theorem dX12_isUntouched_2 : decode cX12_isUntouched 2 = .ok (.iload_n 2, 1) := by decide +kernel
theorem dX12_isUntouched_3 : decode cX12_isUntouched 3 = .ok (.invokestatic 234, 3) := by decide +kernel
theorem dX12_isUntouched_6 : decode cX12_isUntouched 6 = .ok (.invokevirtual 231, 3) := by decide +kernel
theorem dX12_isUntouched_9 : decode cX12_isUntouched 9 = .ok (.ifCond .ne 21, 3) := by decide +kernel
theorem dX12_isUntouched_12 : decode cX12_isUntouched 12 = .ok (.aload_n 0, 1) := by decide +kernel
theorem dX12_isUntouched_13 : decode cX12_isUntouched 13 = .ok (.getfield 78, 3) := by decide +kernel
theorem dX12_isUntouched_16 : decode cX12_isUntouched 16 = .ok (.bipush 8, 2) := by decide +kernel
theorem dX12_isUntouched_18 : decode cX12_isUntouched 18 = .ok (.iload_n 2, 1) := by decide +kernel
theorem dX12_isUntouched_19 : decode cX12_isUntouched 19 = .ok (.imul, 1) := by decide +kernel
theorem dX12_isUntouched_20 : decode cX12_isUntouched 20 = .ok (.iload_n 1, 1) := by decide +kernel
theorem dX12_isUntouched_21 : decode cX12_isUntouched 21 = .ok (.iadd, 1) := by decide +kernel
theorem dX12_isUntouched_22 : decode cX12_isUntouched 22 = .ok (.baload, 1) := by decide +kernel
theorem dX12_isUntouched_23 : decode cX12_isUntouched 23 = .ok (.ifCond .ne 7, 3) := by decide +kernel
theorem dX12_isUntouched_26 : decode cX12_isUntouched 26 = .ok (.iconst 1, 1) := by decide +kernel
theorem dX12_isUntouched_27 : decode cX12_isUntouched 27 = .ok (.goto 4, 3) := by decide +kernel
theorem dX12_isUntouched_30 : decode cX12_isUntouched 30 = .ok (.iconst 0, 1) := by decide +kernel
theorem dX12_isUntouched_31 : decode cX12_isUntouched 31 = .ok (.ireturn, 1) := by decide +kernel
theorem dX12_jump_0 : decode cX12_jump 0 = .ok (.iload_n 2, 1) := by decide +kernel
theorem dX12_jump_1 : decode cX12_jump 1 = .ok (.iconst 4, 1) := by decide +kernel
theorem dX12_jump_2 : decode cX12_jump 2 = .ok (.iadd, 1) := by decide +kernel
theorem dX12_jump_3 : decode cX12_jump 3 = .ok (.aload_n 0, 1) := by decide +kernel
theorem dX12_jump_4 : decode cX12_jump 4 = .ok (.getfield 38, 3) := by decide +kernel
theorem dX12_jump_7 : decode cX12_jump 7 = .ok (.aload_n 0, 1) := by decide +kernel
theorem dX12_jump_8 : decode cX12_jump 8 = .ok (.getfield 246, 3) := by decide +kernel
theorem dX12_jump_11 : decode cX12_jump 11 = .ok (.iaload, 1) := by decide +kernel
theorem dX12_jump_12 : decode cX12_jump 12 = .ok (.if_icmp .gt 7, 3) := by decide +kernel
theorem dX12_jump_15 : decode cX12_jump 15 = .ok (.iconst 1, 1) := by decide +kernel
theorem dX12_jump_16 : decode cX12_jump 16 = .ok (.goto 4, 3) := by decide +kernel
theorem dX12_jump_19 : decode cX12_jump 19 = .ok (.iconst 0, 1) := by decide +kernel
theorem dX12_jump_20 : decode cX12_jump 20 = .ok (.istore_n 3, 1) := by decide +kernel
theorem dX12_jump_21 : decode cX12_jump 21 = .ok (.iconst 4, 1) := by decide +kernel
theorem dX12_jump_22 : decode cX12_jump 22 = .ok (.istore 4, 2) := by decide +kernel
theorem dX12_jump_24 : decode cX12_jump 24 = .ok (.iload_n 2, 1) := by decide +kernel
theorem dX12_jump_25 : decode cX12_jump 25 = .ok (.iconst 3, 1) := by decide +kernel
theorem dX12_jump_26 : decode cX12_jump 26 = .ok (.iadd, 1) := by decide +kernel
theorem dX12_jump_27 : decode cX12_jump 27 = .ok (.istore 5, 2) := by decide +kernel
theorem dX12_jump_29 : decode cX12_jump 29 = .ok (.iload 5, 2) := by decide +kernel
theorem dX12_jump_31 : decode cX12_jump 31 = .ok (.iload_n 2, 1) := by decide +kernel
theorem dX12_jump_32 : decode cX12_jump 32 = .ok (.if_icmp .lt 65, 3) := by decide +kernel
theorem dX12_jump_35 : decode cX12_jump 35 = .ok (.iload_n 3, 1) := by decide +kernel
theorem dX12_jump_36 : decode cX12_jump 36 = .ok (.ifCond .eq 61, 3) := by decide +kernel
theorem dX12_jump_39 : decode cX12_jump 39 = .ok (.aload_n 0, 1) := by decide +kernel
theorem dX12_jump_40 : decode cX12_jump 40 = .ok (.iload_n 1, 1) := by decide +kernel
theorem dX12_jump_41 : decode cX12_jump 41 = .ok (.iload 5, 2) := by decide +kernel
theorem dX12_jump_43 : decode cX12_jump 43 = .ok (.invokevirtual 271, 3) := by decide +kernel
theorem dX12_jump_46 : decode cX12_jump 46 = .ok (.ifCond .eq 17, 3) := by decide +kernel
theorem dX12_jump_49 : decode cX12_jump 49 = .ok (.aload_n 0, 1) := by decide +kernel
theorem dX12_jump_50 : decode cX12_jump 50 = .ok (.iload_n 1, 1) := by decide +kernel
theorem dX12_jump_51 : decode cX12_jump 51 = .ok (.iload 5, 2) := by decide +kernel
theorem dX12_jump_53 : decode cX12_jump 53 = .ok (.invokevirtual 261, 3) := by decide +kernel
theorem dX12_jump_56 : decode cX12_jump 56 = .ok (.ifCond .ne 7, 3) := by decide +kernel
theorem dX12_jump_59 : decode cX12_jump 59 = .ok (.iconst 1, 1) := by decide +kernel
theorem dX12_jump_60 : decode cX12_jump 60 = .ok (.goto 4, 3) := by decide +kernel
theorem dX12_jump_63 : decode cX12_jump 63 = .ok (.iconst 0, 1) := by decide +kernel
theorem dX12_jump_64 : decode cX12_jump 64 = .ok (.istore_n 3, 1) := by decide +kernel
theorem dX12_jump_65 : decode cX12_jump 65 = .ok (.iload_n 3, 1) := by decide +kernel
theorem dX12_jump_66 : decode cX12_jump 66 = .ok (.ifCond .eq 21, 3) := by decide +kernel
theorem dX12_jump_69 : decode cX12_jump 69 = .ok (.aload_n 0, 1) := by decide +kernel
theorem dX12_jump_70 : decode cX12_jump 70 = .ok (.iload_n 1, 1) := by decide +kernel
theorem dX12_jump_71 : decode cX12_jump 71 = .ok (.iload 5, 2) := by decide +kernel
theorem dX12_jump_73 : decode cX12_jump 73 = .ok (.invokevirtual 264, 3) := by decide +kernel
theorem dX12_jump_76 : decode cX12_jump 76 = .ok (.iconst 1, 1) := by decide +kernel
theorem dX12_jump_77 : decode cX12_jump 77 = .ok (.if_icmp .ne 10, 3) := by decide +kernel
theorem dX12_jump_80 : decode cX12_jump 80 = .ok (.iload 5, 2) := by decide +kernel
theorem dX12_jump_82 : decode cX12_jump 82 = .ok (.iload_n 2, 1) := by decide +kernel
theorem dX12_jump_83 : decode cX12_jump 83 = .ok (.isub, 1) := by decide +kernel
theorem dX12_jump_84 : decode cX12_jump 84 = .ok (.goto 5, 3) := by decide +kernel
theorem dX12_jump_87 : decode cX12_jump 87 = .ok (.iload 4, 2) := by decide +kernel
theorem dX12_jump_89 : decode cX12_jump 89 = .ok (.istore 4, 2) := by decide +kernel
theorem dX12_jump_91 : decode cX12_jump 91 = .ok (.iinc 5 (-1), 3) := by decide +kernel
theorem dX12_jump_94 : decode cX12_jump 94 = .ok (.goto (-65), 3) := by decide +kernel
theorem dX12_jump_97 : decode cX12_jump 97 = .ok (.iload_n 3, 1) := by decide +kernel
theorem dX12_jump_98 : decode cX12_jump 98 = .ok (.ifCond .ne 5, 3) := by decide +kernel
theorem dX12_jump_101 : decode cX12_jump 101 = .ok (.iconst 0, 1) := by decide +kernel
theorem dX12_jump_102 : decode cX12_jump 102 = .ok (.ireturn, 1) := by decide +kernel
theorem dX12_jump_103 : decode cX12_jump 103 = .ok (.aload_n 0, 1) := by decide +kernel
theorem dX12_jump_104 : decode cX12_jump 104 = .ok (.bipush 17, 2) := by decide +kernel
theorem dX12_jump_106 : decode cX12_jump 106 = .ok (.iload 4, 2) := by decide +kernel
theorem dX12_jump_108 : decode cX12_jump 108 = .ok (.iconst 4, 1) := by decide +kernel
theorem dX12_jump_109 : decode cX12_jump 109 = .ok (.if_icmp .ge 7, 3) := by decide +kernel
theorem dX12_jump_112 : decode cX12_jump 112 = .ok (.iconst 1, 1) := by decide +kernel
theorem dX12_jump_113 : decode cX12_jump 113 = .ok (.goto 4, 3) := by decide +kernel
theorem dX12_jump_116 : decode cX12_jump 116 = .ok (.iconst 0, 1) := by decide +kernel
theorem dX12_jump_117 : decode cX12_jump 117 = .ok (.invokevirtual 258, 3) := by decide +kernel
theorem dX12_jump_120 : decode cX12_jump 120 = .ok (.ifCond .ne 5, 3) := by decide +kernel
theorem dX12_jump_123 : decode cX12_jump 123 = .ok (.iconst 4, 1) := by decide +kernel
theorem dX12_jump_124 : decode cX12_jump 124 = .ok (.ireturn, 1) := by decide +kernel
theorem dX12_jump_125 : decode cX12_jump 125 = .ok (.aload_n 0, 1) := by decide +kernel
theorem dX12_jump_126 : decode cX12_jump 126 = .ok (.bipush 18, 2) := by decide +kernel
theorem dX12_jump_128 : decode cX12_jump 128 = .ok (.iload 4, 2) := by decide +kernel
theorem dX12_jump_130 : decode cX12_jump 130 = .ok (.iconst 2, 1) := by decide +kernel
theorem dX12_jump_131 : decode cX12_jump 131 = .ok (.idiv, 1) := by decide +kernel
theorem dX12_jump_132 : decode cX12_jump 132 = .ok (.iconst 2, 1) := by decide +kernel
theorem dX12_jump_133 : decode cX12_jump 133 = .ok (.irem, 1) := by decide +kernel
theorem dX12_jump_134 : decode cX12_jump 134 = .ok (.invokevirtual 258, 3) := by decide +kernel
theorem dX12_jump_137 : decode cX12_jump 137 = .ok (.istore 5, 2) := by decide +kernel
theorem dX12_jump_139 : decode cX12_jump 139 = .ok (.aload_n 0, 1) := by decide +kernel
theorem dX12_jump_140 : decode cX12_jump 140 = .ok (.bipush 18, 2) := by decide +kernel
theorem dX12_jump_142 : decode cX12_jump 142 = .ok (.iload 4, 2) := by decide +kernel
theorem dX12_jump_144 : decode cX12_jump 144 = .ok (.iconst 2, 1) := by decide +kernel
theorem dX12_jump_145 : decode cX12_jump 145 = .ok (.irem, 1) := by decide +kernel
theorem dX12_jump_146 : decode cX12_jump 146 = .ok (.invokevirtual 258, 3) := by decide +kernel
theorem dX12_jump_149 : decode cX12_jump 149 = .ok (.istore 6, 2) := by decide +kernel
theorem dX12_jump_151 : decode cX12_jump 151 = .ok (.aload_n 0, 1) := by decide +kernel
theorem dX12_jump_152 : decode cX12_jump 152 = .ok (.iload_n 1, 1) := by decide +kernel
theorem dX12_jump_153 : decode cX12_jump 153 = .ok (.iload_n 2, 1) := by decide +kernel
theorem dX12_jump_154 : decode cX12_jump 154 = .ok (.iconst 2, 1) := by decide +kernel
theorem dX12_jump_155 : decode cX12_jump 155 = .ok (.iload 5, 2) := by decide +kernel
theorem dX12_jump_157 : decode cX12_jump 157 = .ok (.imul, 1) := by decide +kernel
theorem dX12_jump_158 : decode cX12_jump 158 = .ok (.iadd, 1) := by decide +kernel
theorem dX12_jump_159 : decode cX12_jump 159 = .ok (.iload 6, 2) := by decide +kernel
theorem dX12_jump_161 : decode cX12_jump 161 = .ok (.iadd, 1) := by decide +kernel
theorem dX12_jump_162 : decode cX12_jump 162 = .ok (.invokevirtual 267, 3) := by decide +kernel
theorem dX12_jump_165 : decode cX12_jump 165 = .ok (.iconst 2, 1) := by decide +kernel
theorem dX12_jump_166 : decode cX12_jump 166 = .ok (.iload 5, 2) := by decide +kernel
theorem dX12_jump_168 : decode cX12_jump 168 = .ok (.imul, 1) := by decide +kernel
theorem dX12_jump_169 : decode cX12_jump 169 = .ok (.iload 6, 2) := by decide +kernel
theorem dX12_jump_171 : decode cX12_jump 171 = .ok (.iadd, 1) := by decide +kernel
theorem dX12_jump_172 : decode cX12_jump 172 = .ok (.iconst 1, 1) := by decide +kernel
theorem dX12_jump_173 : decode cX12_jump 173 = .ok (.iadd, 1) := by decide +kernel
theorem dX12_jump_174 : decode cX12_jump 174 = .ok (.ireturn, 1) := by decide +kernel
theorem dX12_clean_0 : decode cX12_clean 0 = .ok (.iload_n 2, 1) := by decide +kernel
theorem dX12_clean_1 : decode cX12_clean 1 = .ok (.aload_n 0, 1) := by decide +kernel
theorem dX12_clean_2 : decode cX12_clean 2 = .ok (.iload_n 1, 1) := by decide +kernel
theorem dX12_clean_3 : decode cX12_clean 3 = .ok (.iload_n 2, 1) := by decide +kernel
theorem dX12_clean_4 : decode cX12_clean 4 = .ok (.invokevirtual 274, 3) := by decide +kernel
theorem dX12_clean_7 : decode cX12_clean 7 = .ok (.iadd, 1) := by decide +kernel
theorem dX12_clean_8 : decode cX12_clean 8 = .ok (.istore_n 3, 1) := by decide +kernel
theorem dX12_clean_9 : decode cX12_clean 9 = .ok (.iload_n 3, 1) := by decide +kernel
theorem dX12_clean_10 : decode cX12_clean 10 = .ok (.iload_n 2, 1) := by decide +kernel
theorem dX12_clean_11 : decode cX12_clean 11 = .ok (.iconst 4, 1) := by decide +kernel
theorem dX12_clean_12 : decode cX12_clean 12 = .ok (.iadd, 1) := by decide +kernel
theorem dX12_clean_13 : decode cX12_clean 13 = .ok (.if_icmp .ge 57, 3) := by decide +kernel
theorem dX12_clean_16 : decode cX12_clean 16 = .ok (.iload_n 3, 1) := by decide +kernel
theorem dX12_clean_17 : decode cX12_clean 17 = .ok (.aload_n 0, 1) := by decide +kernel
theorem dX12_clean_18 : decode cX12_clean 18 = .ok (.getfield 38, 3) := by decide +kernel
theorem dX12_clean_21 : decode cX12_clean 21 = .ok (.aload_n 0, 1) := by decide +kernel
theorem dX12_clean_22 : decode cX12_clean 22 = .ok (.getfield 246, 3) := by decide +kernel
theorem dX12_clean_25 : decode cX12_clean 25 = .ok (.iaload, 1) := by decide +kernel
theorem dX12_clean_26 : decode cX12_clean 26 = .ok (.if_icmp .ge 44, 3) := by decide +kernel
theorem dX12_clean_29 : decode cX12_clean 29 = .ok (.aload_n 0, 1) := by decide +kernel
theorem dX12_clean_30 : decode cX12_clean 30 = .ok (.iload_n 1, 1) := by decide +kernel
theorem dX12_clean_31 : decode cX12_clean 31 = .ok (.iload_n 3, 1) := by decide +kernel
theorem dX12_clean_32 : decode cX12_clean 32 = .ok (.invokevirtual 271, 3) := by decide +kernel
theorem dX12_clean_35 : decode cX12_clean 35 = .ok (.ifCond .eq 29, 3) := by decide +kernel
theorem dX12_clean_38 : decode cX12_clean 38 = .ok (.aload_n 0, 1) := by decide +kernel
theorem dX12_clean_39 : decode cX12_clean 39 = .ok (.aload_n 0, 1) := by decide +kernel
theorem dX12_clean_40 : decode cX12_clean 40 = .ok (.iload_n 1, 1) := by decide +kernel
theorem dX12_clean_41 : decode cX12_clean 41 = .ok (.iload_n 3, 1) := by decide +kernel
theorem dX12_clean_42 : decode cX12_clean 42 = .ok (.invokevirtual 261, 3) := by decide +kernel
theorem dX12_clean_45 : decode cX12_clean 45 = .ok (.aload_n 0, 1) := by decide +kernel
theorem dX12_clean_46 : decode cX12_clean 46 = .ok (.iload_n 1, 1) := by decide +kernel
theorem dX12_clean_47 : decode cX12_clean 47 = .ok (.iload_n 3, 1) := by decide +kernel
theorem dX12_clean_48 : decode cX12_clean 48 = .ok (.invokevirtual 264, 3) := by decide +kernel
theorem dX12_clean_51 : decode cX12_clean 51 = .ok (.invokevirtual 258, 3) := by decide +kernel
theorem dX12_clean_54 : decode cX12_clean 54 = .ok (.iconst 1, 1) := by decide +kernel
theorem dX12_clean_55 : decode cX12_clean 55 = .ok (.if_icmp .ne 9, 3) := by decide +kernel
theorem dX12_clean_58 : decode cX12_clean 58 = .ok (.aload_n 0, 1) := by decide +kernel
theorem dX12_clean_59 : decode cX12_clean 59 = .ok (.iload_n 1, 1) := by decide +kernel
theorem dX12_clean_60 : decode cX12_clean 60 = .ok (.iload_n 3, 1) := by decide +kernel
theorem dX12_clean_61 : decode cX12_clean 61 = .ok (.invokevirtual 267, 3) := by decide +kernel
theorem dX12_clean_64 : decode cX12_clean 64 = .ok (.iinc 3 1, 3) := by decide +kernel
theorem dX12_clean_67 : decode cX12_clean 67 = .ok (.goto (-58), 3) := by decide +kernel
theorem dX12_clean_70 : decode cX12_clean 70 = .ok (.return_, 1) := by decide +kernel
theorem dX12_column_0 : decode cX12_column 0 = .ok (.iload_n 1, 1) := by decide +kernel
theorem dX12_column_1 : decode cX12_column 1 = .ok (.iconst 2, 1) := by decide +kernel
theorem dX12_column_2 : decode cX12_column 2 = .ok (.if_icmp .ne 10, 3) := by decide +kernel
theorem dX12_column_5 : decode cX12_column 5 = .ok (.aload_n 0, 1) := by decide +kernel
theorem dX12_column_6 : decode cX12_column 6 = .ok (.iload_n 2, 1) := by decide +kernel
theorem dX12_column_7 : decode cX12_column 7 = .ok (.iload_n 3, 1) := by decide +kernel
theorem dX12_column_8 : decode cX12_column 8 = .ok (.invokevirtual 277, 3) := by decide +kernel
theorem dX12_column_11 : decode cX12_column 11 = .ok (.return_, 1) := by decide +kernel
theorem dX12_column_12 : decode cX12_column 12 = .ok (.iload_n 3, 1) := by decide +kernel
theorem dX12_column_13 : decode cX12_column 13 = .ok (.istore 4, 2) := by decide +kernel
theorem dX12_column_15 : decode cX12_column 15 = .ok (.iload 4, 2) := by decide +kernel
theorem dX12_column_17 : decode cX12_column 17 = .ok (.iload_n 3, 1) := by decide +kernel
theorem dX12_column_18 : decode cX12_column 18 = .ok (.iconst 4, 1) := by decide +kernel
theorem dX12_column_19 : decode cX12_column 19 = .ok (.iadd, 1) := by decide +kernel
theorem dX12_column_20 : decode cX12_column 20 = .ok (.if_icmp .ge 44, 3) := by decide +kernel
theorem dX12_column_23 : decode cX12_column 23 = .ok (.iload 4, 2) := by decide +kernel
theorem dX12_column_25 : decode cX12_column 25 = .ok (.aload_n 0, 1) := by decide +kernel
theorem dX12_column_26 : decode cX12_column 26 = .ok (.getfield 38, 3) := by decide +kernel
theorem dX12_column_29 : decode cX12_column 29 = .ok (.aload_n 0, 1) := by decide +kernel
theorem dX12_column_30 : decode cX12_column 30 = .ok (.getfield 246, 3) := by decide +kernel
theorem dX12_column_33 : decode cX12_column 33 = .ok (.iaload, 1) := by decide +kernel
theorem dX12_column_34 : decode cX12_column 34 = .ok (.if_icmp .ge 30, 3) := by decide +kernel
theorem dX12_column_37 : decode cX12_column 37 = .ok (.iload_n 1, 1) := by decide +kernel
theorem dX12_column_38 : decode cX12_column 38 = .ok (.ifCond .ne 13, 3) := by decide +kernel
theorem dX12_column_41 : decode cX12_column 41 = .ok (.aload_n 0, 1) := by decide +kernel
theorem dX12_column_42 : decode cX12_column 42 = .ok (.iload_n 2, 1) := by decide +kernel
theorem dX12_column_43 : decode cX12_column 43 = .ok (.iload 4, 2) := by decide +kernel
theorem dX12_column_45 : decode cX12_column 45 = .ok (.invokevirtual 280, 3) := by decide +kernel
theorem dX12_column_48 : decode cX12_column 48 = .ok (.goto 10, 3) := by decide +kernel
theorem dX12_column_51 : decode cX12_column 51 = .ok (.aload_n 0, 1) := by decide +kernel
theorem dX12_column_52 : decode cX12_column 52 = .ok (.iload_n 2, 1) := by decide +kernel
theorem dX12_column_53 : decode cX12_column 53 = .ok (.iload 4, 2) := by decide +kernel
theorem dX12_column_55 : decode cX12_column 55 = .ok (.invokevirtual 283, 3) := by decide +kernel
theorem dX12_column_58 : decode cX12_column 58 = .ok (.iinc 4 1, 3) := by decide +kernel
theorem dX12_column_61 : decode cX12_column 61 = .ok (.goto (-46), 3) := by decide +kernel
theorem dX12_column_64 : decode cX12_column 64 = .ok (.return_, 1) := by decide +kernel
theorem dX12_walk_0 : decode cX12_walk 0 = .ok (.aload_n 0, 1) := by decide +kernel
theorem dX12_walk_1 : decode cX12_walk 1 = .ok (.iload_n 1, 1) := by decide +kernel
theorem dX12_walk_2 : decode cX12_walk 2 = .ok (.putfield 246, 3) := by decide +kernel
theorem dX12_walk_5 : decode cX12_walk 5 = .ok (.iconst 0, 1) := by decide +kernel
theorem dX12_walk_6 : decode cX12_walk 6 = .ok (.istore_n 3, 1) := by decide +kernel
theorem dX12_walk_7 : decode cX12_walk 7 = .ok (.iload_n 3, 1) := by decide +kernel
theorem dX12_walk_8 : decode cX12_walk 8 = .ok (.bipush 100, 2) := by decide +kernel
theorem dX12_walk_10 : decode cX12_walk 10 = .ok (.if_icmp .ge 16, 3) := by decide +kernel
theorem dX12_walk_13 : decode cX12_walk 13 = .ok (.aload_n 0, 1) := by decide +kernel
theorem dX12_walk_14 : decode cX12_walk 14 = .ok (.getfield 75, 3) := by decide +kernel
theorem dX12_walk_17 : decode cX12_walk 17 = .ok (.iload_n 3, 1) := by decide +kernel
theorem dX12_walk_18 : decode cX12_walk 18 = .ok (.iconst 0, 1) := by decide +kernel
theorem dX12_walk_19 : decode cX12_walk 19 = .ok (.iastore, 1) := by decide +kernel
theorem dX12_walk_20 : decode cX12_walk 20 = .ok (.iinc 3 1, 3) := by decide +kernel
theorem dX12_walk_23 : decode cX12_walk 23 = .ok (.goto (-16), 3) := by decide +kernel
theorem dX12_walk_26 : decode cX12_walk 26 = .ok (.iconst 0, 1) := by decide +kernel
theorem dX12_walk_27 : decode cX12_walk 27 = .ok (.istore_n 3, 1) := by decide +kernel
theorem dX12_walk_28 : decode cX12_walk 28 = .ok (.iload_n 3, 1) := by decide +kernel
theorem dX12_walk_29 : decode cX12_walk 29 = .ok (.bipush 64, 2) := by decide +kernel
theorem dX12_walk_31 : decode cX12_walk 31 = .ok (.if_icmp .ge 16, 3) := by decide +kernel
theorem dX12_walk_34 : decode cX12_walk 34 = .ok (.aload_n 0, 1) := by decide +kernel
theorem dX12_walk_35 : decode cX12_walk 35 = .ok (.getfield 81, 3) := by decide +kernel
theorem dX12_walk_38 : decode cX12_walk 38 = .ok (.iload_n 3, 1) := by decide +kernel
theorem dX12_walk_39 : decode cX12_walk 39 = .ok (.iconst 0, 1) := by decide +kernel
theorem dX12_walk_40 : decode cX12_walk 40 = .ok (.bastore, 1) := by decide +kernel
theorem dX12_walk_41 : decode cX12_walk 41 = .ok (.iinc 3 1, 3) := by decide +kernel
theorem dX12_walk_44 : decode cX12_walk 44 = .ok (.goto (-16), 3) := by decide +kernel
theorem dX12_walk_47 : decode cX12_walk 47 = .ok (.aload_n 0, 1) := by decide +kernel
theorem dX12_walk_48 : decode cX12_walk 48 = .ok (.aload_n 0, 1) := by decide +kernel
theorem dX12_walk_49 : decode cX12_walk 49 = .ok (.getfield 44, 3) := by decide +kernel
theorem dX12_walk_52 : decode cX12_walk 52 = .ok (.iload_n 1, 1) := by decide +kernel
theorem dX12_walk_53 : decode cX12_walk 53 = .ok (.iaload, 1) := by decide +kernel
theorem dX12_walk_54 : decode cX12_walk 54 = .ok (.iconst 1, 1) := by decide +kernel
theorem dX12_walk_55 : decode cX12_walk 55 = .ok (.isub, 1) := by decide +kernel
theorem dX12_walk_56 : decode cX12_walk 56 = .ok (.putfield 252, 3) := by decide +kernel
theorem dX12_walk_59 : decode cX12_walk 59 = .ok (.iconst 2, 1) := by decide +kernel
theorem dX12_walk_60 : decode cX12_walk 60 = .ok (.istore_n 3, 1) := by decide +kernel
theorem dX12_walk_61 : decode cX12_walk 61 = .ok (.iconst 0, 1) := by decide +kernel
theorem dX12_walk_62 : decode cX12_walk 62 = .ok (.istore 4, 2) := by decide +kernel
theorem dX12_walk_64 : decode cX12_walk 64 = .ok (.iload 4, 2) := by decide +kernel
theorem dX12_walk_66 : decode cX12_walk 66 = .ok (.iload_n 2, 1) := by decide +kernel
theorem dX12_walk_67 : decode cX12_walk 67 = .ok (.if_icmp .ge 126, 3) := by decide +kernel
theorem dX12_walk_70 : decode cX12_walk 70 = .ok (.iconst 0, 1) := by decide +kernel
theorem dX12_walk_71 : decode cX12_walk 71 = .ok (.istore 5, 2) := by decide +kernel
theorem dX12_walk_73 : decode cX12_walk 73 = .ok (.iload 5, 2) := by decide +kernel
theorem dX12_walk_75 : decode cX12_walk 75 = .ok (.bipush 64, 2) := by decide +kernel
theorem dX12_walk_77 : decode cX12_walk 77 = .ok (.if_icmp .ge 26, 3) := by decide +kernel
theorem dX12_walk_80 : decode cX12_walk 80 = .ok (.iload_n 3, 1) := by decide +kernel
theorem dX12_walk_81 : decode cX12_walk 81 = .ok (.ifCond .eq 8, 3) := by decide +kernel
theorem dX12_walk_84 : decode cX12_walk 84 = .ok (.iload 4, 2) := by decide +kernel
theorem dX12_walk_86 : decode cX12_walk 86 = .ok (.ifCond .ne 17, 3) := by decide +kernel
theorem dX12_walk_89 : decode cX12_walk 89 = .ok (.aload_n 0, 1) := by decide +kernel
theorem dX12_walk_90 : decode cX12_walk 90 = .ok (.getfield 78, 3) := by decide +kernel
theorem dX12_walk_93 : decode cX12_walk 93 = .ok (.iload 5, 2) := by decide +kernel
theorem dX12_walk_95 : decode cX12_walk 95 = .ok (.iconst 0, 1) := by decide +kernel
theorem dX12_walk_96 : decode cX12_walk 96 = .ok (.bastore, 1) := by decide +kernel
theorem dX12_walk_97 : decode cX12_walk 97 = .ok (.iinc 5 1, 3) := by decide +kernel
theorem dX12_walk_100 : decode cX12_walk 100 = .ok (.goto (-27), 3) := by decide +kernel
theorem dX12_walk_103 : decode cX12_walk 103 = .ok (.iconst 0, 1) := by decide +kernel
theorem dX12_walk_104 : decode cX12_walk 104 = .ok (.istore 5, 2) := by decide +kernel
theorem dX12_walk_106 : decode cX12_walk 106 = .ok (.iload 5, 2) := by decide +kernel
theorem dX12_walk_108 : decode cX12_walk 108 = .ok (.aload_n 0, 1) := by decide +kernel
theorem dX12_walk_109 : decode cX12_walk 109 = .ok (.getfield 38, 3) := by decide +kernel
theorem dX12_walk_112 : decode cX12_walk 112 = .ok (.iload_n 1, 1) := by decide +kernel
theorem dX12_walk_113 : decode cX12_walk 113 = .ok (.iaload, 1) := by decide +kernel
theorem dX12_walk_114 : decode cX12_walk 114 = .ok (.if_icmp .ge 38, 3) := by decide +kernel
theorem dX12_walk_117 : decode cX12_walk 117 = .ok (.iconst 0, 1) := by decide +kernel
theorem dX12_walk_118 : decode cX12_walk 118 = .ok (.istore 6, 2) := by decide +kernel
theorem dX12_walk_120 : decode cX12_walk 120 = .ok (.iload 6, 2) := by decide +kernel
theorem dX12_walk_122 : decode cX12_walk 122 = .ok (.aload_n 0, 1) := by decide +kernel
theorem dX12_walk_123 : decode cX12_walk 123 = .ok (.getfield 35, 3) := by decide +kernel
theorem dX12_walk_126 : decode cX12_walk 126 = .ok (.iload_n 1, 1) := by decide +kernel
theorem dX12_walk_127 : decode cX12_walk 127 = .ok (.iaload, 1) := by decide +kernel
theorem dX12_walk_128 : decode cX12_walk 128 = .ok (.if_icmp .ge 18, 3) := by decide +kernel
theorem dX12_walk_131 : decode cX12_walk 131 = .ok (.aload_n 0, 1) := by decide +kernel
theorem dX12_walk_132 : decode cX12_walk 132 = .ok (.iload_n 3, 1) := by decide +kernel
theorem dX12_walk_133 : decode cX12_walk 133 = .ok (.iload 6, 2) := by decide +kernel
theorem dX12_walk_135 : decode cX12_walk 135 = .ok (.iload 5, 2) := by decide +kernel
theorem dX12_walk_137 : decode cX12_walk 137 = .ok (.invokevirtual 286, 3) := by decide +kernel
theorem dX12_walk_140 : decode cX12_walk 140 = .ok (.iinc 6 1, 3) := by decide +kernel
theorem dX12_walk_143 : decode cX12_walk 143 = .ok (.goto (-23), 3) := by decide +kernel
theorem dX12_walk_146 : decode cX12_walk 146 = .ok (.iinc 5 4, 3) := by decide +kernel
theorem dX12_walk_149 : decode cX12_walk 149 = .ok (.goto (-43), 3) := by decide +kernel
theorem dX12_walk_152 : decode cX12_walk 152 = .ok (.aload_n 0, 1) := by decide +kernel
theorem dX12_walk_153 : decode cX12_walk 153 = .ok (.iload_n 3, 1) := by decide +kernel
theorem dX12_walk_154 : decode cX12_walk 154 = .ok (.iconst 2, 1) := by decide +kernel
theorem dX12_walk_155 : decode cX12_walk 155 = .ok (.if_icmp .ne 12, 3) := by decide +kernel
theorem dX12_walk_158 : decode cX12_walk 158 = .ok (.aload_n 0, 1) := by decide +kernel
theorem dX12_walk_159 : decode cX12_walk 159 = .ok (.getfield 252, 3) := by decide +kernel
theorem dX12_walk_162 : decode cX12_walk 162 = .ok (.iconst 1, 1) := by decide +kernel
theorem dX12_walk_163 : decode cX12_walk 163 = .ok (.isub, 1) := by decide +kernel
theorem dX12_walk_164 : decode cX12_walk 164 = .ok (.goto 7, 3) := by decide +kernel
theorem dX12_walk_167 : decode cX12_walk 167 = .ok (.aload_n 0, 1) := by decide +kernel
theorem dX12_walk_168 : decode cX12_walk 168 = .ok (.getfield 252, 3) := by decide +kernel
theorem dX12_walk_171 : decode cX12_walk 171 = .ok (.putfield 252, 3) := by decide +kernel
theorem dX12_walk_174 : decode cX12_walk 174 = .ok (.iload_n 3, 1) := by decide +kernel
theorem dX12_walk_175 : decode cX12_walk 175 = .ok (.iconst 2, 1) := by decide +kernel
theorem dX12_walk_176 : decode cX12_walk 176 = .ok (.if_icmp .ne 7, 3) := by decide +kernel
theorem dX12_walk_179 : decode cX12_walk 179 = .ok (.iconst 0, 1) := by decide +kernel
theorem dX12_walk_180 : decode cX12_walk 180 = .ok (.goto 6, 3) := by decide +kernel
theorem dX12_walk_183 : decode cX12_walk 183 = .ok (.iload_n 3, 1) := by decide +kernel
theorem dX12_walk_184 : decode cX12_walk 184 = .ok (.iconst 1, 1) := by decide +kernel
theorem dX12_walk_185 : decode cX12_walk 185 = .ok (.iadd, 1) := by decide +kernel
theorem dX12_walk_186 : decode cX12_walk 186 = .ok (.istore_n 3, 1) := by decide +kernel
theorem dX12_walk_187 : decode cX12_walk 187 = .ok (.iinc 4 1, 3) := by decide +kernel
theorem dX12_walk_190 : decode cX12_walk 190 = .ok (.goto (-126), 3) := by decide +kernel
theorem dX12_walk_193 : decode cX12_walk 193 = .ok (.return_, 1) := by decide +kernel
theorem dX12_findPlanes_0 : decode cX12_findPlanes 0 = .ok (.aload_n 0, 1) := by decide +kernel
theorem dX12_findPlanes_1 : decode cX12_findPlanes 1 = .ok (.getfield 44, 3) := by decide +kernel
theorem dX12_findPlanes_4 : decode cX12_findPlanes 4 = .ok (.iload_n 1, 1) := by decide +kernel
theorem dX12_findPlanes_5 : decode cX12_findPlanes 5 = .ok (.iconst 0, 1) := by decide +kernel
theorem dX12_findPlanes_6 : decode cX12_findPlanes 6 = .ok (.iastore, 1) := by decide +kernel
theorem dX12_findPlanes_7 : decode cX12_findPlanes 7 = .ok (.bipush 64, 2) := by decide +kernel
theorem dX12_findPlanes_9 : decode cX12_findPlanes 9 = .ok (.iload_n 1, 1) := by decide +kernel
theorem dX12_findPlanes_10 : decode cX12_findPlanes 10 = .ok (.imul, 1) := by decide +kernel
theorem dX12_findPlanes_11 : decode cX12_findPlanes 11 = .ok (.istore_n 2, 1) := by decide +kernel
theorem dX12_findPlanes_12 : decode cX12_findPlanes 12 = .ok (.iload_n 2, 1) := by decide +kernel
theorem dX12_findPlanes_13 : decode cX12_findPlanes 13 = .ok (.bipush 64, 2) := by decide +kernel
theorem dX12_findPlanes_15 : decode cX12_findPlanes 15 = .ok (.iload_n 1, 1) := by decide +kernel
theorem dX12_findPlanes_16 : decode cX12_findPlanes 16 = .ok (.imul, 1) := by decide +kernel
theorem dX12_findPlanes_17 : decode cX12_findPlanes 17 = .ok (.bipush 64, 2) := by decide +kernel
theorem dX12_findPlanes_19 : decode cX12_findPlanes 19 = .ok (.iadd, 1) := by decide +kernel
theorem dX12_findPlanes_20 : decode cX12_findPlanes 20 = .ok (.if_icmp .ge 39, 3) := by decide +kernel
theorem dX12_findPlanes_23 : decode cX12_findPlanes 23 = .ok (.aload_n 0, 1) := by decide +kernel
theorem dX12_findPlanes_24 : decode cX12_findPlanes 24 = .ok (.getfield 47, 3) := by decide +kernel
theorem dX12_findPlanes_27 : decode cX12_findPlanes 27 = .ok (.iload_n 2, 1) := by decide +kernel
theorem dX12_findPlanes_28 : decode cX12_findPlanes 28 = .ok (.iaload, 1) := by decide +kernel
theorem dX12_findPlanes_29 : decode cX12_findPlanes 29 = .ok (.iconst 1, 1) := by decide +kernel
theorem dX12_findPlanes_30 : decode cX12_findPlanes 30 = .ok (.aload_n 0, 1) := by decide +kernel
theorem dX12_findPlanes_31 : decode cX12_findPlanes 31 = .ok (.getfield 44, 3) := by decide +kernel
theorem dX12_findPlanes_34 : decode cX12_findPlanes 34 = .ok (.iload_n 1, 1) := by decide +kernel
theorem dX12_findPlanes_35 : decode cX12_findPlanes 35 = .ok (.iaload, 1) := by decide +kernel
theorem dX12_findPlanes_36 : decode cX12_findPlanes 36 = .ok (.ishl, 1) := by decide +kernel
theorem dX12_findPlanes_37 : decode cX12_findPlanes 37 = .ok (.if_icmp .lt 16, 3) := by decide +kernel
theorem dX12_findPlanes_40 : decode cX12_findPlanes 40 = .ok (.aload_n 0, 1) := by decide +kernel
theorem dX12_findPlanes_41 : decode cX12_findPlanes 41 = .ok (.getfield 44, 3) := by decide +kernel
theorem dX12_findPlanes_44 : decode cX12_findPlanes 44 = .ok (.iload_n 1, 1) := by decide +kernel
theorem dX12_findPlanes_45 : decode cX12_findPlanes 45 = .ok (.dup2, 1) := by decide +kernel
theorem dX12_findPlanes_46 : decode cX12_findPlanes 46 = .ok (.iaload, 1) := by decide +kernel
theorem dX12_findPlanes_47 : decode cX12_findPlanes 47 = .ok (.iconst 1, 1) := by decide +kernel
theorem dX12_findPlanes_48 : decode cX12_findPlanes 48 = .ok (.iadd, 1) := by decide +kernel
theorem dX12_findPlanes_49 : decode cX12_findPlanes 49 = .ok (.iastore, 1) := by decide +kernel
theorem dX12_findPlanes_50 : decode cX12_findPlanes 50 = .ok (.goto (-27), 3) := by decide +kernel
theorem dX12_findPlanes_53 : decode cX12_findPlanes 53 = .ok (.iinc 2 1, 3) := by decide +kernel
theorem dX12_findPlanes_56 : decode cX12_findPlanes 56 = .ok (.goto (-44), 3) := by decide +kernel
theorem dX12_findPlanes_59 : decode cX12_findPlanes 59 = .ok (.return_, 1) := by decide +kernel
theorem dX12_useWord_0 : decode cX12_useWord 0 = .ok (.iconst 0, 1) := by decide +kernel
theorem dX12_useWord_1 : decode cX12_useWord 1 = .ok (.istore_n 2, 1) := by decide +kernel
theorem dX12_useWord_2 : decode cX12_useWord 2 = .ok (.iload_n 2, 1) := by decide +kernel
theorem dX12_useWord_3 : decode cX12_useWord 3 = .ok (.aload_n 0, 1) := by decide +kernel
theorem dX12_useWord_4 : decode cX12_useWord 4 = .ok (.getfield 69, 3) := by decide +kernel
theorem dX12_useWord_7 : decode cX12_useWord 7 = .ok (.iload_n 1, 1) := by decide +kernel
theorem dX12_useWord_8 : decode cX12_useWord 8 = .ok (.iaload, 1) := by decide +kernel
theorem dX12_useWord_9 : decode cX12_useWord 9 = .ok (.if_icmp .ge 28, 3) := by decide +kernel
theorem dX12_useWord_12 : decode cX12_useWord 12 = .ok (.aload_n 0, 1) := by decide +kernel
theorem dX12_useWord_13 : decode cX12_useWord 13 = .ok (.getfield 93, 3) := by decide +kernel
theorem dX12_useWord_16 : decode cX12_useWord 16 = .ok (.iload_n 2, 1) := by decide +kernel
theorem dX12_useWord_17 : decode cX12_useWord 17 = .ok (.aload_n 0, 1) := by decide +kernel
theorem dX12_useWord_18 : decode cX12_useWord 18 = .ok (.getfield 63, 3) := by decide +kernel
theorem dX12_useWord_21 : decode cX12_useWord 21 = .ok (.aload_n 0, 1) := by decide +kernel
theorem dX12_useWord_22 : decode cX12_useWord 22 = .ok (.getfield 66, 3) := by decide +kernel
theorem dX12_useWord_25 : decode cX12_useWord 25 = .ok (.iload_n 1, 1) := by decide +kernel
theorem dX12_useWord_26 : decode cX12_useWord 26 = .ok (.iaload, 1) := by decide +kernel
theorem dX12_useWord_27 : decode cX12_useWord 27 = .ok (.iload_n 2, 1) := by decide +kernel
theorem dX12_useWord_28 : decode cX12_useWord 28 = .ok (.iadd, 1) := by decide +kernel
theorem dX12_useWord_29 : decode cX12_useWord 29 = .ok (.iaload, 1) := by decide +kernel
theorem dX12_useWord_30 : decode cX12_useWord 30 = .ok (.iastore, 1) := by decide +kernel
theorem dX12_useWord_31 : decode cX12_useWord 31 = .ok (.iinc 2 1, 3) := by decide +kernel
theorem dX12_useWord_34 : decode cX12_useWord 34 = .ok (.goto (-32), 3) := by decide +kernel
theorem dX12_useWord_37 : decode cX12_useWord 37 = .ok (.return_, 1) := by decide +kernel
theorem dX12_tellBand_0 : decode cX12_tellBand 0 = .ok (.aload_n 0, 1) := by decide +kernel
theorem dX12_tellBand_1 : decode cX12_tellBand 1 = .ok (.iload_n 1, 1) := by decide +kernel
theorem dX12_tellBand_2 : decode cX12_tellBand 2 = .ok (.invokevirtual 290, 3) := by decide +kernel
theorem dX12_tellBand_5 : decode cX12_tellBand 5 = .ok (.aload_n 0, 1) := by decide +kernel
theorem dX12_tellBand_6 : decode cX12_tellBand 6 = .ok (.getfield 66, 3) := by decide +kernel
theorem dX12_tellBand_9 : decode cX12_tellBand 9 = .ok (.iload_n 1, 1) := by decide +kernel
theorem dX12_tellBand_10 : decode cX12_tellBand 10 = .ok (.iload_n 2, 1) := by decide +kernel
theorem dX12_tellBand_11 : decode cX12_tellBand 11 = .ok (.iastore, 1) := by decide +kernel
theorem dX12_tellBand_12 : decode cX12_tellBand 12 = .ok (.aload_n 0, 1) := by decide +kernel
theorem dX12_tellBand_13 : decode cX12_tellBand 13 = .ok (.getfield 69, 3) := by decide +kernel
theorem dX12_tellBand_16 : decode cX12_tellBand 16 = .ok (.iload_n 1, 1) := by decide +kernel
theorem dX12_tellBand_17 : decode cX12_tellBand 17 = .ok (.iconst 0, 1) := by decide +kernel
theorem dX12_tellBand_18 : decode cX12_tellBand 18 = .ok (.iastore, 1) := by decide +kernel
theorem dX12_tellBand_19 : decode cX12_tellBand 19 = .ok (.aload_n 0, 1) := by decide +kernel
theorem dX12_tellBand_20 : decode cX12_tellBand 20 = .ok (.getfield 72, 3) := by decide +kernel
theorem dX12_tellBand_23 : decode cX12_tellBand 23 = .ok (.bipush 35, 2) := by decide +kernel
theorem dX12_tellBand_25 : decode cX12_tellBand 25 = .ok (.iload_n 1, 1) := by decide +kernel
theorem dX12_tellBand_26 : decode cX12_tellBand 26 = .ok (.imul, 1) := by decide +kernel
theorem dX12_tellBand_27 : decode cX12_tellBand 27 = .ok (.iconst 0, 1) := by decide +kernel
theorem dX12_tellBand_28 : decode cX12_tellBand 28 = .ok (.iastore, 1) := by decide +kernel
theorem dX12_tellBand_29 : decode cX12_tellBand 29 = .ok (.aload_n 0, 1) := by decide +kernel
theorem dX12_tellBand_30 : decode cX12_tellBand 30 = .ok (.getfield 44, 3) := by decide +kernel
theorem dX12_tellBand_33 : decode cX12_tellBand 33 = .ok (.iload_n 1, 1) := by decide +kernel
theorem dX12_tellBand_34 : decode cX12_tellBand 34 = .ok (.iaload, 1) := by decide +kernel
theorem dX12_tellBand_35 : decode cX12_tellBand 35 = .ok (.ifCond .ne 4, 3) := by decide +kernel
theorem dX12_tellBand_38 : decode cX12_tellBand 38 = .ok (.return_, 1) := by decide +kernel
theorem dX12_tellBand_39 : decode cX12_tellBand 39 = .ok (.aload_n 0, 1) := by decide +kernel
theorem dX12_tellBand_40 : decode cX12_tellBand 40 = .ok (.invokevirtual 293, 3) := by decide +kernel
theorem dX12_tellBand_43 : decode cX12_tellBand 43 = .ok (.aload_n 0, 1) := by decide +kernel
theorem dX12_tellBand_44 : decode cX12_tellBand 44 = .ok (.iload_n 1, 1) := by decide +kernel
theorem dX12_tellBand_45 : decode cX12_tellBand 45 = .ok (.aload_n 0, 1) := by decide +kernel
theorem dX12_tellBand_46 : decode cX12_tellBand 46 = .ok (.iload_n 1, 1) := by decide +kernel
theorem dX12_tellBand_47 : decode cX12_tellBand 47 = .ok (.invokevirtual 296, 3) := by decide +kernel
theorem dX12_tellBand_50 : decode cX12_tellBand 50 = .ok (.invokevirtual 299, 3) := by decide +kernel
theorem dX12_tellBand_53 : decode cX12_tellBand 53 = .ok (.aload_n 0, 1) := by decide +kernel
theorem dX12_tellBand_54 : decode cX12_tellBand 54 = .ok (.invokevirtual 302, 3) := by decide +kernel
theorem dX12_tellBand_57 : decode cX12_tellBand 57 = .ok (.aload_n 0, 1) := by decide +kernel
theorem dX12_tellBand_58 : decode cX12_tellBand 58 = .ok (.getfield 69, 3) := by decide +kernel
theorem dX12_tellBand_61 : decode cX12_tellBand 61 = .ok (.iload_n 1, 1) := by decide +kernel
theorem dX12_tellBand_62 : decode cX12_tellBand 62 = .ok (.aload_n 0, 1) := by decide +kernel
theorem dX12_tellBand_63 : decode cX12_tellBand 63 = .ok (.getfield 166, 3) := by decide +kernel
theorem dX12_tellBand_66 : decode cX12_tellBand 66 = .ok (.iconst 1, 1) := by decide +kernel
theorem dX12_tellBand_67 : decode cX12_tellBand 67 = .ok (.isub, 1) := by decide +kernel
theorem dX12_tellBand_68 : decode cX12_tellBand 68 = .ok (.iastore, 1) := by decide +kernel
theorem dX12_tellBand_69 : decode cX12_tellBand 69 = .ok (.iconst 1, 1) := by decide +kernel
theorem dX12_tellBand_70 : decode cX12_tellBand 70 = .ok (.istore_n 3, 1) := by decide +kernel
theorem dX12_tellBand_71 : decode cX12_tellBand 71 = .ok (.iload_n 3, 1) := by decide +kernel
theorem dX12_tellBand_72 : decode cX12_tellBand 72 = .ok (.aload_n 0, 1) := by decide +kernel
theorem dX12_tellBand_73 : decode cX12_tellBand 73 = .ok (.getfield 166, 3) := by decide +kernel
theorem dX12_tellBand_76 : decode cX12_tellBand 76 = .ok (.if_icmp .ge 25, 3) := by decide +kernel
theorem dX12_tellBand_79 : decode cX12_tellBand 79 = .ok (.aload_n 0, 1) := by decide +kernel
theorem dX12_tellBand_80 : decode cX12_tellBand 80 = .ok (.getfield 63, 3) := by decide +kernel
theorem dX12_tellBand_83 : decode cX12_tellBand 83 = .ok (.iload_n 2, 1) := by decide +kernel
theorem dX12_tellBand_84 : decode cX12_tellBand 84 = .ok (.iload_n 3, 1) := by decide +kernel
theorem dX12_tellBand_85 : decode cX12_tellBand 85 = .ok (.iadd, 1) := by decide +kernel
theorem dX12_tellBand_86 : decode cX12_tellBand 86 = .ok (.iconst 1, 1) := by decide +kernel
theorem dX12_tellBand_87 : decode cX12_tellBand 87 = .ok (.isub, 1) := by decide +kernel
theorem dX12_tellBand_88 : decode cX12_tellBand 88 = .ok (.aload_n 0, 1) := by decide +kernel
theorem dX12_tellBand_89 : decode cX12_tellBand 89 = .ok (.getfield 90, 3) := by decide +kernel
theorem dX12_tellBand_92 : decode cX12_tellBand 92 = .ok (.iload_n 3, 1) := by decide +kernel
theorem dX12_tellBand_93 : decode cX12_tellBand 93 = .ok (.iaload, 1) := by decide +kernel
theorem dX12_tellBand_94 : decode cX12_tellBand 94 = .ok (.iastore, 1) := by decide +kernel
theorem dX12_tellBand_95 : decode cX12_tellBand 95 = .ok (.iinc 3 1, 3) := by decide +kernel
theorem dX12_tellBand_98 : decode cX12_tellBand 98 = .ok (.goto (-27), 3) := by decide +kernel
theorem dX12_tellBand_101 : decode cX12_tellBand 101 = .ok (.aload_n 0, 1) := by decide +kernel
theorem dX12_tellBand_102 : decode cX12_tellBand 102 = .ok (.iload_n 1, 1) := by decide +kernel
theorem dX12_tellBand_103 : decode cX12_tellBand 103 = .ok (.invokevirtual 305, 3) := by decide +kernel
theorem dX12_tellBand_106 : decode cX12_tellBand 106 = .ok (.iconst 0, 1) := by decide +kernel
theorem dX12_tellBand_107 : decode cX12_tellBand 107 = .ok (.istore_n 3, 1) := by decide +kernel
theorem dX12_tellBand_108 : decode cX12_tellBand 108 = .ok (.iconst 1, 1) := by decide +kernel
theorem dX12_tellBand_109 : decode cX12_tellBand 109 = .ok (.istore 4, 2) := by decide +kernel
theorem dX12_tellBand_111 : decode cX12_tellBand 111 = .ok (.iload 4, 2) := by decide +kernel
theorem dX12_tellBand_113 : decode cX12_tellBand 113 = .ok (.aload_n 0, 1) := by decide +kernel
theorem dX12_tellBand_114 : decode cX12_tellBand 114 = .ok (.iload_n 1, 1) := by decide +kernel
theorem dX12_tellBand_115 : decode cX12_tellBand 115 = .ok (.invokevirtual 296, 3) := by decide +kernel
theorem dX12_tellBand_118 : decode cX12_tellBand 118 = .ok (.if_icmp .gt 98, 3) := by decide +kernel
theorem dX12_tellBand_121 : decode cX12_tellBand 121 = .ok (.aload_n 0, 1) := by decide +kernel
theorem dX12_tellBand_122 : decode cX12_tellBand 122 = .ok (.iconst 1, 1) := by decide +kernel
theorem dX12_tellBand_123 : decode cX12_tellBand 123 = .ok (.putfield 227, 3) := by decide +kernel
theorem dX12_tellBand_126 : decode cX12_tellBand 126 = .ok (.iload_n 3, 1) := by decide +kernel
theorem dX12_tellBand_127 : decode cX12_tellBand 127 = .ok (.iconst 1, 1) := by decide +kernel
theorem dX12_tellBand_128 : decode cX12_tellBand 128 = .ok (.isub, 1) := by decide +kernel
theorem dX12_tellBand_129 : decode cX12_tellBand 129 = .ok (.istore_n 3, 1) := by decide +kernel
theorem dX12_tellBand_130 : decode cX12_tellBand 130 = .ok (.aload_n 0, 1) := by decide +kernel
theorem dX12_tellBand_131 : decode cX12_tellBand 131 = .ok (.getfield 227, 3) := by decide +kernel
theorem dX12_tellBand_134 : decode cX12_tellBand 134 = .ok (.ifCond .eq 63, 3) := by decide +kernel
theorem dX12_tellBand_137 : decode cX12_tellBand 137 = .ok (.iinc 3 1, 3) := by decide +kernel
theorem dX12_tellBand_140 : decode cX12_tellBand 140 = .ok (.iload_n 3, 1) := by decide +kernel
theorem dX12_tellBand_141 : decode cX12_tellBand 141 = .ok (.ifCond .ge 7, 3) := by decide +kernel
theorem dX12_tellBand_144 : decode cX12_tellBand 144 = .ok (.iconst 0, 1) := by decide +kernel
theorem dX12_tellBand_145 : decode cX12_tellBand 145 = .ok (.goto 4, 3) := by decide +kernel
theorem dX12_tellBand_148 : decode cX12_tellBand 148 = .ok (.iload_n 3, 1) := by decide +kernel
theorem dX12_tellBand_149 : decode cX12_tellBand 149 = .ok (.istore_n 3, 1) := by decide +kernel
theorem dX12_tellBand_150 : decode cX12_tellBand 150 = .ok (.aload_n 0, 1) := by decide +kernel
theorem dX12_tellBand_151 : decode cX12_tellBand 151 = .ok (.iload_n 3, 1) := by decide +kernel
theorem dX12_tellBand_152 : decode cX12_tellBand 152 = .ok (.iconst 2, 1) := by decide +kernel
theorem dX12_tellBand_153 : decode cX12_tellBand 153 = .ok (.invokevirtual 308, 3) := by decide +kernel
theorem dX12_tellBand_156 : decode cX12_tellBand 156 = .ok (.aload_n 0, 1) := by decide +kernel
theorem dX12_tellBand_157 : decode cX12_tellBand 157 = .ok (.iconst 0, 1) := by decide +kernel
theorem dX12_tellBand_158 : decode cX12_tellBand 158 = .ok (.putfield 227, 3) := by decide +kernel
theorem dX12_tellBand_161 : decode cX12_tellBand 161 = .ok (.aload_n 0, 1) := by decide +kernel
theorem dX12_tellBand_162 : decode cX12_tellBand 162 = .ok (.iload_n 1, 1) := by decide +kernel
theorem dX12_tellBand_163 : decode cX12_tellBand 163 = .ok (.iload 4, 2) := by decide +kernel
theorem dX12_tellBand_165 : decode cX12_tellBand 165 = .ok (.invokevirtual 299, 3) := by decide +kernel
theorem dX12_tellBand_168 : decode cX12_tellBand 168 = .ok (.aload_n 0, 1) := by decide +kernel
theorem dX12_tellBand_169 : decode cX12_tellBand 169 = .ok (.aload_n 0, 1) := by decide +kernel
theorem dX12_tellBand_170 : decode cX12_tellBand 170 = .ok (.getfield 227, 3) := by decide +kernel
theorem dX12_tellBand_173 : decode cX12_tellBand 173 = .ok (.ifCond .eq 17, 3) := by decide +kernel
theorem dX12_tellBand_176 : decode cX12_tellBand 176 = .ok (.iload_n 3, 1) := by decide +kernel
theorem dX12_tellBand_177 : decode cX12_tellBand 177 = .ok (.aload_n 0, 1) := by decide +kernel
theorem dX12_tellBand_178 : decode cX12_tellBand 178 = .ok (.getfield 69, 3) := by decide +kernel
theorem dX12_tellBand_181 : decode cX12_tellBand 181 = .ok (.iload_n 1, 1) := by decide +kernel
theorem dX12_tellBand_182 : decode cX12_tellBand 182 = .ok (.iaload, 1) := by decide +kernel
theorem dX12_tellBand_183 : decode cX12_tellBand 183 = .ok (.if_icmp .ge 7, 3) := by decide +kernel
theorem dX12_tellBand_186 : decode cX12_tellBand 186 = .ok (.iconst 1, 1) := by decide +kernel
theorem dX12_tellBand_187 : decode cX12_tellBand 187 = .ok (.goto 4, 3) := by decide +kernel
theorem dX12_tellBand_190 : decode cX12_tellBand 190 = .ok (.iconst 0, 1) := by decide +kernel
theorem dX12_tellBand_191 : decode cX12_tellBand 191 = .ok (.putfield 227, 3) := by decide +kernel
theorem dX12_tellBand_194 : decode cX12_tellBand 194 = .ok (.goto (-64), 3) := by decide +kernel
theorem dX12_tellBand_197 : decode cX12_tellBand 197 = .ok (.aload_n 0, 1) := by decide +kernel
theorem dX12_tellBand_198 : decode cX12_tellBand 198 = .ok (.getfield 72, 3) := by decide +kernel
theorem dX12_tellBand_201 : decode cX12_tellBand 201 = .ok (.bipush 35, 2) := by decide +kernel
theorem dX12_tellBand_203 : decode cX12_tellBand 203 = .ok (.iload_n 1, 1) := by decide +kernel
theorem dX12_tellBand_204 : decode cX12_tellBand 204 = .ok (.imul, 1) := by decide +kernel
theorem dX12_tellBand_205 : decode cX12_tellBand 205 = .ok (.iload 4, 2) := by decide +kernel
theorem dX12_tellBand_207 : decode cX12_tellBand 207 = .ok (.iadd, 1) := by decide +kernel
theorem dX12_tellBand_208 : decode cX12_tellBand 208 = .ok (.iload_n 3, 1) := by decide +kernel
theorem dX12_tellBand_209 : decode cX12_tellBand 209 = .ok (.iastore, 1) := by decide +kernel
theorem dX12_tellBand_210 : decode cX12_tellBand 210 = .ok (.iinc 4 1, 3) := by decide +kernel
theorem dX12_tellBand_213 : decode cX12_tellBand 213 = .ok (.goto (-102), 3) := by decide +kernel
theorem dX12_tellBand_216 : decode cX12_tellBand 216 = .ok (.return_, 1) := by decide +kernel
theorem dX12_putBits_0 : decode cX12_putBits 0 = .ok (.iload_n 2, 1) := by decide +kernel
theorem dX12_putBits_1 : decode cX12_putBits 1 = .ok (.iconst 1, 1) := by decide +kernel
theorem dX12_putBits_2 : decode cX12_putBits 2 = .ok (.isub, 1) := by decide +kernel
theorem dX12_putBits_3 : decode cX12_putBits 3 = .ok (.istore_n 3, 1) := by decide +kernel
theorem dX12_putBits_4 : decode cX12_putBits 4 = .ok (.iload_n 3, 1) := by decide +kernel
theorem dX12_putBits_5 : decode cX12_putBits 5 = .ok (.ifCond .lt 74, 3) := by decide +kernel
theorem dX12_putBits_8 : decode cX12_putBits 8 = .ok (.aload_n 0, 1) := by decide +kernel
theorem dX12_putBits_9 : decode cX12_putBits 9 = .ok (.getfield 96, 3) := by decide +kernel
theorem dX12_putBits_12 : decode cX12_putBits 12 = .ok (.aload_n 0, 1) := by decide +kernel
theorem dX12_putBits_13 : decode cX12_putBits 13 = .ok (.getfield 311, 3) := by decide +kernel
theorem dX12_putBits_16 : decode cX12_putBits 16 = .ok (.aload_n 0, 1) := by decide +kernel
theorem dX12_putBits_17 : decode cX12_putBits 17 = .ok (.getfield 314, 3) := by decide +kernel
theorem dX12_putBits_20 : decode cX12_putBits 20 = .ok (.ifCond .ne 7, 3) := by decide +kernel
theorem dX12_putBits_23 : decode cX12_putBits 23 = .ok (.iconst 0, 1) := by decide +kernel
theorem dX12_putBits_24 : decode cX12_putBits 24 = .ok (.goto 12, 3) := by decide +kernel
theorem dX12_putBits_27 : decode cX12_putBits 27 = .ok (.aload_n 0, 1) := by decide +kernel
theorem dX12_putBits_28 : decode cX12_putBits 28 = .ok (.getfield 96, 3) := by decide +kernel
theorem dX12_putBits_31 : decode cX12_putBits 31 = .ok (.aload_n 0, 1) := by decide +kernel
theorem dX12_putBits_32 : decode cX12_putBits 32 = .ok (.getfield 311, 3) := by decide +kernel
theorem dX12_putBits_35 : decode cX12_putBits 35 = .ok (.iaload, 1) := by decide +kernel
theorem dX12_putBits_36 : decode cX12_putBits 36 = .ok (.iastore, 1) := by decide +kernel
theorem dX12_putBits_37 : decode cX12_putBits 37 = .ok (.aload_n 0, 1) := by decide +kernel
theorem dX12_putBits_38 : decode cX12_putBits 38 = .ok (.getfield 96, 3) := by decide +kernel
theorem dX12_putBits_41 : decode cX12_putBits 41 = .ok (.aload_n 0, 1) := by decide +kernel
theorem dX12_putBits_42 : decode cX12_putBits 42 = .ok (.getfield 311, 3) := by decide +kernel
theorem dX12_putBits_45 : decode cX12_putBits 45 = .ok (.aload_n 0, 1) := by decide +kernel
theorem dX12_putBits_46 : decode cX12_putBits 46 = .ok (.getfield 96, 3) := by decide +kernel
theorem dX12_putBits_49 : decode cX12_putBits 49 = .ok (.aload_n 0, 1) := by decide +kernel
theorem dX12_putBits_50 : decode cX12_putBits 50 = .ok (.getfield 311, 3) := by decide +kernel
theorem dX12_putBits_53 : decode cX12_putBits 53 = .ok (.iaload, 1) := by decide +kernel
theorem dX12_putBits_54 : decode cX12_putBits 54 = .ok (.iload_n 1, 1) := by decide +kernel
theorem dX12_putBits_55 : decode cX12_putBits 55 = .ok (.iload_n 3, 1) := by decide +kernel
theorem dX12_putBits_56 : decode cX12_putBits 56 = .ok (.ishr, 1) := by decide +kernel
theorem dX12_putBits_57 : decode cX12_putBits 57 = .ok (.iconst 1, 1) := by decide +kernel
theorem dX12_putBits_58 : decode cX12_putBits 58 = .ok (.iand, 1) := by decide +kernel
theorem dX12_putBits_59 : decode cX12_putBits 59 = .ok (.bipush 7, 2) := by decide +kernel
theorem dX12_putBits_61 : decode cX12_putBits 61 = .ok (.aload_n 0, 1) := by decide +kernel
theorem dX12_putBits_62 : decode cX12_putBits 62 = .ok (.getfield 314, 3) := by decide +kernel
theorem dX12_putBits_65 : decode cX12_putBits 65 = .ok (.isub, 1) := by decide +kernel
theorem dX12_putBits_66 : decode cX12_putBits 66 = .ok (.ishl, 1) := by decide +kernel
theorem dX12_putBits_67 : decode cX12_putBits 67 = .ok (.iadd, 1) := by decide +kernel
theorem dX12_putBits_68 : decode cX12_putBits 68 = .ok (.iastore, 1) := by decide +kernel
theorem dX12_putBits_69 : decode cX12_putBits 69 = .ok (.aload_n 0, 1) := by decide +kernel
theorem dX12_putBits_70 : decode cX12_putBits 70 = .ok (.invokevirtual 317, 3) := by decide +kernel
theorem dX12_putBits_73 : decode cX12_putBits 73 = .ok (.iinc 3 (-1), 3) := by decide +kernel
theorem dX12_putBits_76 : decode cX12_putBits 76 = .ok (.goto (-72), 3) := by decide +kernel
theorem dX12_putBits_79 : decode cX12_putBits 79 = .ok (.return_, 1) := by decide +kernel
theorem dX12_stepBit_0 : decode cX12_stepBit 0 = .ok (.aload_n 0, 1) := by decide +kernel
theorem dX12_stepBit_1 : decode cX12_stepBit 1 = .ok (.aload_n 0, 1) := by decide +kernel
theorem dX12_stepBit_2 : decode cX12_stepBit 2 = .ok (.getfield 314, 3) := by decide +kernel
theorem dX12_stepBit_5 : decode cX12_stepBit 5 = .ok (.bipush 7, 2) := by decide +kernel
theorem dX12_stepBit_7 : decode cX12_stepBit 7 = .ok (.if_icmp .ne 7, 3) := by decide +kernel
theorem dX12_stepBit_10 : decode cX12_stepBit 10 = .ok (.iconst 0, 1) := by decide +kernel
theorem dX12_stepBit_11 : decode cX12_stepBit 11 = .ok (.goto 9, 3) := by decide +kernel
theorem dX12_stepBit_14 : decode cX12_stepBit 14 = .ok (.aload_n 0, 1) := by decide +kernel
theorem dX12_stepBit_15 : decode cX12_stepBit 15 = .ok (.getfield 314, 3) := by decide +kernel
theorem dX12_stepBit_18 : decode cX12_stepBit 18 = .ok (.iconst 1, 1) := by decide +kernel
theorem dX12_stepBit_19 : decode cX12_stepBit 19 = .ok (.iadd, 1) := by decide +kernel
theorem dX12_stepBit_20 : decode cX12_stepBit 20 = .ok (.putfield 314, 3) := by decide +kernel
theorem dX12_stepBit_23 : decode cX12_stepBit 23 = .ok (.aload_n 0, 1) := by decide +kernel
theorem dX12_stepBit_24 : decode cX12_stepBit 24 = .ok (.aload_n 0, 1) := by decide +kernel
theorem dX12_stepBit_25 : decode cX12_stepBit 25 = .ok (.getfield 314, 3) := by decide +kernel
theorem dX12_stepBit_28 : decode cX12_stepBit 28 = .ok (.ifCond .ne 12, 3) := by decide +kernel
theorem dX12_stepBit_31 : decode cX12_stepBit 31 = .ok (.aload_n 0, 1) := by decide +kernel
theorem dX12_stepBit_32 : decode cX12_stepBit 32 = .ok (.getfield 311, 3) := by decide +kernel
theorem dX12_stepBit_35 : decode cX12_stepBit 35 = .ok (.iconst 1, 1) := by decide +kernel
theorem dX12_stepBit_36 : decode cX12_stepBit 36 = .ok (.iadd, 1) := by decide +kernel
theorem dX12_stepBit_37 : decode cX12_stepBit 37 = .ok (.goto 7, 3) := by decide +kernel
theorem dX12_stepBit_40 : decode cX12_stepBit 40 = .ok (.aload_n 0, 1) := by decide +kernel
theorem dX12_stepBit_41 : decode cX12_stepBit 41 = .ok (.getfield 311, 3) := by decide +kernel
theorem dX12_stepBit_44 : decode cX12_stepBit 44 = .ok (.putfield 311, 3) := by decide +kernel
theorem dX12_stepBit_47 : decode cX12_stepBit 47 = .ok (.return_, 1) := by decide +kernel
theorem dX12_log_0 : decode cX12_log 0 = .ok (.iconst 0, 1) := by decide +kernel
theorem dX12_log_1 : decode cX12_log 1 = .ok (.istore_n 1, 1) := by decide +kernel
theorem dX12_log_2 : decode cX12_log 2 = .ok (.iload_n 0, 1) := by decide +kernel
theorem dX12_log_3 : decode cX12_log 3 = .ok (.iconst 1, 1) := by decide +kernel
theorem dX12_log_4 : decode cX12_log 4 = .ok (.iload_n 1, 1) := by decide +kernel
theorem dX12_log_5 : decode cX12_log 5 = .ok (.iconst 1, 1) := by decide +kernel
theorem dX12_log_6 : decode cX12_log 6 = .ok (.iadd, 1) := by decide +kernel
theorem dX12_log_7 : decode cX12_log 7 = .ok (.ishl, 1) := by decide +kernel
theorem dX12_log_8 : decode cX12_log 8 = .ok (.if_icmp .gt 12, 3) := by decide +kernel
theorem dX12_log_11 : decode cX12_log 11 = .ok (.iload_n 0, 1) := by decide +kernel
theorem dX12_log_12 : decode cX12_log 12 = .ok (.iconst 1, 1) := by decide +kernel
theorem dX12_log_13 : decode cX12_log 13 = .ok (.iload_n 1, 1) := by decide +kernel
theorem dX12_log_14 : decode cX12_log 14 = .ok (.iconst 1, 1) := by decide +kernel
theorem dX12_log_15 : decode cX12_log 15 = .ok (.iadd, 1) := by decide +kernel
theorem dX12_log_16 : decode cX12_log 16 = .ok (.ishl, 1) := by decide +kernel
theorem dX12_log_17 : decode cX12_log 17 = .ok (.if_icmp .ne 9, 3) := by decide +kernel
theorem dX12_log_20 : decode cX12_log 20 = .ok (.iinc 1 1, 3) := by decide +kernel
theorem dX12_log_23 : decode cX12_log 23 = .ok (.goto (-21), 3) := by decide +kernel
theorem dX12_log_26 : decode cX12_log 26 = .ok (.iload_n 1, 1) := by decide +kernel
theorem dX12_log_27 : decode cX12_log 27 = .ok (.ireturn, 1) := by decide +kernel
theorem dX12_putHead_0 : decode cX12_putHead 0 = .ok (.aload_n 0, 1) := by decide +kernel
theorem dX12_putHead_1 : decode cX12_putHead 1 = .ok (.getfield 54, 3) := by decide +kernel
theorem dX12_putHead_4 : decode cX12_putHead 4 = .ok (.iload_n 1, 1) := by decide +kernel
theorem dX12_putHead_5 : decode cX12_putHead 5 = .ok (.iaload, 1) := by decide +kernel
theorem dX12_putHead_6 : decode cX12_putHead 6 = .ok (.aload_n 0, 1) := by decide +kernel
theorem dX12_putHead_7 : decode cX12_putHead 7 = .ok (.getfield 57, 3) := by decide +kernel
theorem dX12_putHead_10 : decode cX12_putHead 10 = .ok (.iload_n 1, 1) := by decide +kernel
theorem dX12_putHead_11 : decode cX12_putHead 11 = .ok (.iaload, 1) := by decide +kernel
theorem dX12_putHead_12 : decode cX12_putHead 12 = .ok (.isub, 1) := by decide +kernel
theorem dX12_putHead_13 : decode cX12_putHead 13 = .ok (.istore_n 2, 1) := by decide +kernel
theorem dX12_putHead_14 : decode cX12_putHead 14 = .ok (.aload_n 0, 1) := by decide +kernel
theorem dX12_putHead_15 : decode cX12_putHead 15 = .ok (.iload_n 2, 1) := by decide +kernel
theorem dX12_putHead_16 : decode cX12_putHead 16 = .ok (.ifCond .le 7, 3) := by decide +kernel
theorem dX12_putHead_19 : decode cX12_putHead 19 = .ok (.iconst 1, 1) := by decide +kernel
theorem dX12_putHead_20 : decode cX12_putHead 20 = .ok (.goto 4, 3) := by decide +kernel
theorem dX12_putHead_23 : decode cX12_putHead 23 = .ok (.iconst 0, 1) := by decide +kernel
theorem dX12_putHead_24 : decode cX12_putHead 24 = .ok (.iconst 1, 1) := by decide +kernel
theorem dX12_putHead_25 : decode cX12_putHead 25 = .ok (.invokevirtual 320, 3) := by decide +kernel
theorem dX12_putHead_28 : decode cX12_putHead 28 = .ok (.iload_n 2, 1) := by decide +kernel
theorem dX12_putHead_29 : decode cX12_putHead 29 = .ok (.ifCond .ne 4, 3) := by decide +kernel
theorem dX12_putHead_32 : decode cX12_putHead 32 = .ok (.return_, 1) := by decide +kernel
theorem dX12_putHead_33 : decode cX12_putHead 33 = .ok (.aload_n 0, 1) := by decide +kernel
theorem dX12_putHead_34 : decode cX12_putHead 34 = .ok (.getfield 57, 3) := by decide +kernel
theorem dX12_putHead_37 : decode cX12_putHead 37 = .ok (.iload_n 1, 1) := by decide +kernel
theorem dX12_putHead_38 : decode cX12_putHead 38 = .ok (.iaload, 1) := by decide +kernel
theorem dX12_putHead_39 : decode cX12_putHead 39 = .ok (.ifCond .ne 14, 3) := by decide +kernel
theorem dX12_putHead_42 : decode cX12_putHead 42 = .ok (.aload_n 0, 1) := by decide +kernel
theorem dX12_putHead_43 : decode cX12_putHead 43 = .ok (.aload_n 0, 1) := by decide +kernel
theorem dX12_putHead_44 : decode cX12_putHead 44 = .ok (.getfield 44, 3) := by decide +kernel
theorem dX12_putHead_47 : decode cX12_putHead 47 = .ok (.iload_n 1, 1) := by decide +kernel
theorem dX12_putHead_48 : decode cX12_putHead 48 = .ok (.iaload, 1) := by decide +kernel
theorem dX12_putHead_49 : decode cX12_putHead 49 = .ok (.iconst 4, 1) := by decide +kernel
theorem dX12_putHead_50 : decode cX12_putHead 50 = .ok (.invokevirtual 320, 3) := by decide +kernel
theorem dX12_putHead_53 : decode cX12_putHead 53 = .ok (.iload_n 2, 1) := by decide +kernel
theorem dX12_putHead_54 : decode cX12_putHead 54 = .ok (.iconst 3, 1) := by decide +kernel
theorem dX12_putHead_55 : decode cX12_putHead 55 = .ok (.if_icmp .ge 21, 3) := by decide +kernel
theorem dX12_putHead_58 : decode cX12_putHead 58 = .ok (.aload_n 0, 1) := by decide +kernel
theorem dX12_putHead_59 : decode cX12_putHead 59 = .ok (.iload_n 2, 1) := by decide +kernel
theorem dX12_putHead_60 : decode cX12_putHead 60 = .ok (.iconst 1, 1) := by decide +kernel
theorem dX12_putHead_61 : decode cX12_putHead 61 = .ok (.if_icmp .ne 7, 3) := by decide +kernel
theorem dX12_putHead_64 : decode cX12_putHead 64 = .ok (.iconst 0, 1) := by decide +kernel
theorem dX12_putHead_65 : decode cX12_putHead 65 = .ok (.goto 4, 3) := by decide +kernel
theorem dX12_putHead_68 : decode cX12_putHead 68 = .ok (.iconst 2, 1) := by decide +kernel
theorem dX12_putHead_69 : decode cX12_putHead 69 = .ok (.iload_n 2, 1) := by decide +kernel
theorem dX12_putHead_70 : decode cX12_putHead 70 = .ok (.invokevirtual 320, 3) := by decide +kernel
theorem dX12_putHead_73 : decode cX12_putHead 73 = .ok (.goto 42, 3) := by decide +kernel
theorem dX12_putHead_76 : decode cX12_putHead 76 = .ok (.iload_n 2, 1) := by decide +kernel
theorem dX12_putHead_77 : decode cX12_putHead 77 = .ok (.bipush 6, 2) := by decide +kernel
theorem dX12_putHead_79 : decode cX12_putHead 79 = .ok (.if_icmp .ge 20, 3) := by decide +kernel
theorem dX12_putHead_82 : decode cX12_putHead 82 = .ok (.aload_n 0, 1) := by decide +kernel
theorem dX12_putHead_83 : decode cX12_putHead 83 = .ok (.iconst 3, 1) := by decide +kernel
theorem dX12_putHead_84 : decode cX12_putHead 84 = .ok (.iconst 2, 1) := by decide +kernel
theorem dX12_putHead_85 : decode cX12_putHead 85 = .ok (.invokevirtual 320, 3) := by decide +kernel
theorem dX12_putHead_88 : decode cX12_putHead 88 = .ok (.aload_n 0, 1) := by decide +kernel
theorem dX12_putHead_89 : decode cX12_putHead 89 = .ok (.iload_n 2, 1) := by decide +kernel
theorem dX12_putHead_90 : decode cX12_putHead 90 = .ok (.iconst 3, 1) := by decide +kernel
theorem dX12_putHead_91 : decode cX12_putHead 91 = .ok (.isub, 1) := by decide +kernel
theorem dX12_putHead_92 : decode cX12_putHead 92 = .ok (.iconst 2, 1) := by decide +kernel
theorem dX12_putHead_93 : decode cX12_putHead 93 = .ok (.invokevirtual 320, 3) := by decide +kernel
theorem dX12_putHead_96 : decode cX12_putHead 96 = .ok (.goto 19, 3) := by decide +kernel
theorem dX12_putHead_99 : decode cX12_putHead 99 = .ok (.aload_n 0, 1) := by decide +kernel
theorem dX12_putHead_100 : decode cX12_putHead 100 = .ok (.bipush 15, 2) := by decide +kernel
theorem dX12_putHead_102 : decode cX12_putHead 102 = .ok (.iconst 4, 1) := by decide +kernel
theorem dX12_putHead_103 : decode cX12_putHead 103 = .ok (.invokevirtual 320, 3) := by decide +kernel
theorem dX12_putHead_106 : decode cX12_putHead 106 = .ok (.aload_n 0, 1) := by decide +kernel
theorem dX12_putHead_107 : decode cX12_putHead 107 = .ok (.iload_n 2, 1) := by decide +kernel
theorem dX12_putHead_108 : decode cX12_putHead 108 = .ok (.bipush 6, 2) := by decide +kernel
theorem dX12_putHead_110 : decode cX12_putHead 110 = .ok (.isub, 1) := by decide +kernel
theorem dX12_putHead_111 : decode cX12_putHead 111 = .ok (.iconst 5, 1) := by decide +kernel
theorem dX12_putHead_112 : decode cX12_putHead 112 = .ok (.invokevirtual 320, 3) := by decide +kernel
theorem dX12_putHead_115 : decode cX12_putHead 115 = .ok (.aload_n 0, 1) := by decide +kernel
theorem dX12_putHead_116 : decode cX12_putHead 116 = .ok (.getfield 72, 3) := by decide +kernel
theorem dX12_putHead_119 : decode cX12_putHead 119 = .ok (.bipush 35, 2) := by decide +kernel
theorem dX12_putHead_121 : decode cX12_putHead 121 = .ok (.iload_n 1, 1) := by decide +kernel
theorem dX12_putHead_122 : decode cX12_putHead 122 = .ok (.imul, 1) := by decide +kernel
theorem dX12_putHead_123 : decode cX12_putHead 123 = .ok (.aload_n 0, 1) := by decide +kernel
theorem dX12_putHead_124 : decode cX12_putHead 124 = .ok (.getfield 54, 3) := by decide +kernel
theorem dX12_putHead_127 : decode cX12_putHead 127 = .ok (.iload_n 1, 1) := by decide +kernel
theorem dX12_putHead_128 : decode cX12_putHead 128 = .ok (.iaload, 1) := by decide +kernel
theorem dX12_putHead_129 : decode cX12_putHead 129 = .ok (.iadd, 1) := by decide +kernel
theorem dX12_putHead_130 : decode cX12_putHead 130 = .ok (.iaload, 1) := by decide +kernel
theorem dX12_putHead_131 : decode cX12_putHead 131 = .ok (.aload_n 0, 1) := by decide +kernel
theorem dX12_putHead_132 : decode cX12_putHead 132 = .ok (.getfield 72, 3) := by decide +kernel
theorem dX12_putHead_135 : decode cX12_putHead 135 = .ok (.bipush 35, 2) := by decide +kernel
theorem dX12_putHead_137 : decode cX12_putHead 137 = .ok (.iload_n 1, 1) := by decide +kernel
theorem dX12_putHead_138 : decode cX12_putHead 138 = .ok (.imul, 1) := by decide +kernel
theorem dX12_putHead_139 : decode cX12_putHead 139 = .ok (.aload_n 0, 1) := by decide +kernel
theorem dX12_putHead_140 : decode cX12_putHead 140 = .ok (.getfield 57, 3) := by decide +kernel
theorem dX12_putHead_143 : decode cX12_putHead 143 = .ok (.iload_n 1, 1) := by decide +kernel
theorem dX12_putHead_144 : decode cX12_putHead 144 = .ok (.iaload, 1) := by decide +kernel
theorem dX12_putHead_145 : decode cX12_putHead 145 = .ok (.iadd, 1) := by decide +kernel
theorem dX12_putHead_146 : decode cX12_putHead 146 = .ok (.iaload, 1) := by decide +kernel
theorem dX12_putHead_147 : decode cX12_putHead 147 = .ok (.isub, 1) := by decide +kernel
theorem dX12_putHead_148 : decode cX12_putHead 148 = .ok (.istore_n 3, 1) := by decide +kernel
theorem dX12_putHead_149 : decode cX12_putHead 149 = .ok (.iload_n 3, 1) := by decide +kernel
theorem dX12_putHead_150 : decode cX12_putHead 150 = .ok (.iconst 1, 1) := by decide +kernel
theorem dX12_putHead_151 : decode cX12_putHead 151 = .ok (.aload_n 0, 1) := by decide +kernel
theorem dX12_putHead_152 : decode cX12_putHead 152 = .ok (.getfield 60, 3) := by decide +kernel
theorem dX12_putHead_155 : decode cX12_putHead 155 = .ok (.iload_n 1, 1) := by decide +kernel
theorem dX12_putHead_156 : decode cX12_putHead 156 = .ok (.iaload, 1) := by decide +kernel
theorem dX12_putHead_157 : decode cX12_putHead 157 = .ok (.iload_n 2, 1) := by decide +kernel
theorem dX12_putHead_158 : decode cX12_putHead 158 = .ok (.invokestatic 323, 3) := by decide +kernel
theorem dX12_putHead_161 : decode cX12_putHead 161 = .ok (.iadd, 1) := by decide +kernel
theorem dX12_putHead_162 : decode cX12_putHead 162 = .ok (.ishl, 1) := by decide +kernel
theorem dX12_putHead_163 : decode cX12_putHead 163 = .ok (.if_icmp .lt 22, 3) := by decide +kernel
theorem dX12_putHead_166 : decode cX12_putHead 166 = .ok (.aload_n 0, 1) := by decide +kernel
theorem dX12_putHead_167 : decode cX12_putHead 167 = .ok (.iconst 1, 1) := by decide +kernel
theorem dX12_putHead_168 : decode cX12_putHead 168 = .ok (.iconst 1, 1) := by decide +kernel
theorem dX12_putHead_169 : decode cX12_putHead 169 = .ok (.invokevirtual 320, 3) := by decide +kernel
theorem dX12_putHead_172 : decode cX12_putHead 172 = .ok (.aload_n 0, 1) := by decide +kernel
theorem dX12_putHead_173 : decode cX12_putHead 173 = .ok (.getfield 60, 3) := by decide +kernel
theorem dX12_putHead_176 : decode cX12_putHead 176 = .ok (.iload_n 1, 1) := by decide +kernel
theorem dX12_putHead_177 : decode cX12_putHead 177 = .ok (.dup2, 1) := by decide +kernel
theorem dX12_putHead_178 : decode cX12_putHead 178 = .ok (.iaload, 1) := by decide +kernel
theorem dX12_putHead_179 : decode cX12_putHead 179 = .ok (.iconst 1, 1) := by decide +kernel
theorem dX12_putHead_180 : decode cX12_putHead 180 = .ok (.iadd, 1) := by decide +kernel
theorem dX12_putHead_181 : decode cX12_putHead 181 = .ok (.iastore, 1) := by decide +kernel
theorem dX12_putHead_182 : decode cX12_putHead 182 = .ok (.goto (-33), 3) := by decide +kernel
theorem dX12_putHead_185 : decode cX12_putHead 185 = .ok (.aload_n 0, 1) := by decide +kernel
theorem dX12_putHead_186 : decode cX12_putHead 186 = .ok (.iconst 0, 1) := by decide +kernel
theorem dX12_putHead_187 : decode cX12_putHead 187 = .ok (.iconst 1, 1) := by decide +kernel
theorem dX12_putHead_188 : decode cX12_putHead 188 = .ok (.invokevirtual 320, 3) := by decide +kernel
theorem dX12_putHead_191 : decode cX12_putHead 191 = .ok (.aload_n 0, 1) := by decide +kernel
theorem dX12_putHead_192 : decode cX12_putHead 192 = .ok (.iload_n 3, 1) := by decide +kernel
theorem dX12_putHead_193 : decode cX12_putHead 193 = .ok (.aload_n 0, 1) := by decide +kernel
theorem dX12_putHead_194 : decode cX12_putHead 194 = .ok (.getfield 60, 3) := by decide +kernel
theorem dX12_putHead_197 : decode cX12_putHead 197 = .ok (.iload_n 1, 1) := by decide +kernel
theorem dX12_putHead_198 : decode cX12_putHead 198 = .ok (.iaload, 1) := by decide +kernel
theorem dX12_putHead_199 : decode cX12_putHead 199 = .ok (.iload_n 2, 1) := by decide +kernel
theorem dX12_putHead_200 : decode cX12_putHead 200 = .ok (.invokestatic 323, 3) := by decide +kernel
theorem dX12_putHead_203 : decode cX12_putHead 203 = .ok (.iadd, 1) := by decide +kernel
theorem dX12_putHead_204 : decode cX12_putHead 204 = .ok (.invokevirtual 320, 3) := by decide +kernel
theorem dX12_putHead_207 : decode cX12_putHead 207 = .ok (.return_, 1) := by decide +kernel
theorem dX12_firstOf_0 : decode cX12_firstOf 0 = .ok (.iload_n 0, 1) := by decide +kernel
theorem dX12_firstOf_1 : decode cX12_firstOf 1 = .ok (.ifCond .ne 7, 3) := by decide +kernel
theorem dX12_firstOf_4 : decode cX12_firstOf 4 = .ok (.iconst 0, 1) := by decide +kernel
theorem dX12_firstOf_5 : decode cX12_firstOf 5 = .ok (.goto 8, 3) := by decide +kernel
theorem dX12_firstOf_8 : decode cX12_firstOf 8 = .ok (.iconst 3, 1) := by decide +kernel
theorem dX12_firstOf_9 : decode cX12_firstOf 9 = .ok (.iload_n 0, 1) := by decide +kernel
theorem dX12_firstOf_10 : decode cX12_firstOf 10 = .ok (.imul, 1) := by decide +kernel
theorem dX12_firstOf_11 : decode cX12_firstOf 11 = .ok (.iconst 2, 1) := by decide +kernel
theorem dX12_firstOf_12 : decode cX12_firstOf 12 = .ok (.isub, 1) := by decide +kernel
theorem dX12_firstOf_13 : decode cX12_firstOf 13 = .ok (.ireturn, 1) := by decide +kernel
theorem dX12_putPacket_0 : decode cX12_putPacket 0 = .ok (.iconst 0, 1) := by decide +kernel
theorem dX12_putPacket_1 : decode cX12_putPacket 1 = .ok (.istore 4, 2) := by decide +kernel
theorem dX12_putPacket_3 : decode cX12_putPacket 3 = .ok (.iload_n 1, 1) := by decide +kernel
theorem dX12_putPacket_4 : decode cX12_putPacket 4 = .ok (.invokestatic 326, 3) := by decide +kernel
theorem dX12_putPacket_7 : decode cX12_putPacket 7 = .ok (.istore 5, 2) := by decide +kernel
theorem dX12_putPacket_9 : decode cX12_putPacket 9 = .ok (.iload 5, 2) := by decide +kernel
theorem dX12_putPacket_11 : decode cX12_putPacket 11 = .ok (.iconst 3, 1) := by decide +kernel
theorem dX12_putPacket_12 : decode cX12_putPacket 12 = .ok (.iload_n 1, 1) := by decide +kernel
theorem dX12_putPacket_13 : decode cX12_putPacket 13 = .ok (.imul, 1) := by decide +kernel
theorem dX12_putPacket_14 : decode cX12_putPacket 14 = .ok (.if_icmp .gt 69, 3) := by decide +kernel
theorem dX12_putPacket_17 : decode cX12_putPacket 17 = .ok (.aload_n 0, 1) := by decide +kernel
theorem dX12_putPacket_18 : decode cX12_putPacket 18 = .ok (.getfield 57, 3) := by decide +kernel
theorem dX12_putPacket_21 : decode cX12_putPacket 21 = .ok (.iload 5, 2) := by decide +kernel
theorem dX12_putPacket_23 : decode cX12_putPacket 23 = .ok (.aload_n 0, 1) := by decide +kernel
theorem dX12_putPacket_24 : decode cX12_putPacket 24 = .ok (.getfield 54, 3) := by decide +kernel
theorem dX12_putPacket_27 : decode cX12_putPacket 27 = .ok (.iload 5, 2) := by decide +kernel
theorem dX12_putPacket_29 : decode cX12_putPacket 29 = .ok (.iaload, 1) := by decide +kernel
theorem dX12_putPacket_30 : decode cX12_putPacket 30 = .ok (.iastore, 1) := by decide +kernel
theorem dX12_putPacket_31 : decode cX12_putPacket 31 = .ok (.aload_n 0, 1) := by decide +kernel
theorem dX12_putPacket_32 : decode cX12_putPacket 32 = .ok (.getfield 54, 3) := by decide +kernel
theorem dX12_putPacket_35 : decode cX12_putPacket 35 = .ok (.iload 5, 2) := by decide +kernel
theorem dX12_putPacket_37 : decode cX12_putPacket 37 = .ok (.aload_n 0, 1) := by decide +kernel
theorem dX12_putPacket_38 : decode cX12_putPacket 38 = .ok (.iload 5, 2) := by decide +kernel
theorem dX12_putPacket_40 : decode cX12_putPacket 40 = .ok (.invokevirtual 296, 3) := by decide +kernel
theorem dX12_putPacket_43 : decode cX12_putPacket 43 = .ok (.iload_n 2, 1) := by decide +kernel
theorem dX12_putPacket_44 : decode cX12_putPacket 44 = .ok (.imul, 1) := by decide +kernel
theorem dX12_putPacket_45 : decode cX12_putPacket 45 = .ok (.iload_n 3, 1) := by decide +kernel
theorem dX12_putPacket_46 : decode cX12_putPacket 46 = .ok (.idiv, 1) := by decide +kernel
theorem dX12_putPacket_47 : decode cX12_putPacket 47 = .ok (.iastore, 1) := by decide +kernel
theorem dX12_putPacket_48 : decode cX12_putPacket 48 = .ok (.iload 4, 2) := by decide +kernel
theorem dX12_putPacket_50 : decode cX12_putPacket 50 = .ok (.ifCond .ne 20, 3) := by decide +kernel
theorem dX12_putPacket_53 : decode cX12_putPacket 53 = .ok (.aload_n 0, 1) := by decide +kernel
theorem dX12_putPacket_54 : decode cX12_putPacket 54 = .ok (.getfield 54, 3) := by decide +kernel
theorem dX12_putPacket_57 : decode cX12_putPacket 57 = .ok (.iload 5, 2) := by decide +kernel
theorem dX12_putPacket_59 : decode cX12_putPacket 59 = .ok (.iaload, 1) := by decide +kernel
theorem dX12_putPacket_60 : decode cX12_putPacket 60 = .ok (.aload_n 0, 1) := by decide +kernel
theorem dX12_putPacket_61 : decode cX12_putPacket 61 = .ok (.getfield 57, 3) := by decide +kernel
theorem dX12_putPacket_64 : decode cX12_putPacket 64 = .ok (.iload 5, 2) := by decide +kernel
theorem dX12_putPacket_66 : decode cX12_putPacket 66 = .ok (.iaload, 1) := by decide +kernel
theorem dX12_putPacket_67 : decode cX12_putPacket 67 = .ok (.if_icmp .le 7, 3) := by decide +kernel
theorem dX12_putPacket_70 : decode cX12_putPacket 70 = .ok (.iconst 1, 1) := by decide +kernel
theorem dX12_putPacket_71 : decode cX12_putPacket 71 = .ok (.goto 4, 3) := by decide +kernel
theorem dX12_putPacket_74 : decode cX12_putPacket 74 = .ok (.iconst 0, 1) := by decide +kernel
theorem dX12_putPacket_75 : decode cX12_putPacket 75 = .ok (.istore 4, 2) := by decide +kernel
theorem dX12_putPacket_77 : decode cX12_putPacket 77 = .ok (.iinc 5 1, 3) := by decide +kernel
theorem dX12_putPacket_80 : decode cX12_putPacket 80 = .ok (.goto (-71), 3) := by decide +kernel
theorem dX12_putPacket_83 : decode cX12_putPacket 83 = .ok (.aload_n 0, 1) := by decide +kernel
theorem dX12_putPacket_84 : decode cX12_putPacket 84 = .ok (.aload_n 0, 1) := by decide +kernel
theorem dX12_putPacket_85 : decode cX12_putPacket 85 = .ok (.getfield 329, 3) := by decide +kernel
theorem dX12_putPacket_88 : decode cX12_putPacket 88 = .ok (.putfield 311, 3) := by decide +kernel
theorem dX12_putPacket_91 : decode cX12_putPacket 91 = .ok (.aload_n 0, 1) := by decide +kernel
theorem dX12_putPacket_92 : decode cX12_putPacket 92 = .ok (.iconst 0, 1) := by decide +kernel
theorem dX12_putPacket_93 : decode cX12_putPacket 93 = .ok (.putfield 314, 3) := by decide +kernel
theorem dX12_putPacket_96 : decode cX12_putPacket 96 = .ok (.aload_n 0, 1) := by decide +kernel
theorem dX12_putPacket_97 : decode cX12_putPacket 97 = .ok (.iload 4, 2) := by decide +kernel
theorem dX12_putPacket_99 : decode cX12_putPacket 99 = .ok (.ifCond .eq 7, 3) := by decide +kernel
theorem dX12_putPacket_102 : decode cX12_putPacket 102 = .ok (.iconst 1, 1) := by decide +kernel
theorem dX12_putPacket_103 : decode cX12_putPacket 103 = .ok (.goto 4, 3) := by decide +kernel
theorem dX12_putPacket_106 : decode cX12_putPacket 106 = .ok (.iconst 0, 1) := by decide +kernel
theorem dX12_putPacket_107 : decode cX12_putPacket 107 = .ok (.iconst 1, 1) := by decide +kernel
theorem dX12_putPacket_108 : decode cX12_putPacket 108 = .ok (.invokevirtual 320, 3) := by decide +kernel
theorem dX12_putPacket_111 : decode cX12_putPacket 111 = .ok (.iload_n 1, 1) := by decide +kernel
theorem dX12_putPacket_112 : decode cX12_putPacket 112 = .ok (.invokestatic 326, 3) := by decide +kernel
theorem dX12_putPacket_115 : decode cX12_putPacket 115 = .ok (.istore 5, 2) := by decide +kernel
theorem dX12_putPacket_117 : decode cX12_putPacket 117 = .ok (.iload 5, 2) := by decide +kernel
theorem dX12_putPacket_119 : decode cX12_putPacket 119 = .ok (.iconst 3, 1) := by decide +kernel
theorem dX12_putPacket_120 : decode cX12_putPacket 120 = .ok (.iload_n 1, 1) := by decide +kernel
theorem dX12_putPacket_121 : decode cX12_putPacket 121 = .ok (.imul, 1) := by decide +kernel
theorem dX12_putPacket_122 : decode cX12_putPacket 122 = .ok (.if_icmp .gt 38, 3) := by decide +kernel
theorem dX12_putPacket_125 : decode cX12_putPacket 125 = .ok (.iload 4, 2) := by decide +kernel
theorem dX12_putPacket_127 : decode cX12_putPacket 127 = .ok (.ifCond .eq 33, 3) := by decide +kernel
theorem dX12_putPacket_130 : decode cX12_putPacket 130 = .ok (.aload_n 0, 1) := by decide +kernel
theorem dX12_putPacket_131 : decode cX12_putPacket 131 = .ok (.getfield 35, 3) := by decide +kernel
theorem dX12_putPacket_134 : decode cX12_putPacket 134 = .ok (.iload 5, 2) := by decide +kernel
theorem dX12_putPacket_136 : decode cX12_putPacket 136 = .ok (.iaload, 1) := by decide +kernel
theorem dX12_putPacket_137 : decode cX12_putPacket 137 = .ok (.aload_n 0, 1) := by decide +kernel
theorem dX12_putPacket_138 : decode cX12_putPacket 138 = .ok (.getfield 38, 3) := by decide +kernel
theorem dX12_putPacket_141 : decode cX12_putPacket 141 = .ok (.iload 5, 2) := by decide +kernel
theorem dX12_putPacket_143 : decode cX12_putPacket 143 = .ok (.iaload, 1) := by decide +kernel
theorem dX12_putPacket_144 : decode cX12_putPacket 144 = .ok (.imul, 1) := by decide +kernel
theorem dX12_putPacket_145 : decode cX12_putPacket 145 = .ok (.ifCond .le 9, 3) := by decide +kernel
theorem dX12_putPacket_148 : decode cX12_putPacket 148 = .ok (.aload_n 0, 1) := by decide +kernel
theorem dX12_putPacket_149 : decode cX12_putPacket 149 = .ok (.iload 5, 2) := by decide +kernel
theorem dX12_putPacket_151 : decode cX12_putPacket 151 = .ok (.invokevirtual 332, 3) := by decide +kernel
theorem dX12_putPacket_154 : decode cX12_putPacket 154 = .ok (.iinc 5 1, 3) := by decide +kernel
theorem dX12_putPacket_157 : decode cX12_putPacket 157 = .ok (.goto (-40), 3) := by decide +kernel
theorem dX12_putPacket_160 : decode cX12_putPacket 160 = .ok (.aload_n 0, 1) := by decide +kernel
theorem dX12_putPacket_161 : decode cX12_putPacket 161 = .ok (.aload_n 0, 1) := by decide +kernel
theorem dX12_putPacket_162 : decode cX12_putPacket 162 = .ok (.getfield 314, 3) := by decide +kernel
theorem dX12_putPacket_165 : decode cX12_putPacket 165 = .ok (.ifCond .le 12, 3) := by decide +kernel
theorem dX12_putPacket_168 : decode cX12_putPacket 168 = .ok (.aload_n 0, 1) := by decide +kernel
theorem dX12_putPacket_169 : decode cX12_putPacket 169 = .ok (.getfield 311, 3) := by decide +kernel
theorem dX12_putPacket_172 : decode cX12_putPacket 172 = .ok (.iconst 1, 1) := by decide +kernel
theorem dX12_putPacket_173 : decode cX12_putPacket 173 = .ok (.iadd, 1) := by decide +kernel
theorem dX12_putPacket_174 : decode cX12_putPacket 174 = .ok (.goto 7, 3) := by decide +kernel
theorem dX12_putPacket_177 : decode cX12_putPacket 177 = .ok (.aload_n 0, 1) := by decide +kernel
theorem dX12_putPacket_178 : decode cX12_putPacket 178 = .ok (.getfield 311, 3) := by decide +kernel
theorem dX12_putPacket_181 : decode cX12_putPacket 181 = .ok (.putfield 329, 3) := by decide +kernel
theorem dX12_putPacket_184 : decode cX12_putPacket 184 = .ok (.iload_n 1, 1) := by decide +kernel
theorem dX12_putPacket_185 : decode cX12_putPacket 185 = .ok (.invokestatic 326, 3) := by decide +kernel
theorem dX12_putPacket_188 : decode cX12_putPacket 188 = .ok (.istore 5, 2) := by decide +kernel
theorem dX12_putPacket_190 : decode cX12_putPacket 190 = .ok (.iload 5, 2) := by decide +kernel
theorem dX12_putPacket_192 : decode cX12_putPacket 192 = .ok (.iconst 3, 1) := by decide +kernel
theorem dX12_putPacket_193 : decode cX12_putPacket 193 = .ok (.iload_n 1, 1) := by decide +kernel
theorem dX12_putPacket_194 : decode cX12_putPacket 194 = .ok (.imul, 1) := by decide +kernel
theorem dX12_putPacket_195 : decode cX12_putPacket 195 = .ok (.if_icmp .gt 92, 3) := by decide +kernel
theorem dX12_putPacket_198 : decode cX12_putPacket 198 = .ok (.aload_n 0, 1) := by decide +kernel
theorem dX12_putPacket_199 : decode cX12_putPacket 199 = .ok (.getfield 72, 3) := by decide +kernel
theorem dX12_putPacket_202 : decode cX12_putPacket 202 = .ok (.bipush 35, 2) := by decide +kernel
theorem dX12_putPacket_204 : decode cX12_putPacket 204 = .ok (.iload 5, 2) := by decide +kernel
theorem dX12_putPacket_206 : decode cX12_putPacket 206 = .ok (.imul, 1) := by decide +kernel
theorem dX12_putPacket_207 : decode cX12_putPacket 207 = .ok (.aload_n 0, 1) := by decide +kernel
theorem dX12_putPacket_208 : decode cX12_putPacket 208 = .ok (.getfield 57, 3) := by decide +kernel
theorem dX12_putPacket_211 : decode cX12_putPacket 211 = .ok (.iload 5, 2) := by decide +kernel
theorem dX12_putPacket_213 : decode cX12_putPacket 213 = .ok (.iaload, 1) := by decide +kernel
theorem dX12_putPacket_214 : decode cX12_putPacket 214 = .ok (.iadd, 1) := by decide +kernel
theorem dX12_putPacket_215 : decode cX12_putPacket 215 = .ok (.iaload, 1) := by decide +kernel
theorem dX12_putPacket_216 : decode cX12_putPacket 216 = .ok (.istore 6, 2) := by decide +kernel
theorem dX12_putPacket_218 : decode cX12_putPacket 218 = .ok (.iload 6, 2) := by decide +kernel
theorem dX12_putPacket_220 : decode cX12_putPacket 220 = .ok (.aload_n 0, 1) := by decide +kernel
theorem dX12_putPacket_221 : decode cX12_putPacket 221 = .ok (.getfield 72, 3) := by decide +kernel
theorem dX12_putPacket_224 : decode cX12_putPacket 224 = .ok (.bipush 35, 2) := by decide +kernel
theorem dX12_putPacket_226 : decode cX12_putPacket 226 = .ok (.iload 5, 2) := by decide +kernel
theorem dX12_putPacket_228 : decode cX12_putPacket 228 = .ok (.imul, 1) := by decide +kernel
theorem dX12_putPacket_229 : decode cX12_putPacket 229 = .ok (.aload_n 0, 1) := by decide +kernel
theorem dX12_putPacket_230 : decode cX12_putPacket 230 = .ok (.getfield 54, 3) := by decide +kernel
theorem dX12_putPacket_233 : decode cX12_putPacket 233 = .ok (.iload 5, 2) := by decide +kernel
theorem dX12_putPacket_235 : decode cX12_putPacket 235 = .ok (.iaload, 1) := by decide +kernel
theorem dX12_putPacket_236 : decode cX12_putPacket 236 = .ok (.iadd, 1) := by decide +kernel
theorem dX12_putPacket_237 : decode cX12_putPacket 237 = .ok (.iaload, 1) := by decide +kernel
theorem dX12_putPacket_238 : decode cX12_putPacket 238 = .ok (.if_icmp .ge 43, 3) := by decide +kernel
theorem dX12_putPacket_241 : decode cX12_putPacket 241 = .ok (.aload_n 0, 1) := by decide +kernel
theorem dX12_putPacket_242 : decode cX12_putPacket 242 = .ok (.getfield 96, 3) := by decide +kernel
theorem dX12_putPacket_245 : decode cX12_putPacket 245 = .ok (.aload_n 0, 1) := by decide +kernel
theorem dX12_putPacket_246 : decode cX12_putPacket 246 = .ok (.getfield 329, 3) := by decide +kernel
theorem dX12_putPacket_249 : decode cX12_putPacket 249 = .ok (.aload_n 0, 1) := by decide +kernel
theorem dX12_putPacket_250 : decode cX12_putPacket 250 = .ok (.getfield 63, 3) := by decide +kernel
theorem dX12_putPacket_253 : decode cX12_putPacket 253 = .ok (.aload_n 0, 1) := by decide +kernel
theorem dX12_putPacket_254 : decode cX12_putPacket 254 = .ok (.getfield 66, 3) := by decide +kernel
theorem dX12_putPacket_257 : decode cX12_putPacket 257 = .ok (.iload 5, 2) := by decide +kernel
theorem dX12_putPacket_259 : decode cX12_putPacket 259 = .ok (.iaload, 1) := by decide +kernel
theorem dX12_putPacket_260 : decode cX12_putPacket 260 = .ok (.iload 6, 2) := by decide +kernel
theorem dX12_putPacket_262 : decode cX12_putPacket 262 = .ok (.iadd, 1) := by decide +kernel
theorem dX12_putPacket_263 : decode cX12_putPacket 263 = .ok (.iaload, 1) := by decide +kernel
theorem dX12_putPacket_264 : decode cX12_putPacket 264 = .ok (.iastore, 1) := by decide +kernel
theorem dX12_putPacket_265 : decode cX12_putPacket 265 = .ok (.aload_n 0, 1) := by decide +kernel
theorem dX12_putPacket_266 : decode cX12_putPacket 266 = .ok (.dup, 1) := by decide +kernel
theorem dX12_putPacket_267 : decode cX12_putPacket 267 = .ok (.getfield 329, 3) := by decide +kernel
theorem dX12_putPacket_270 : decode cX12_putPacket 270 = .ok (.iconst 1, 1) := by decide +kernel
theorem dX12_putPacket_271 : decode cX12_putPacket 271 = .ok (.iadd, 1) := by decide +kernel
theorem dX12_putPacket_272 : decode cX12_putPacket 272 = .ok (.putfield 329, 3) := by decide +kernel
theorem dX12_putPacket_275 : decode cX12_putPacket 275 = .ok (.iinc 6 1, 3) := by decide +kernel
theorem dX12_putPacket_278 : decode cX12_putPacket 278 = .ok (.goto (-60), 3) := by decide +kernel
theorem dX12_putPacket_281 : decode cX12_putPacket 281 = .ok (.iinc 5 1, 3) := by decide +kernel
theorem dX12_putPacket_284 : decode cX12_putPacket 284 = .ok (.goto (-94), 3) := by decide +kernel
theorem dX12_putPacket_287 : decode cX12_putPacket 287 = .ok (.return_, 1) := by decide +kernel
theorem dX12_loadBand_0 : decode cX12_loadBand 0 = .ok (.iconst 0, 1) := by decide +kernel
theorem dX12_loadBand_1 : decode cX12_loadBand 1 = .ok (.istore_n 3, 1) := by decide +kernel
theorem dX12_loadBand_2 : decode cX12_loadBand 2 = .ok (.iload_n 3, 1) := by decide +kernel
theorem dX12_loadBand_3 : decode cX12_loadBand 3 = .ok (.aload_n 0, 1) := by decide +kernel
theorem dX12_loadBand_4 : decode cX12_loadBand 4 = .ok (.getfield 38, 3) := by decide +kernel
theorem dX12_loadBand_7 : decode cX12_loadBand 7 = .ok (.iload_n 1, 1) := by decide +kernel
theorem dX12_loadBand_8 : decode cX12_loadBand 8 = .ok (.iaload, 1) := by decide +kernel
theorem dX12_loadBand_9 : decode cX12_loadBand 9 = .ok (.if_icmp .ge 102, 3) := by decide +kernel
theorem dX12_loadBand_12 : decode cX12_loadBand 12 = .ok (.iconst 0, 1) := by decide +kernel
theorem dX12_loadBand_13 : decode cX12_loadBand 13 = .ok (.istore 4, 2) := by decide +kernel
theorem dX12_loadBand_15 : decode cX12_loadBand 15 = .ok (.iload 4, 2) := by decide +kernel
theorem dX12_loadBand_17 : decode cX12_loadBand 17 = .ok (.aload_n 0, 1) := by decide +kernel
theorem dX12_loadBand_18 : decode cX12_loadBand 18 = .ok (.getfield 35, 3) := by decide +kernel
theorem dX12_loadBand_21 : decode cX12_loadBand 21 = .ok (.iload_n 1, 1) := by decide +kernel
theorem dX12_loadBand_22 : decode cX12_loadBand 22 = .ok (.iaload, 1) := by decide +kernel
theorem dX12_loadBand_23 : decode cX12_loadBand 23 = .ok (.if_icmp .ge 82, 3) := by decide +kernel
theorem dX12_loadBand_26 : decode cX12_loadBand 26 = .ok (.aload_n 0, 1) := by decide +kernel
theorem dX12_loadBand_27 : decode cX12_loadBand 27 = .ok (.getfield 26, 3) := by decide +kernel
theorem dX12_loadBand_30 : decode cX12_loadBand 30 = .ok (.iload_n 2, 1) := by decide +kernel
theorem dX12_loadBand_31 : decode cX12_loadBand 31 = .ok (.bipush 8, 2) := by decide +kernel
theorem dX12_loadBand_33 : decode cX12_loadBand 33 = .ok (.iload_n 3, 1) := by decide +kernel
theorem dX12_loadBand_34 : decode cX12_loadBand 34 = .ok (.imul, 1) := by decide +kernel
theorem dX12_loadBand_35 : decode cX12_loadBand 35 = .ok (.iadd, 1) := by decide +kernel
theorem dX12_loadBand_36 : decode cX12_loadBand 36 = .ok (.iload 4, 2) := by decide +kernel
theorem dX12_loadBand_38 : decode cX12_loadBand 38 = .ok (.iadd, 1) := by decide +kernel
theorem dX12_loadBand_39 : decode cX12_loadBand 39 = .ok (.iaload, 1) := by decide +kernel
theorem dX12_loadBand_40 : decode cX12_loadBand 40 = .ok (.istore 5, 2) := by decide +kernel
theorem dX12_loadBand_42 : decode cX12_loadBand 42 = .ok (.aload_n 0, 1) := by decide +kernel
theorem dX12_loadBand_43 : decode cX12_loadBand 43 = .ok (.getfield 47, 3) := by decide +kernel
theorem dX12_loadBand_46 : decode cX12_loadBand 46 = .ok (.bipush 64, 2) := by decide +kernel
theorem dX12_loadBand_48 : decode cX12_loadBand 48 = .ok (.iload_n 1, 1) := by decide +kernel
theorem dX12_loadBand_49 : decode cX12_loadBand 49 = .ok (.imul, 1) := by decide +kernel
theorem dX12_loadBand_50 : decode cX12_loadBand 50 = .ok (.bipush 8, 2) := by decide +kernel
theorem dX12_loadBand_52 : decode cX12_loadBand 52 = .ok (.iload_n 3, 1) := by decide +kernel
theorem dX12_loadBand_53 : decode cX12_loadBand 53 = .ok (.imul, 1) := by decide +kernel
theorem dX12_loadBand_54 : decode cX12_loadBand 54 = .ok (.iadd, 1) := by decide +kernel
theorem dX12_loadBand_55 : decode cX12_loadBand 55 = .ok (.iload 4, 2) := by decide +kernel
theorem dX12_loadBand_57 : decode cX12_loadBand 57 = .ok (.iadd, 1) := by decide +kernel
theorem dX12_loadBand_58 : decode cX12_loadBand 58 = .ok (.iload 5, 2) := by decide +kernel
theorem dX12_loadBand_60 : decode cX12_loadBand 60 = .ok (.ifCond .ge 9, 3) := by decide +kernel
theorem dX12_loadBand_63 : decode cX12_loadBand 63 = .ok (.iload 5, 2) := by decide +kernel
theorem dX12_loadBand_65 : decode cX12_loadBand 65 = .ok (.ineg, 1) := by decide +kernel
theorem dX12_loadBand_66 : decode cX12_loadBand 66 = .ok (.goto 5, 3) := by decide +kernel
theorem dX12_loadBand_69 : decode cX12_loadBand 69 = .ok (.iload 5, 2) := by decide +kernel
theorem dX12_loadBand_71 : decode cX12_loadBand 71 = .ok (.iastore, 1) := by decide +kernel
theorem dX12_loadBand_72 : decode cX12_loadBand 72 = .ok (.aload_n 0, 1) := by decide +kernel
theorem dX12_loadBand_73 : decode cX12_loadBand 73 = .ok (.getfield 50, 3) := by decide +kernel
theorem dX12_loadBand_76 : decode cX12_loadBand 76 = .ok (.bipush 64, 2) := by decide +kernel
theorem dX12_loadBand_78 : decode cX12_loadBand 78 = .ok (.iload_n 1, 1) := by decide +kernel
theorem dX12_loadBand_79 : decode cX12_loadBand 79 = .ok (.imul, 1) := by decide +kernel
theorem dX12_loadBand_80 : decode cX12_loadBand 80 = .ok (.bipush 8, 2) := by decide +kernel
theorem dX12_loadBand_82 : decode cX12_loadBand 82 = .ok (.iload_n 3, 1) := by decide +kernel
theorem dX12_loadBand_83 : decode cX12_loadBand 83 = .ok (.imul, 1) := by decide +kernel
theorem dX12_loadBand_84 : decode cX12_loadBand 84 = .ok (.iadd, 1) := by decide +kernel
theorem dX12_loadBand_85 : decode cX12_loadBand 85 = .ok (.iload 4, 2) := by decide +kernel
theorem dX12_loadBand_87 : decode cX12_loadBand 87 = .ok (.iadd, 1) := by decide +kernel
theorem dX12_loadBand_88 : decode cX12_loadBand 88 = .ok (.iload 5, 2) := by decide +kernel
theorem dX12_loadBand_90 : decode cX12_loadBand 90 = .ok (.ifCond .ge 7, 3) := by decide +kernel
theorem dX12_loadBand_93 : decode cX12_loadBand 93 = .ok (.iconst 1, 1) := by decide +kernel
theorem dX12_loadBand_94 : decode cX12_loadBand 94 = .ok (.goto 4, 3) := by decide +kernel
theorem dX12_loadBand_97 : decode cX12_loadBand 97 = .ok (.iconst 0, 1) := by decide +kernel
theorem dX12_loadBand_98 : decode cX12_loadBand 98 = .ok (.bastore, 1) := by decide +kernel
theorem dX12_loadBand_99 : decode cX12_loadBand 99 = .ok (.iinc 4 1, 3) := by decide +kernel
theorem dX12_loadBand_102 : decode cX12_loadBand 102 = .ok (.goto (-87), 3) := by decide +kernel
theorem dX12_loadBand_105 : decode cX12_loadBand 105 = .ok (.iinc 3 1, 3) := by decide +kernel
theorem dX12_loadBand_108 : decode cX12_loadBand 108 = .ok (.goto (-106), 3) := by decide +kernel
theorem dX12_loadBand_111 : decode cX12_loadBand 111 = .ok (.return_, 1) := by decide +kernel
theorem dX12_encode_0 : decode cX12_encode 0 = .ok (.aload_n 0, 1) := by decide +kernel
theorem dX12_encode_1 : decode cX12_encode 1 = .ok (.iload_n 1, 1) := by decide +kernel
theorem dX12_encode_2 : decode cX12_encode 2 = .ok (.iconst 0, 1) := by decide +kernel
theorem dX12_encode_3 : decode cX12_encode 3 = .ok (.iconst 3, 1) := by decide +kernel
theorem dX12_encode_4 : decode cX12_encode 4 = .ok (.invokestatic 120, 3) := by decide +kernel
theorem dX12_encode_7 : decode cX12_encode 7 = .ok (.ifCond .eq 16, 3) := by decide +kernel
theorem dX12_encode_10 : decode cX12_encode 10 = .ok (.iload_n 2, 1) := by decide +kernel
theorem dX12_encode_11 : decode cX12_encode 11 = .ok (.iconst 1, 1) := by decide +kernel
theorem dX12_encode_12 : decode cX12_encode 12 = .ok (.iconst 3, 1) := by decide +kernel
theorem dX12_encode_13 : decode cX12_encode 13 = .ok (.invokestatic 120, 3) := by decide +kernel
theorem dX12_encode_16 : decode cX12_encode 16 = .ok (.ifCond .eq 7, 3) := by decide +kernel
theorem dX12_encode_19 : decode cX12_encode 19 = .ok (.iconst 0, 1) := by decide +kernel
theorem dX12_encode_20 : decode cX12_encode 20 = .ok (.goto 4, 3) := by decide +kernel
theorem dX12_encode_23 : decode cX12_encode 23 = .ok (.iconst 1, 1) := by decide +kernel
theorem dX12_encode_24 : decode cX12_encode 24 = .ok (.putfield 117, 3) := by decide +kernel
theorem dX12_encode_27 : decode cX12_encode 27 = .ok (.aload_n 0, 1) := by decide +kernel
theorem dX12_encode_28 : decode cX12_encode 28 = .ok (.getfield 117, 3) := by decide +kernel
theorem dX12_encode_31 : decode cX12_encode 31 = .ok (.ifCond .le 5, 3) := by decide +kernel
theorem dX12_encode_34 : decode cX12_encode 34 = .ok (.iconst 0, 1) := by decide +kernel
theorem dX12_encode_35 : decode cX12_encode 35 = .ok (.ireturn, 1) := by decide +kernel
theorem dX12_encode_36 : decode cX12_encode 36 = .ok (.iconst 0, 1) := by decide +kernel
theorem dX12_encode_37 : decode cX12_encode 37 = .ok (.istore_n 3, 1) := by decide +kernel
theorem dX12_encode_38 : decode cX12_encode 38 = .ok (.iload_n 3, 1) := by decide +kernel
theorem dX12_encode_39 : decode cX12_encode 39 = .ok (.bipush 64, 2) := by decide +kernel
theorem dX12_encode_41 : decode cX12_encode 41 = .ok (.if_icmp .ge 25, 3) := by decide +kernel
theorem dX12_encode_44 : decode cX12_encode 44 = .ok (.aload_n 0, 1) := by decide +kernel
theorem dX12_encode_45 : decode cX12_encode 45 = .ok (.getfield 26, 3) := by decide +kernel
theorem dX12_encode_48 : decode cX12_encode 48 = .ok (.iload_n 3, 1) := by decide +kernel
theorem dX12_encode_49 : decode cX12_encode 49 = .ok (.aload_n 0, 1) := by decide +kernel
theorem dX12_encode_50 : decode cX12_encode 50 = .ok (.getfield 23, 3) := by decide +kernel
theorem dX12_encode_53 : decode cX12_encode 53 = .ok (.iload_n 3, 1) := by decide +kernel
theorem dX12_encode_54 : decode cX12_encode 54 = .ok (.iaload, 1) := by decide +kernel
theorem dX12_encode_55 : decode cX12_encode 55 = .ok (.sipush 128, 3) := by decide +kernel
theorem dX12_encode_58 : decode cX12_encode 58 = .ok (.isub, 1) := by decide +kernel
theorem dX12_encode_59 : decode cX12_encode 59 = .ok (.iastore, 1) := by decide +kernel
theorem dX12_encode_60 : decode cX12_encode 60 = .ok (.iinc 3 1, 3) := by decide +kernel
theorem dX12_encode_63 : decode cX12_encode 63 = .ok (.goto (-25), 3) := by decide +kernel
theorem dX12_encode_66 : decode cX12_encode 66 = .ok (.iconst 0, 1) := by decide +kernel
theorem dX12_encode_67 : decode cX12_encode 67 = .ok (.istore_n 3, 1) := by decide +kernel
theorem dX12_encode_68 : decode cX12_encode 68 = .ok (.iload_n 3, 1) := by decide +kernel
theorem dX12_encode_69 : decode cX12_encode 69 = .ok (.iload_n 1, 1) := by decide +kernel
theorem dX12_encode_70 : decode cX12_encode 70 = .ok (.if_icmp .ge 51, 3) := by decide +kernel
theorem dX12_encode_73 : decode cX12_encode 73 = .ok (.aload_n 0, 1) := by decide +kernel
theorem dX12_encode_74 : decode cX12_encode 74 = .ok (.aload_n 0, 1) := by decide +kernel
theorem dX12_encode_75 : decode cX12_encode 75 = .ok (.getfield 16, 3) := by decide +kernel
theorem dX12_encode_78 : decode cX12_encode 78 = .ok (.iload_n 3, 1) := by decide +kernel
theorem dX12_encode_79 : decode cX12_encode 79 = .ok (.invokestatic 153, 3) := by decide +kernel
theorem dX12_encode_82 : decode cX12_encode 82 = .ok (.aload_n 0, 1) := by decide +kernel
theorem dX12_encode_83 : decode cX12_encode 83 = .ok (.getfield 20, 3) := by decide +kernel
theorem dX12_encode_86 : decode cX12_encode 86 = .ok (.iload_n 3, 1) := by decide +kernel
theorem dX12_encode_87 : decode cX12_encode 87 = .ok (.invokestatic 153, 3) := by decide +kernel
theorem dX12_encode_90 : decode cX12_encode 90 = .ok (.iconst 0, 1) := by decide +kernel
theorem dX12_encode_91 : decode cX12_encode 91 = .ok (.invokevirtual 335, 3) := by decide +kernel
theorem dX12_encode_94 : decode cX12_encode 94 = .ok (.aload_n 0, 1) := by decide +kernel
theorem dX12_encode_95 : decode cX12_encode 95 = .ok (.aload_n 0, 1) := by decide +kernel
theorem dX12_encode_96 : decode cX12_encode 96 = .ok (.getfield 16, 3) := by decide +kernel
theorem dX12_encode_99 : decode cX12_encode 99 = .ok (.iload_n 3, 1) := by decide +kernel
theorem dX12_encode_100 : decode cX12_encode 100 = .ok (.invokestatic 153, 3) := by decide +kernel
theorem dX12_encode_103 : decode cX12_encode 103 = .ok (.aload_n 0, 1) := by decide +kernel
theorem dX12_encode_104 : decode cX12_encode 104 = .ok (.getfield 20, 3) := by decide +kernel
theorem dX12_encode_107 : decode cX12_encode 107 = .ok (.iload_n 3, 1) := by decide +kernel
theorem dX12_encode_108 : decode cX12_encode 108 = .ok (.invokestatic 153, 3) := by decide +kernel
theorem dX12_encode_111 : decode cX12_encode 111 = .ok (.iconst 0, 1) := by decide +kernel

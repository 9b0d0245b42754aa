theorem dX0_init_0 : decode cX0_init 0 = .ok (.aload_n 0, 1) := by decide +kernel
theorem dX0_init_1 : decode cX0_init 1 = .ok (.invokespecial 3, 3) := by decide +kernel
theorem dX0_init_4 : decode cX0_init 4 = .ok (.aload_n 0, 1) := by decide +kernel
theorem dX0_init_5 : decode cX0_init 5 = .ok (.bipush 64, 2) := by decide +kernel
theorem dX0_init_7 : decode cX0_init 7 = .ok (.newarray .int, 2) := by decide +kernel
theorem dX0_init_9 : decode cX0_init 9 = .ok (.putfield 9, 3) := by decide +kernel
theorem dX0_init_12 : decode cX0_init 12 = .ok (.aload_n 0, 1) := by decide +kernel
theorem dX0_init_13 : decode cX0_init 13 = .ok (.bipush 10, 2) := by decide +kernel
theorem dX0_init_15 : decode cX0_init 15 = .ok (.newarray .int, 2) := by decide +kernel
theorem dX0_init_17 : decode cX0_init 17 = .ok (.putfield 15, 3) := by decide +kernel
theorem dX0_init_20 : decode cX0_init 20 = .ok (.aload_n 0, 1) := by decide +kernel
theorem dX0_init_21 : decode cX0_init 21 = .ok (.bipush 10, 2) := by decide +kernel
theorem dX0_init_23 : decode cX0_init 23 = .ok (.newarray .int, 2) := by decide +kernel
theorem dX0_init_25 : decode cX0_init 25 = .ok (.putfield 18, 3) := by decide +kernel
theorem dX0_init_28 : decode cX0_init 28 = .ok (.aload_n 0, 1) := by decide +kernel
theorem dX0_init_29 : decode cX0_init 29 = .ok (.bipush 10, 2) := by decide +kernel
theorem dX0_init_31 : decode cX0_init 31 = .ok (.newarray .int, 2) := by decide +kernel
theorem dX0_init_33 : decode cX0_init 33 = .ok (.putfield 21, 3) := by decide +kernel
theorem dX0_init_36 : decode cX0_init 36 = .ok (.aload_n 0, 1) := by decide +kernel
theorem dX0_init_37 : decode cX0_init 37 = .ok (.bipush 10, 2) := by decide +kernel
theorem dX0_init_39 : decode cX0_init 39 = .ok (.newarray .int, 2) := by decide +kernel
theorem dX0_init_41 : decode cX0_init 41 = .ok (.putfield 24, 3) := by decide +kernel
theorem dX0_init_44 : decode cX0_init 44 = .ok (.aload_n 0, 1) := by decide +kernel
theorem dX0_init_45 : decode cX0_init 45 = .ok (.bipush 8, 2) := by decide +kernel
theorem dX0_init_47 : decode cX0_init 47 = .ok (.newarray .int, 2) := by decide +kernel
theorem dX0_init_49 : decode cX0_init 49 = .ok (.putfield 27, 3) := by decide +kernel
theorem dX0_init_52 : decode cX0_init 52 = .ok (.aload_n 0, 1) := by decide +kernel
theorem dX0_init_53 : decode cX0_init 53 = .ok (.bipush 8, 2) := by decide +kernel
theorem dX0_init_55 : decode cX0_init 55 = .ok (.newarray .int, 2) := by decide +kernel
theorem dX0_init_57 : decode cX0_init 57 = .ok (.putfield 30, 3) := by decide +kernel
theorem dX0_init_60 : decode cX0_init 60 = .ok (.return_, 1) := by decide +kernel
theorem dX0_lay_0 : decode cX0_lay 0 = .ok (.aload_n 0, 1) := by decide +kernel
theorem dX0_lay_1 : decode cX0_lay 1 = .ok (.iload_n 1, 1) := by decide +kernel
theorem dX0_lay_2 : decode cX0_lay 2 = .ok (.putfield 33, 3) := by decide +kernel
theorem dX0_lay_5 : decode cX0_lay 5 = .ok (.aload_n 0, 1) := by decide +kernel
theorem dX0_lay_6 : decode cX0_lay 6 = .ok (.iload_n 2, 1) := by decide +kernel
theorem dX0_lay_7 : decode cX0_lay 7 = .ok (.putfield 37, 3) := by decide +kernel
theorem dX0_lay_10 : decode cX0_lay 10 = .ok (.aload_n 0, 1) := by decide +kernel
theorem dX0_lay_11 : decode cX0_lay 11 = .ok (.iload_n 3, 1) := by decide +kernel
theorem dX0_lay_12 : decode cX0_lay 12 = .ok (.putfield 40, 3) := by decide +kernel
theorem dX0_lay_15 : decode cX0_lay 15 = .ok (.aload_n 0, 1) := by decide +kernel
theorem dX0_lay_16 : decode cX0_lay 16 = .ok (.iconst 3, 1) := by decide +kernel
theorem dX0_lay_17 : decode cX0_lay 17 = .ok (.aload_n 0, 1) := by decide +kernel
theorem dX0_lay_18 : decode cX0_lay 18 = .ok (.getfield 40, 3) := by decide +kernel
theorem dX0_lay_21 : decode cX0_lay 21 = .ok (.imul, 1) := by decide +kernel
theorem dX0_lay_22 : decode cX0_lay 22 = .ok (.iconst 1, 1) := by decide +kernel
theorem dX0_lay_23 : decode cX0_lay 23 = .ok (.iadd, 1) := by decide +kernel
theorem dX0_lay_24 : decode cX0_lay 24 = .ok (.putfield 43, 3) := by decide +kernel
theorem dX0_lay_27 : decode cX0_lay 27 = .ok (.iconst 1, 1) := by decide +kernel
theorem dX0_lay_28 : decode cX0_lay 28 = .ok (.istore 4, 2) := by decide +kernel
theorem dX0_lay_30 : decode cX0_lay 30 = .ok (.iload 4, 2) := by decide +kernel
theorem dX0_lay_32 : decode cX0_lay 32 = .ok (.aload_n 0, 1) := by decide +kernel
theorem dX0_lay_33 : decode cX0_lay 33 = .ok (.getfield 40, 3) := by decide +kernel
theorem dX0_lay_36 : decode cX0_lay 36 = .ok (.if_icmp .gt 126, 3) := by decide +kernel
theorem dX0_lay_39 : decode cX0_lay 39 = .ok (.iconst 3, 1) := by decide +kernel
theorem dX0_lay_40 : decode cX0_lay 40 = .ok (.aload_n 0, 1) := by decide +kernel
theorem dX0_lay_41 : decode cX0_lay 41 = .ok (.getfield 40, 3) := by decide +kernel
theorem dX0_lay_44 : decode cX0_lay 44 = .ok (.iload 4, 2) := by decide +kernel
theorem dX0_lay_46 : decode cX0_lay 46 = .ok (.isub, 1) := by decide +kernel
theorem dX0_lay_47 : decode cX0_lay 47 = .ok (.imul, 1) := by decide +kernel
theorem dX0_lay_48 : decode cX0_lay 48 = .ok (.iconst 1, 1) := by decide +kernel
theorem dX0_lay_49 : decode cX0_lay 49 = .ok (.iadd, 1) := by decide +kernel
theorem dX0_lay_50 : decode cX0_lay 50 = .ok (.istore 5, 2) := by decide +kernel
theorem dX0_lay_52 : decode cX0_lay 52 = .ok (.aload_n 0, 1) := by decide +kernel
theorem dX0_lay_53 : decode cX0_lay 53 = .ok (.getfield 33, 3) := by decide +kernel
theorem dX0_lay_56 : decode cX0_lay 56 = .ok (.iload 4, 2) := by decide +kernel
theorem dX0_lay_58 : decode cX0_lay 58 = .ok (.iconst 1, 1) := by decide +kernel
theorem dX0_lay_59 : decode cX0_lay 59 = .ok (.isub, 1) := by decide +kernel
theorem dX0_lay_60 : decode cX0_lay 60 = .ok (.invokestatic 46, 3) := by decide +kernel
theorem dX0_lay_63 : decode cX0_lay 63 = .ok (.istore 6, 2) := by decide +kernel
theorem dX0_lay_65 : decode cX0_lay 65 = .ok (.aload_n 0, 1) := by decide +kernel
theorem dX0_lay_66 : decode cX0_lay 66 = .ok (.getfield 37, 3) := by decide +kernel
theorem dX0_lay_69 : decode cX0_lay 69 = .ok (.iload 4, 2) := by decide +kernel
theorem dX0_lay_71 : decode cX0_lay 71 = .ok (.iconst 1, 1) := by decide +kernel
theorem dX0_lay_72 : decode cX0_lay 72 = .ok (.isub, 1) := by decide +kernel
theorem dX0_lay_73 : decode cX0_lay 73 = .ok (.invokestatic 46, 3) := by decide +kernel
theorem dX0_lay_76 : decode cX0_lay 76 = .ok (.istore 7, 2) := by decide +kernel
theorem dX0_lay_78 : decode cX0_lay 78 = .ok (.aload_n 0, 1) := by decide +kernel
theorem dX0_lay_79 : decode cX0_lay 79 = .ok (.getfield 33, 3) := by decide +kernel
theorem dX0_lay_82 : decode cX0_lay 82 = .ok (.iload 4, 2) := by decide +kernel
theorem dX0_lay_84 : decode cX0_lay 84 = .ok (.invokestatic 46, 3) := by decide +kernel
theorem dX0_lay_87 : decode cX0_lay 87 = .ok (.istore 8, 2) := by decide +kernel
theorem dX0_lay_89 : decode cX0_lay 89 = .ok (.aload_n 0, 1) := by decide +kernel
theorem dX0_lay_90 : decode cX0_lay 90 = .ok (.getfield 37, 3) := by decide +kernel
theorem dX0_lay_93 : decode cX0_lay 93 = .ok (.iload 4, 2) := by decide +kernel
theorem dX0_lay_95 : decode cX0_lay 95 = .ok (.invokestatic 46, 3) := by decide +kernel
theorem dX0_lay_98 : decode cX0_lay 98 = .ok (.istore 9, 2) := by decide +kernel
theorem dX0_lay_100 : decode cX0_lay 100 = .ok (.aload_n 0, 1) := by decide +kernel
theorem dX0_lay_101 : decode cX0_lay 101 = .ok (.iload 5, 2) := by decide +kernel
theorem dX0_lay_103 : decode cX0_lay 103 = .ok (.iload 8, 2) := by decide +kernel
theorem dX0_lay_105 : decode cX0_lay 105 = .ok (.iconst 0, 1) := by decide +kernel
theorem dX0_lay_106 : decode cX0_lay 106 = .ok (.iload 6, 2) := by decide +kernel
theorem dX0_lay_108 : decode cX0_lay 108 = .ok (.iload 8, 2) := by decide +kernel
theorem dX0_lay_110 : decode cX0_lay 110 = .ok (.isub, 1) := by decide +kernel
theorem dX0_lay_111 : decode cX0_lay 111 = .ok (.iload 9, 2) := by decide +kernel
theorem dX0_lay_113 : decode cX0_lay 113 = .ok (.invokevirtual 50, 3) := by decide +kernel
theorem dX0_lay_116 : decode cX0_lay 116 = .ok (.aload_n 0, 1) := by decide +kernel
theorem dX0_lay_117 : decode cX0_lay 117 = .ok (.iload 5, 2) := by decide +kernel
theorem dX0_lay_119 : decode cX0_lay 119 = .ok (.iconst 1, 1) := by decide +kernel
theorem dX0_lay_120 : decode cX0_lay 120 = .ok (.iadd, 1) := by decide +kernel
theorem dX0_lay_121 : decode cX0_lay 121 = .ok (.iconst 0, 1) := by decide +kernel
theorem dX0_lay_122 : decode cX0_lay 122 = .ok (.iload 9, 2) := by decide +kernel
theorem dX0_lay_124 : decode cX0_lay 124 = .ok (.iload 8, 2) := by decide +kernel
theorem dX0_lay_126 : decode cX0_lay 126 = .ok (.iload 7, 2) := by decide +kernel
theorem dX0_lay_128 : decode cX0_lay 128 = .ok (.iload 9, 2) := by decide +kernel
theorem dX0_lay_130 : decode cX0_lay 130 = .ok (.isub, 1) := by decide +kernel
theorem dX0_lay_131 : decode cX0_lay 131 = .ok (.invokevirtual 50, 3) := by decide +kernel
theorem dX0_lay_134 : decode cX0_lay 134 = .ok (.aload_n 0, 1) := by decide +kernel
theorem dX0_lay_135 : decode cX0_lay 135 = .ok (.iload 5, 2) := by decide +kernel
theorem dX0_lay_137 : decode cX0_lay 137 = .ok (.iconst 2, 1) := by decide +kernel
theorem dX0_lay_138 : decode cX0_lay 138 = .ok (.iadd, 1) := by decide +kernel
theorem dX0_lay_139 : decode cX0_lay 139 = .ok (.iload 8, 2) := by decide +kernel
theorem dX0_lay_141 : decode cX0_lay 141 = .ok (.iload 9, 2) := by decide +kernel
theorem dX0_lay_143 : decode cX0_lay 143 = .ok (.iload 6, 2) := by decide +kernel
theorem dX0_lay_145 : decode cX0_lay 145 = .ok (.iload 8, 2) := by decide +kernel
theorem dX0_lay_147 : decode cX0_lay 147 = .ok (.isub, 1) := by decide +kernel
theorem dX0_lay_148 : decode cX0_lay 148 = .ok (.iload 7, 2) := by decide +kernel
theorem dX0_lay_150 : decode cX0_lay 150 = .ok (.iload 9, 2) := by decide +kernel
theorem dX0_lay_152 : decode cX0_lay 152 = .ok (.isub, 1) := by decide +kernel
theorem dX0_lay_153 : decode cX0_lay 153 = .ok (.invokevirtual 50, 3) := by decide +kernel
theorem dX0_lay_156 : decode cX0_lay 156 = .ok (.iinc 4 1, 3) := by decide +kernel
theorem dX0_lay_159 : decode cX0_lay 159 = .ok (.goto (-129), 3) := by decide +kernel
theorem dX0_lay_162 : decode cX0_lay 162 = .ok (.aload_n 0, 1) := by decide +kernel
theorem dX0_lay_163 : decode cX0_lay 163 = .ok (.iconst 0, 1) := by decide +kernel
theorem dX0_lay_164 : decode cX0_lay 164 = .ok (.iconst 0, 1) := by decide +kernel
theorem dX0_lay_165 : decode cX0_lay 165 = .ok (.iconst 0, 1) := by decide +kernel
theorem dX0_lay_166 : decode cX0_lay 166 = .ok (.aload_n 0, 1) := by decide +kernel
theorem dX0_lay_167 : decode cX0_lay 167 = .ok (.getfield 33, 3) := by decide +kernel
theorem dX0_lay_170 : decode cX0_lay 170 = .ok (.aload_n 0, 1) := by decide +kernel
theorem dX0_lay_171 : decode cX0_lay 171 = .ok (.getfield 40, 3) := by decide +kernel
theorem dX0_lay_174 : decode cX0_lay 174 = .ok (.invokestatic 46, 3) := by decide +kernel
theorem dX0_lay_177 : decode cX0_lay 177 = .ok (.aload_n 0, 1) := by decide +kernel
theorem dX0_lay_178 : decode cX0_lay 178 = .ok (.getfield 37, 3) := by decide +kernel
theorem dX0_lay_181 : decode cX0_lay 181 = .ok (.aload_n 0, 1) := by decide +kernel
theorem dX0_lay_182 : decode cX0_lay 182 = .ok (.getfield 40, 3) := by decide +kernel
theorem dX0_lay_185 : decode cX0_lay 185 = .ok (.invokestatic 46, 3) := by decide +kernel
theorem dX0_lay_188 : decode cX0_lay 188 = .ok (.invokevirtual 50, 3) := by decide +kernel
theorem dX0_lay_191 : decode cX0_lay 191 = .ok (.return_, 1) := by decide +kernel
theorem dX0_layBand_0 : decode cX0_layBand 0 = .ok (.aload_n 0, 1) := by decide +kernel
theorem dX0_layBand_1 : decode cX0_layBand 1 = .ok (.getfield 15, 3) := by decide +kernel
theorem dX0_layBand_4 : decode cX0_layBand 4 = .ok (.iload_n 1, 1) := by decide +kernel
theorem dX0_layBand_5 : decode cX0_layBand 5 = .ok (.iload_n 2, 1) := by decide +kernel
theorem dX0_layBand_6 : decode cX0_layBand 6 = .ok (.iastore, 1) := by decide +kernel
theorem dX0_layBand_7 : decode cX0_layBand 7 = .ok (.aload_n 0, 1) := by decide +kernel
theorem dX0_layBand_8 : decode cX0_layBand 8 = .ok (.getfield 18, 3) := by decide +kernel
theorem dX0_layBand_11 : decode cX0_layBand 11 = .ok (.iload_n 1, 1) := by decide +kernel
theorem dX0_layBand_12 : decode cX0_layBand 12 = .ok (.iload_n 3, 1) := by decide +kernel
theorem dX0_layBand_13 : decode cX0_layBand 13 = .ok (.iastore, 1) := by decide +kernel
theorem dX0_layBand_14 : decode cX0_layBand 14 = .ok (.aload_n 0, 1) := by decide +kernel
theorem dX0_layBand_15 : decode cX0_layBand 15 = .ok (.getfield 21, 3) := by decide +kernel
theorem dX0_layBand_18 : decode cX0_layBand 18 = .ok (.iload_n 1, 1) := by decide +kernel
theorem dX0_layBand_19 : decode cX0_layBand 19 = .ok (.iload 4, 2) := by decide +kernel
theorem dX0_layBand_21 : decode cX0_layBand 21 = .ok (.iastore, 1) := by decide +kernel
theorem dX0_layBand_22 : decode cX0_layBand 22 = .ok (.aload_n 0, 1) := by decide +kernel
theorem dX0_layBand_23 : decode cX0_layBand 23 = .ok (.getfield 24, 3) := by decide +kernel
theorem dX0_layBand_26 : decode cX0_layBand 26 = .ok (.iload_n 1, 1) := by decide +kernel
theorem dX0_layBand_27 : decode cX0_layBand 27 = .ok (.iload 5, 2) := by decide +kernel
theorem dX0_layBand_29 : decode cX0_layBand 29 = .ok (.iastore, 1) := by decide +kernel
theorem dX0_layBand_30 : decode cX0_layBand 30 = .ok (.return_, 1) := by decide +kernel
theorem dX0_sideAfter_0 : decode cX0_sideAfter 0 = .ok (.iload_n 0, 1) := by decide +kernel
theorem dX0_sideAfter_1 : decode cX0_sideAfter 1 = .ok (.iconst 1, 1) := by decide +kernel
theorem dX0_sideAfter_2 : decode cX0_sideAfter 2 = .ok (.iload_n 1, 1) := by decide +kernel
theorem dX0_sideAfter_3 : decode cX0_sideAfter 3 = .ok (.ishl, 1) := by decide +kernel
theorem dX0_sideAfter_4 : decode cX0_sideAfter 4 = .ok (.iadd, 1) := by decide +kernel
theorem dX0_sideAfter_5 : decode cX0_sideAfter 5 = .ok (.iconst 1, 1) := by decide +kernel
theorem dX0_sideAfter_6 : decode cX0_sideAfter 6 = .ok (.isub, 1) := by decide +kernel
theorem dX0_sideAfter_7 : decode cX0_sideAfter 7 = .ok (.iload_n 1, 1) := by decide +kernel
theorem dX0_sideAfter_8 : decode cX0_sideAfter 8 = .ok (.ishr, 1) := by decide +kernel
theorem dX0_sideAfter_9 : decode cX0_sideAfter 9 = .ok (.ireturn, 1) := by decide +kernel
theorem dX0_hasBand_0 : decode cX0_hasBand 0 = .ok (.iload_n 1, 1) := by decide +kernel
theorem dX0_hasBand_1 : decode cX0_hasBand 1 = .ok (.ifCond .lt 15, 3) := by decide +kernel
theorem dX0_hasBand_4 : decode cX0_hasBand 4 = .ok (.iload_n 1, 1) := by decide +kernel
theorem dX0_hasBand_5 : decode cX0_hasBand 5 = .ok (.aload_n 0, 1) := by decide +kernel
theorem dX0_hasBand_6 : decode cX0_hasBand 6 = .ok (.getfield 43, 3) := by decide +kernel
theorem dX0_hasBand_9 : decode cX0_hasBand 9 = .ok (.if_icmp .ge 7, 3) := by decide +kernel
theorem dX0_hasBand_12 : decode cX0_hasBand 12 = .ok (.iconst 1, 1) := by decide +kernel
theorem dX0_hasBand_13 : decode cX0_hasBand 13 = .ok (.goto 4, 3) := by decide +kernel
theorem dX0_hasBand_16 : decode cX0_hasBand 16 = .ok (.iconst 0, 1) := by decide +kernel
theorem dX0_hasBand_17 : decode cX0_hasBand 17 = .ok (.ireturn, 1) := by decide +kernel
theorem dX0_isEmpty_0 : decode cX0_isEmpty 0 = .ok (.aload_n 0, 1) := by decide +kernel
theorem dX0_isEmpty_1 : decode cX0_isEmpty 1 = .ok (.getfield 21, 3) := by decide +kernel
theorem dX0_isEmpty_4 : decode cX0_isEmpty 4 = .ok (.iload_n 1, 1) := by decide +kernel
theorem dX0_isEmpty_5 : decode cX0_isEmpty 5 = .ok (.iaload, 1) := by decide +kernel
theorem dX0_isEmpty_6 : decode cX0_isEmpty 6 = .ok (.ifCond .eq 12, 3) := by decide +kernel
theorem dX0_isEmpty_9 : decode cX0_isEmpty 9 = .ok (.aload_n 0, 1) := by decide +kernel
theorem dX0_isEmpty_10 : decode cX0_isEmpty 10 = .ok (.getfield 24, 3) := by decide +kernel
theorem dX0_isEmpty_13 : decode cX0_isEmpty 13 = .ok (.iload_n 1, 1) := by decide +kernel
theorem dX0_isEmpty_14 : decode cX0_isEmpty 14 = .ok (.iaload, 1) := by decide +kernel
theorem dX0_isEmpty_15 : decode cX0_isEmpty 15 = .ok (.ifCond .ne 7, 3) := by decide +kernel
theorem dX0_isEmpty_18 : decode cX0_isEmpty 18 = .ok (.iconst 1, 1) := by decide +kernel
theorem dX0_isEmpty_19 : decode cX0_isEmpty 19 = .ok (.goto 4, 3) := by decide +kernel
theorem dX0_isEmpty_22 : decode cX0_isEmpty 22 = .ok (.iconst 0, 1) := by decide +kernel
theorem dX0_isEmpty_23 : decode cX0_isEmpty 23 = .ok (.ireturn, 1) := by decide +kernel
theorem dX0_kindOf_0 : decode cX0_kindOf 0 = .ok (.iload_n 1, 1) := by decide +kernel
theorem dX0_kindOf_1 : decode cX0_kindOf 1 = .ok (.ifCond .ne 5, 3) := by decide +kernel
theorem dX0_kindOf_4 : decode cX0_kindOf 4 = .ok (.iconst 0, 1) := by decide +kernel
theorem dX0_kindOf_5 : decode cX0_kindOf 5 = .ok (.ireturn, 1) := by decide +kernel
theorem dX0_kindOf_6 : decode cX0_kindOf 6 = .ok (.iload_n 1, 1) := by decide +kernel
theorem dX0_kindOf_7 : decode cX0_kindOf 7 = .ok (.iconst 1, 1) := by decide +kernel
theorem dX0_kindOf_8 : decode cX0_kindOf 8 = .ok (.isub, 1) := by decide +kernel
theorem dX0_kindOf_9 : decode cX0_kindOf 9 = .ok (.iconst 3, 1) := by decide +kernel
theorem dX0_kindOf_10 : decode cX0_kindOf 10 = .ok (.irem, 1) := by decide +kernel
theorem dX0_kindOf_11 : decode cX0_kindOf 11 = .ok (.istore_n 2, 1) := by decide +kernel
theorem dX0_kindOf_12 : decode cX0_kindOf 12 = .ok (.iload_n 2, 1) := by decide +kernel
theorem dX0_kindOf_13 : decode cX0_kindOf 13 = .ok (.ifCond .ne 7, 3) := by decide +kernel
theorem dX0_kindOf_16 : decode cX0_kindOf 16 = .ok (.iconst 1, 1) := by decide +kernel
theorem dX0_kindOf_17 : decode cX0_kindOf 17 = .ok (.goto 13, 3) := by decide +kernel
theorem dX0_kindOf_20 : decode cX0_kindOf 20 = .ok (.iload_n 2, 1) := by decide +kernel
theorem dX0_kindOf_21 : decode cX0_kindOf 21 = .ok (.iconst 1, 1) := by decide +kernel
theorem dX0_kindOf_22 : decode cX0_kindOf 22 = .ok (.if_icmp .ne 7, 3) := by decide +kernel
theorem dX0_kindOf_25 : decode cX0_kindOf 25 = .ok (.iconst 0, 1) := by decide +kernel
theorem dX0_kindOf_26 : decode cX0_kindOf 26 = .ok (.goto 4, 3) := by decide +kernel
theorem dX0_kindOf_29 : decode cX0_kindOf 29 = .ok (.iconst 2, 1) := by decide +kernel
theorem dX0_kindOf_30 : decode cX0_kindOf 30 = .ok (.ireturn, 1) := by decide +kernel
theorem dX0_hasNumber_0 : decode cX0_hasNumber 0 = .ok (.aload_n 0, 1) := by decide +kernel
theorem dX0_hasNumber_1 : decode cX0_hasNumber 1 = .ok (.iload_n 1, 1) := by decide +kernel
theorem dX0_hasNumber_2 : decode cX0_hasNumber 2 = .ok (.invokevirtual 54, 3) := by decide +kernel
theorem dX0_hasNumber_5 : decode cX0_hasNumber 5 = .ok (.ifCond .eq 35, 3) := by decide +kernel
theorem dX0_hasNumber_8 : decode cX0_hasNumber 8 = .ok (.iload_n 2, 1) := by decide +kernel
theorem dX0_hasNumber_9 : decode cX0_hasNumber 9 = .ok (.ifCond .lt 31, 3) := by decide +kernel
theorem dX0_hasNumber_12 : decode cX0_hasNumber 12 = .ok (.iload_n 2, 1) := by decide +kernel
theorem dX0_hasNumber_13 : decode cX0_hasNumber 13 = .ok (.aload_n 0, 1) := by decide +kernel
theorem dX0_hasNumber_14 : decode cX0_hasNumber 14 = .ok (.getfield 21, 3) := by decide +kernel
theorem dX0_hasNumber_17 : decode cX0_hasNumber 17 = .ok (.iload_n 1, 1) := by decide +kernel
theorem dX0_hasNumber_18 : decode cX0_hasNumber 18 = .ok (.iaload, 1) := by decide +kernel
theorem dX0_hasNumber_19 : decode cX0_hasNumber 19 = .ok (.if_icmp .ge 21, 3) := by decide +kernel
theorem dX0_hasNumber_22 : decode cX0_hasNumber 22 = .ok (.iload_n 3, 1) := by decide +kernel
theorem dX0_hasNumber_23 : decode cX0_hasNumber 23 = .ok (.ifCond .lt 17, 3) := by decide +kernel
theorem dX0_hasNumber_26 : decode cX0_hasNumber 26 = .ok (.iload_n 3, 1) := by decide +kernel
theorem dX0_hasNumber_27 : decode cX0_hasNumber 27 = .ok (.aload_n 0, 1) := by decide +kernel
theorem dX0_hasNumber_28 : decode cX0_hasNumber 28 = .ok (.getfield 24, 3) := by decide +kernel
theorem dX0_hasNumber_31 : decode cX0_hasNumber 31 = .ok (.iload_n 1, 1) := by decide +kernel
theorem dX0_hasNumber_32 : decode cX0_hasNumber 32 = .ok (.iaload, 1) := by decide +kernel
theorem dX0_hasNumber_33 : decode cX0_hasNumber 33 = .ok (.if_icmp .ge 7, 3) := by decide +kernel
theorem dX0_hasNumber_36 : decode cX0_hasNumber 36 = .ok (.iconst 1, 1) := by decide +kernel
theorem dX0_hasNumber_37 : decode cX0_hasNumber 37 = .ok (.goto 4, 3) := by decide +kernel
theorem dX0_hasNumber_40 : decode cX0_hasNumber 40 = .ok (.iconst 0, 1) := by decide +kernel
theorem dX0_hasNumber_41 : decode cX0_hasNumber 41 = .ok (.ireturn, 1) := by decide +kernel
theorem dX0_at_0 : decode cX0_at 0 = .ok (.aload_n 0, 1) := by decide +kernel
theorem dX0_at_1 : decode cX0_at 1 = .ok (.iload_n 1, 1) := by decide +kernel
theorem dX0_at_2 : decode cX0_at 2 = .ok (.iload_n 2, 1) := by decide +kernel
theorem dX0_at_3 : decode cX0_at 3 = .ok (.iload_n 3, 1) := by decide +kernel
theorem dX0_at_4 : decode cX0_at 4 = .ok (.invokevirtual 58, 3) := by decide +kernel
theorem dX0_at_7 : decode cX0_at 7 = .ok (.ifCond .eq 31, 3) := by decide +kernel
theorem dX0_at_10 : decode cX0_at 10 = .ok (.aload_n 0, 1) := by decide +kernel
theorem dX0_at_11 : decode cX0_at 11 = .ok (.getfield 9, 3) := by decide +kernel
theorem dX0_at_14 : decode cX0_at 14 = .ok (.aload_n 0, 1) := by decide +kernel
theorem dX0_at_15 : decode cX0_at 15 = .ok (.getfield 18, 3) := by decide +kernel
theorem dX0_at_18 : decode cX0_at 18 = .ok (.iload_n 1, 1) := by decide +kernel
theorem dX0_at_19 : decode cX0_at 19 = .ok (.iaload, 1) := by decide +kernel
theorem dX0_at_20 : decode cX0_at 20 = .ok (.iload_n 3, 1) := by decide +kernel
theorem dX0_at_21 : decode cX0_at 21 = .ok (.iadd, 1) := by decide +kernel
theorem dX0_at_22 : decode cX0_at 22 = .ok (.bipush 8, 2) := by decide +kernel
theorem dX0_at_24 : decode cX0_at 24 = .ok (.imul, 1) := by decide +kernel
theorem dX0_at_25 : decode cX0_at 25 = .ok (.aload_n 0, 1) := by decide +kernel
theorem dX0_at_26 : decode cX0_at 26 = .ok (.getfield 15, 3) := by decide +kernel
theorem dX0_at_29 : decode cX0_at 29 = .ok (.iload_n 1, 1) := by decide +kernel
theorem dX0_at_30 : decode cX0_at 30 = .ok (.iaload, 1) := by decide +kernel
theorem dX0_at_31 : decode cX0_at 31 = .ok (.iadd, 1) := by decide +kernel
theorem dX0_at_32 : decode cX0_at 32 = .ok (.iload_n 2, 1) := by decide +kernel
theorem dX0_at_33 : decode cX0_at 33 = .ok (.iadd, 1) := by decide +kernel
theorem dX0_at_34 : decode cX0_at 34 = .ok (.iaload, 1) := by decide +kernel
theorem dX0_at_35 : decode cX0_at 35 = .ok (.goto 5, 3) := by decide +kernel
theorem dX0_at_38 : decode cX0_at 38 = .ok (.ldc 62, 2) := by decide +kernel
theorem dX0_at_40 : decode cX0_at 40 = .ok (.ireturn, 1) := by decide +kernel
theorem dX0_set_0 : decode cX0_set 0 = .ok (.aload_n 0, 1) := by decide +kernel
theorem dX0_set_1 : decode cX0_set 1 = .ok (.iload_n 1, 1) := by decide +kernel
theorem dX0_set_2 : decode cX0_set 2 = .ok (.iload_n 2, 1) := by decide +kernel
theorem dX0_set_3 : decode cX0_set 3 = .ok (.iload_n 3, 1) := by decide +kernel
theorem dX0_set_4 : decode cX0_set 4 = .ok (.invokevirtual 58, 3) := by decide +kernel
theorem dX0_set_7 : decode cX0_set 7 = .ok (.ifCond .eq 30, 3) := by decide +kernel
theorem dX0_set_10 : decode cX0_set 10 = .ok (.aload_n 0, 1) := by decide +kernel
theorem dX0_set_11 : decode cX0_set 11 = .ok (.getfield 9, 3) := by decide +kernel
theorem dX0_set_14 : decode cX0_set 14 = .ok (.aload_n 0, 1) := by decide +kernel
theorem dX0_set_15 : decode cX0_set 15 = .ok (.getfield 18, 3) := by decide +kernel
theorem dX0_set_18 : decode cX0_set 18 = .ok (.iload_n 1, 1) := by decide +kernel
theorem dX0_set_19 : decode cX0_set 19 = .ok (.iaload, 1) := by decide +kernel
theorem dX0_set_20 : decode cX0_set 20 = .ok (.iload_n 3, 1) := by decide +kernel
theorem dX0_set_21 : decode cX0_set 21 = .ok (.iadd, 1) := by decide +kernel
theorem dX0_set_22 : decode cX0_set 22 = .ok (.bipush 8, 2) := by decide +kernel
theorem dX0_set_24 : decode cX0_set 24 = .ok (.imul, 1) := by decide +kernel
theorem dX0_set_25 : decode cX0_set 25 = .ok (.aload_n 0, 1) := by decide +kernel
theorem dX0_set_26 : decode cX0_set 26 = .ok (.getfield 15, 3) := by decide +kernel
theorem dX0_set_29 : decode cX0_set 29 = .ok (.iload_n 1, 1) := by decide +kernel
theorem dX0_set_30 : decode cX0_set 30 = .ok (.iaload, 1) := by decide +kernel
theorem dX0_set_31 : decode cX0_set 31 = .ok (.iadd, 1) := by decide +kernel
theorem dX0_set_32 : decode cX0_set 32 = .ok (.iload_n 2, 1) := by decide +kernel
theorem dX0_set_33 : decode cX0_set 33 = .ok (.iadd, 1) := by decide +kernel
theorem dX0_set_34 : decode cX0_set 34 = .ok (.iload 4, 2) := by decide +kernel
theorem dX0_set_36 : decode cX0_set 36 = .ok (.iastore, 1) := by decide +kernel
theorem dX0_set_37 : decode cX0_set 37 = .ok (.return_, 1) := by decide +kernel
theorem dX0_readPicture_0 : decode cX0_readPicture 0 = .ok (.iconst 0, 1) := by decide +kernel
theorem dX0_readPicture_1 : decode cX0_readPicture 1 = .ok (.istore_n 2, 1) := by decide +kernel
theorem dX0_readPicture_2 : decode cX0_readPicture 2 = .ok (.iload_n 2, 1) := by decide +kernel
theorem dX0_readPicture_3 : decode cX0_readPicture 3 = .ok (.aload_n 0, 1) := by decide +kernel
theorem dX0_readPicture_4 : decode cX0_readPicture 4 = .ok (.getfield 37, 3) := by decide +kernel
theorem dX0_readPicture_7 : decode cX0_readPicture 7 = .ok (.if_icmp .ge 46, 3) := by decide +kernel
theorem dX0_readPicture_10 : decode cX0_readPicture 10 = .ok (.iconst 0, 1) := by decide +kernel
theorem dX0_readPicture_11 : decode cX0_readPicture 11 = .ok (.istore_n 3, 1) := by decide +kernel
theorem dX0_readPicture_12 : decode cX0_readPicture 12 = .ok (.iload_n 3, 1) := by decide +kernel
theorem dX0_readPicture_13 : decode cX0_readPicture 13 = .ok (.aload_n 0, 1) := by decide +kernel
theorem dX0_readPicture_14 : decode cX0_readPicture 14 = .ok (.getfield 33, 3) := by decide +kernel
theorem dX0_readPicture_17 : decode cX0_readPicture 17 = .ok (.if_icmp .ge 30, 3) := by decide +kernel
theorem dX0_readPicture_20 : decode cX0_readPicture 20 = .ok (.aload_n 0, 1) := by decide +kernel
theorem dX0_readPicture_21 : decode cX0_readPicture 21 = .ok (.getfield 9, 3) := by decide +kernel
theorem dX0_readPicture_24 : decode cX0_readPicture 24 = .ok (.iload_n 2, 1) := by decide +kernel
theorem dX0_readPicture_25 : decode cX0_readPicture 25 = .ok (.bipush 8, 2) := by decide +kernel
theorem dX0_readPicture_27 : decode cX0_readPicture 27 = .ok (.imul, 1) := by decide +kernel
theorem dX0_readPicture_28 : decode cX0_readPicture 28 = .ok (.iload_n 3, 1) := by decide +kernel
theorem dX0_readPicture_29 : decode cX0_readPicture 29 = .ok (.iadd, 1) := by decide +kernel
theorem dX0_readPicture_30 : decode cX0_readPicture 30 = .ok (.aload_n 1, 1) := by decide +kernel
theorem dX0_readPicture_31 : decode cX0_readPicture 31 = .ok (.iload_n 3, 1) := by decide +kernel
theorem dX0_readPicture_32 : decode cX0_readPicture 32 = .ok (.iload_n 2, 1) := by decide +kernel
theorem dX0_readPicture_33 : decode cX0_readPicture 33 = .ok (.invokevirtual 63, 3) := by decide +kernel
theorem dX0_readPicture_36 : decode cX0_readPicture 36 = .ok (.sipush 128, 3) := by decide +kernel
theorem dX0_readPicture_39 : decode cX0_readPicture 39 = .ok (.isub, 1) := by decide +kernel
theorem dX0_readPicture_40 : decode cX0_readPicture 40 = .ok (.iastore, 1) := by decide +kernel
theorem dX0_readPicture_41 : decode cX0_readPicture 41 = .ok (.iinc 3 1, 3) := by decide +kernel
theorem dX0_readPicture_44 : decode cX0_readPicture 44 = .ok (.goto (-32), 3) := by decide +kernel
theorem dX0_readPicture_47 : decode cX0_readPicture 47 = .ok (.iinc 2 1, 3) := by decide +kernel
theorem dX0_readPicture_50 : decode cX0_readPicture 50 = .ok (.goto (-48), 3) := by decide +kernel
theorem dX0_readPicture_53 : decode cX0_readPicture 53 = .ok (.return_, 1) := by decide +kernel
theorem dX0_writePicture_0 : decode cX0_writePicture 0 = .ok (.aload_n 1, 1) := by decide +kernel
theorem dX0_writePicture_1 : decode cX0_writePicture 1 = .ok (.aload_n 0, 1) := by decide +kernel
theorem dX0_writePicture_2 : decode cX0_writePicture 2 = .ok (.getfield 33, 3) := by decide +kernel
theorem dX0_writePicture_5 : decode cX0_writePicture 5 = .ok (.aload_n 0, 1) := by decide +kernel
theorem dX0_writePicture_6 : decode cX0_writePicture 6 = .ok (.getfield 37, 3) := by decide +kernel
theorem dX0_writePicture_9 : decode cX0_writePicture 9 = .ok (.invokevirtual 68, 3) := by decide +kernel
theorem dX0_writePicture_12 : decode cX0_writePicture 12 = .ok (.iconst 0, 1) := by decide +kernel
theorem dX0_writePicture_13 : decode cX0_writePicture 13 = .ok (.istore_n 2, 1) := by decide +kernel
theorem dX0_writePicture_14 : decode cX0_writePicture 14 = .ok (.iload_n 2, 1) := by decide +kernel
theorem dX0_writePicture_15 : decode cX0_writePicture 15 = .ok (.aload_n 0, 1) := by decide +kernel
theorem dX0_writePicture_16 : decode cX0_writePicture 16 = .ok (.getfield 37, 3) := by decide +kernel
theorem dX0_writePicture_19 : decode cX0_writePicture 19 = .ok (.if_icmp .ge 60, 3) := by decide +kernel
theorem dX0_writePicture_22 : decode cX0_writePicture 22 = .ok (.iconst 0, 1) := by decide +kernel
theorem dX0_writePicture_23 : decode cX0_writePicture 23 = .ok (.istore_n 3, 1) := by decide +kernel
theorem dX0_writePicture_24 : decode cX0_writePicture 24 = .ok (.iload_n 3, 1) := by decide +kernel
theorem dX0_writePicture_25 : decode cX0_writePicture 25 = .ok (.aload_n 0, 1) := by decide +kernel
theorem dX0_writePicture_26 : decode cX0_writePicture 26 = .ok (.getfield 33, 3) := by decide +kernel
theorem dX0_writePicture_29 : decode cX0_writePicture 29 = .ok (.if_icmp .ge 44, 3) := by decide +kernel
theorem dX0_writePicture_32 : decode cX0_writePicture 32 = .ok (.aload_n 0, 1) := by decide +kernel
theorem dX0_writePicture_33 : decode cX0_writePicture 33 = .ok (.getfield 9, 3) := by decide +kernel
theorem dX0_writePicture_36 : decode cX0_writePicture 36 = .ok (.iload_n 2, 1) := by decide +kernel
theorem dX0_writePicture_37 : decode cX0_writePicture 37 = .ok (.bipush 8, 2) := by decide +kernel
theorem dX0_writePicture_39 : decode cX0_writePicture 39 = .ok (.imul, 1) := by decide +kernel
theorem dX0_writePicture_40 : decode cX0_writePicture 40 = .ok (.iload_n 3, 1) := by decide +kernel
theorem dX0_writePicture_41 : decode cX0_writePicture 41 = .ok (.iadd, 1) := by decide +kernel
theorem dX0_writePicture_42 : decode cX0_writePicture 42 = .ok (.iaload, 1) := by decide +kernel
theorem dX0_writePicture_43 : decode cX0_writePicture 43 = .ok (.sipush 128, 3) := by decide +kernel
theorem dX0_writePicture_46 : decode cX0_writePicture 46 = .ok (.iadd, 1) := by decide +kernel
theorem dX0_writePicture_47 : decode cX0_writePicture 47 = .ok (.istore 4, 2) := by decide +kernel
theorem dX0_writePicture_49 : decode cX0_writePicture 49 = .ok (.aload_n 1, 1) := by decide +kernel
theorem dX0_writePicture_50 : decode cX0_writePicture 50 = .ok (.iload_n 3, 1) := by decide +kernel
theorem dX0_writePicture_51 : decode cX0_writePicture 51 = .ok (.iload_n 2, 1) := by decide +kernel
theorem dX0_writePicture_52 : decode cX0_writePicture 52 = .ok (.iconst 0, 1) := by decide +kernel
theorem dX0_writePicture_53 : decode cX0_writePicture 53 = .ok (.sipush 255, 3) := by decide +kernel
theorem dX0_writePicture_56 : decode cX0_writePicture 56 = .ok (.iload 4, 2) := by decide +kernel
theorem dX0_writePicture_58 : decode cX0_writePicture 58 = .ok (.invokestatic 72, 3) := by decide +kernel
theorem dX0_writePicture_61 : decode cX0_writePicture 61 = .ok (.invokestatic 77, 3) := by decide +kernel
theorem dX0_writePicture_64 : decode cX0_writePicture 64 = .ok (.invokevirtual 80, 3) := by decide +kernel
theorem dX0_writePicture_67 : decode cX0_writePicture 67 = .ok (.iinc 3 1, 3) := by decide +kernel
theorem dX0_writePicture_70 : decode cX0_writePicture 70 = .ok (.goto (-46), 3) := by decide +kernel
theorem dX0_writePicture_73 : decode cX0_writePicture 73 = .ok (.iinc 2 1, 3) := by decide +kernel
theorem dX0_writePicture_76 : decode cX0_writePicture 76 = .ok (.goto (-62), 3) := by decide +kernel
theorem dX0_writePicture_79 : decode cX0_writePicture 79 = .ok (.return_, 1) := by decide +kernel
theorem dX0_goForth_0 : decode cX0_goForth 0 = .ok (.iconst 0, 1) := by decide +kernel
theorem dX0_goForth_1 : decode cX0_goForth 1 = .ok (.istore_n 1, 1) := by decide +kernel
theorem dX0_goForth_2 : decode cX0_goForth 2 = .ok (.iload_n 1, 1) := by decide +kernel
theorem dX0_goForth_3 : decode cX0_goForth 3 = .ok (.aload_n 0, 1) := by decide +kernel
theorem dX0_goForth_4 : decode cX0_goForth 4 = .ok (.getfield 40, 3) := by decide +kernel
theorem dX0_goForth_7 : decode cX0_goForth 7 = .ok (.if_icmp .ge 77, 3) := by decide +kernel
theorem dX0_goForth_10 : decode cX0_goForth 10 = .ok (.aload_n 0, 1) := by decide +kernel
theorem dX0_goForth_11 : decode cX0_goForth 11 = .ok (.getfield 33, 3) := by decide +kernel
theorem dX0_goForth_14 : decode cX0_goForth 14 = .ok (.iload_n 1, 1) := by decide +kernel
theorem dX0_goForth_15 : decode cX0_goForth 15 = .ok (.invokestatic 46, 3) := by decide +kernel
theorem dX0_goForth_18 : decode cX0_goForth 18 = .ok (.istore_n 2, 1) := by decide +kernel
theorem dX0_goForth_19 : decode cX0_goForth 19 = .ok (.aload_n 0, 1) := by decide +kernel
theorem dX0_goForth_20 : decode cX0_goForth 20 = .ok (.getfield 37, 3) := by decide +kernel
theorem dX0_goForth_23 : decode cX0_goForth 23 = .ok (.iload_n 1, 1) := by decide +kernel
theorem dX0_goForth_24 : decode cX0_goForth 24 = .ok (.invokestatic 46, 3) := by decide +kernel
theorem dX0_goForth_27 : decode cX0_goForth 27 = .ok (.istore_n 3, 1) := by decide +kernel
theorem dX0_goForth_28 : decode cX0_goForth 28 = .ok (.iconst 0, 1) := by decide +kernel
theorem dX0_goForth_29 : decode cX0_goForth 29 = .ok (.istore 4, 2) := by decide +kernel
theorem dX0_goForth_31 : decode cX0_goForth 31 = .ok (.iload 4, 2) := by decide +kernel
theorem dX0_goForth_33 : decode cX0_goForth 33 = .ok (.iload_n 2, 1) := by decide +kernel
theorem dX0_goForth_34 : decode cX0_goForth 34 = .ok (.if_icmp .ge 18, 3) := by decide +kernel
theorem dX0_goForth_37 : decode cX0_goForth 37 = .ok (.aload_n 0, 1) := by decide +kernel
theorem dX0_goForth_38 : decode cX0_goForth 38 = .ok (.iload 4, 2) := by decide +kernel
theorem dX0_goForth_40 : decode cX0_goForth 40 = .ok (.bipush 8, 2) := by decide +kernel
theorem dX0_goForth_42 : decode cX0_goForth 42 = .ok (.iload_n 3, 1) := by decide +kernel
theorem dX0_goForth_43 : decode cX0_goForth 43 = .ok (.invokevirtual 84, 3) := by decide +kernel
theorem dX0_goForth_46 : decode cX0_goForth 46 = .ok (.iinc 4 1, 3) := by decide +kernel
theorem dX0_goForth_49 : decode cX0_goForth 49 = .ok (.goto (-18), 3) := by decide +kernel
theorem dX0_goForth_52 : decode cX0_goForth 52 = .ok (.iconst 0, 1) := by decide +kernel
theorem dX0_goForth_53 : decode cX0_goForth 53 = .ok (.istore 4, 2) := by decide +kernel
theorem dX0_goForth_55 : decode cX0_goForth 55 = .ok (.iload 4, 2) := by decide +kernel
theorem dX0_goForth_57 : decode cX0_goForth 57 = .ok (.iload_n 3, 1) := by decide +kernel
theorem dX0_goForth_58 : decode cX0_goForth 58 = .ok (.if_icmp .ge 20, 3) := by decide +kernel
theorem dX0_goForth_61 : decode cX0_goForth 61 = .ok (.aload_n 0, 1) := by decide +kernel
theorem dX0_goForth_62 : decode cX0_goForth 62 = .ok (.iload 4, 2) := by decide +kernel
theorem dX0_goForth_64 : decode cX0_goForth 64 = .ok (.bipush 8, 2) := by decide +kernel
theorem dX0_goForth_66 : decode cX0_goForth 66 = .ok (.imul, 1) := by decide +kernel
theorem dX0_goForth_67 : decode cX0_goForth 67 = .ok (.iconst 1, 1) := by decide +kernel
theorem dX0_goForth_68 : decode cX0_goForth 68 = .ok (.iload_n 2, 1) := by decide +kernel
theorem dX0_goForth_69 : decode cX0_goForth 69 = .ok (.invokevirtual 84, 3) := by decide +kernel
theorem dX0_goForth_72 : decode cX0_goForth 72 = .ok (.iinc 4 1, 3) := by decide +kernel
theorem dX0_goForth_75 : decode cX0_goForth 75 = .ok (.goto (-20), 3) := by decide +kernel
theorem dX0_goForth_78 : decode cX0_goForth 78 = .ok (.iinc 1 1, 3) := by decide +kernel
theorem dX0_goForth_81 : decode cX0_goForth 81 = .ok (.goto (-79), 3) := by decide +kernel
theorem dX0_goForth_84 : decode cX0_goForth 84 = .ok (.return_, 1) := by decide +kernel
theorem dX0_goBack_0 : decode cX0_goBack 0 = .ok (.aload_n 0, 1) := by decide +kernel
theorem dX0_goBack_1 : decode cX0_goBack 1 = .ok (.getfield 40, 3) := by decide +kernel
theorem dX0_goBack_4 : decode cX0_goBack 4 = .ok (.iconst 1, 1) := by decide +kernel
theorem dX0_goBack_5 : decode cX0_goBack 5 = .ok (.isub, 1) := by decide +kernel
theorem dX0_goBack_6 : decode cX0_goBack 6 = .ok (.istore_n 1, 1) := by decide +kernel
theorem dX0_goBack_7 : decode cX0_goBack 7 = .ok (.iload_n 1, 1) := by decide +kernel
theorem dX0_goBack_8 : decode cX0_goBack 8 = .ok (.ifCond .lt 77, 3) := by decide +kernel
theorem dX0_goBack_11 : decode cX0_goBack 11 = .ok (.aload_n 0, 1) := by decide +kernel
theorem dX0_goBack_12 : decode cX0_goBack 12 = .ok (.getfield 33, 3) := by decide +kernel
theorem dX0_goBack_15 : decode cX0_goBack 15 = .ok (.iload_n 1, 1) := by decide +kernel
theorem dX0_goBack_16 : decode cX0_goBack 16 = .ok (.invokestatic 46, 3) := by decide +kernel
theorem dX0_goBack_19 : decode cX0_goBack 19 = .ok (.istore_n 2, 1) := by decide +kernel
theorem dX0_goBack_20 : decode cX0_goBack 20 = .ok (.aload_n 0, 1) := by decide +kernel
theorem dX0_goBack_21 : decode cX0_goBack 21 = .ok (.getfield 37, 3) := by decide +kernel
theorem dX0_goBack_24 : decode cX0_goBack 24 = .ok (.iload_n 1, 1) := by decide +kernel
theorem dX0_goBack_25 : decode cX0_goBack 25 = .ok (.invokestatic 46, 3) := by decide +kernel
theorem dX0_goBack_28 : decode cX0_goBack 28 = .ok (.istore_n 3, 1) := by decide +kernel
theorem dX0_goBack_29 : decode cX0_goBack 29 = .ok (.iconst 0, 1) := by decide +kernel
theorem dX0_goBack_30 : decode cX0_goBack 30 = .ok (.istore 4, 2) := by decide +kernel
theorem dX0_goBack_32 : decode cX0_goBack 32 = .ok (.iload 4, 2) := by decide +kernel
theorem dX0_goBack_34 : decode cX0_goBack 34 = .ok (.iload_n 3, 1) := by decide +kernel
theorem dX0_goBack_35 : decode cX0_goBack 35 = .ok (.if_icmp .ge 20, 3) := by decide +kernel
theorem dX0_goBack_38 : decode cX0_goBack 38 = .ok (.aload_n 0, 1) := by decide +kernel
theorem dX0_goBack_39 : decode cX0_goBack 39 = .ok (.iload 4, 2) := by decide +kernel
theorem dX0_goBack_41 : decode cX0_goBack 41 = .ok (.bipush 8, 2) := by decide +kernel
theorem dX0_goBack_43 : decode cX0_goBack 43 = .ok (.imul, 1) := by decide +kernel
theorem dX0_goBack_44 : decode cX0_goBack 44 = .ok (.iconst 1, 1) := by decide +kernel
theorem dX0_goBack_45 : decode cX0_goBack 45 = .ok (.iload_n 2, 1) := by decide +kernel
theorem dX0_goBack_46 : decode cX0_goBack 46 = .ok (.invokevirtual 87, 3) := by decide +kernel
theorem dX0_goBack_49 : decode cX0_goBack 49 = .ok (.iinc 4 1, 3) := by decide +kernel
theorem dX0_goBack_52 : decode cX0_goBack 52 = .ok (.goto (-20), 3) := by decide +kernel
theorem dX0_goBack_55 : decode cX0_goBack 55 = .ok (.iconst 0, 1) := by decide +kernel
theorem dX0_goBack_56 : decode cX0_goBack 56 = .ok (.istore 4, 2) := by decide +kernel
theorem dX0_goBack_58 : decode cX0_goBack 58 = .ok (.iload 4, 2) := by decide +kernel
theorem dX0_goBack_60 : decode cX0_goBack 60 = .ok (.iload_n 2, 1) := by decide +kernel
theorem dX0_goBack_61 : decode cX0_goBack 61 = .ok (.if_icmp .ge 18, 3) := by decide +kernel
theorem dX0_goBack_64 : decode cX0_goBack 64 = .ok (.aload_n 0, 1) := by decide +kernel
theorem dX0_goBack_65 : decode cX0_goBack 65 = .ok (.iload 4, 2) := by decide +kernel
theorem dX0_goBack_67 : decode cX0_goBack 67 = .ok (.bipush 8, 2) := by decide +kernel
theorem dX0_goBack_69 : decode cX0_goBack 69 = .ok (.iload_n 3, 1) := by decide +kernel
theorem dX0_goBack_70 : decode cX0_goBack 70 = .ok (.invokevirtual 87, 3) := by decide +kernel
theorem dX0_goBack_73 : decode cX0_goBack 73 = .ok (.iinc 4 1, 3) := by decide +kernel
theorem dX0_goBack_76 : decode cX0_goBack 76 = .ok (.goto (-18), 3) := by decide +kernel
theorem dX0_goBack_79 : decode cX0_goBack 79 = .ok (.iinc 1 (-1), 3) := by decide +kernel
theorem dX0_goBack_82 : decode cX0_goBack 82 = .ok (.goto (-75), 3) := by decide +kernel
theorem dX0_goBack_85 : decode cX0_goBack 85 = .ok (.return_, 1) := by decide +kernel
theorem dX0_splitLine_0 : decode cX0_splitLine 0 = .ok (.iload_n 3, 1) := by decide +kernel
theorem dX0_splitLine_1 : decode cX0_splitLine 1 = .ok (.iconst 2, 1) := by decide +kernel
theorem dX0_splitLine_2 : decode cX0_splitLine 2 = .ok (.if_icmp .ge 4, 3) := by decide +kernel
theorem dX0_splitLine_5 : decode cX0_splitLine 5 = .ok (.return_, 1) := by decide +kernel
theorem dX0_splitLine_6 : decode cX0_splitLine 6 = .ok (.aload_n 0, 1) := by decide +kernel
theorem dX0_splitLine_7 : decode cX0_splitLine 7 = .ok (.iload_n 1, 1) := by decide +kernel
theorem dX0_splitLine_8 : decode cX0_splitLine 8 = .ok (.iload_n 2, 1) := by decide +kernel
theorem dX0_splitLine_9 : decode cX0_splitLine 9 = .ok (.iload_n 3, 1) := by decide +kernel
theorem dX0_splitLine_10 : decode cX0_splitLine 10 = .ok (.invokevirtual 90, 3) := by decide +kernel
theorem dX0_splitLine_13 : decode cX0_splitLine 13 = .ok (.iload_n 3, 1) := by decide +kernel
theorem dX0_splitLine_14 : decode cX0_splitLine 14 = .ok (.iconst 1, 1) := by decide +kernel
theorem dX0_splitLine_15 : decode cX0_splitLine 15 = .ok (.iadd, 1) := by decide +kernel
theorem dX0_splitLine_16 : decode cX0_splitLine 16 = .ok (.iconst 2, 1) := by decide +kernel
theorem dX0_splitLine_17 : decode cX0_splitLine 17 = .ok (.idiv, 1) := by decide +kernel
theorem dX0_splitLine_18 : decode cX0_splitLine 18 = .ok (.istore 4, 2) := by decide +kernel
theorem dX0_splitLine_20 : decode cX0_splitLine 20 = .ok (.iconst 0, 1) := by decide +kernel
theorem dX0_splitLine_21 : decode cX0_splitLine 21 = .ok (.istore 5, 2) := by decide +kernel
theorem dX0_splitLine_23 : decode cX0_splitLine 23 = .ok (.iload 5, 2) := by decide +kernel
theorem dX0_splitLine_25 : decode cX0_splitLine 25 = .ok (.iload_n 3, 1) := by decide +kernel
theorem dX0_splitLine_26 : decode cX0_splitLine 26 = .ok (.iconst 2, 1) := by decide +kernel
theorem dX0_splitLine_27 : decode cX0_splitLine 27 = .ok (.idiv, 1) := by decide +kernel
theorem dX0_splitLine_28 : decode cX0_splitLine 28 = .ok (.if_icmp .ge 80, 3) := by decide +kernel
theorem dX0_splitLine_31 : decode cX0_splitLine 31 = .ok (.iconst 2, 1) := by decide +kernel
theorem dX0_splitLine_32 : decode cX0_splitLine 32 = .ok (.iload 5, 2) := by decide +kernel
theorem dX0_splitLine_34 : decode cX0_splitLine 34 = .ok (.imul, 1) := by decide +kernel
theorem dX0_splitLine_35 : decode cX0_splitLine 35 = .ok (.iconst 2, 1) := by decide +kernel
theorem dX0_splitLine_36 : decode cX0_splitLine 36 = .ok (.iadd, 1) := by decide +kernel
theorem dX0_splitLine_37 : decode cX0_splitLine 37 = .ok (.iload_n 3, 1) := by decide +kernel
theorem dX0_splitLine_38 : decode cX0_splitLine 38 = .ok (.if_icmp .ge 17, 3) := by decide +kernel
theorem dX0_splitLine_41 : decode cX0_splitLine 41 = .ok (.aload_n 0, 1) := by decide +kernel
theorem dX0_splitLine_42 : decode cX0_splitLine 42 = .ok (.getfield 27, 3) := by decide +kernel
theorem dX0_splitLine_45 : decode cX0_splitLine 45 = .ok (.iconst 2, 1) := by decide +kernel
theorem dX0_splitLine_46 : decode cX0_splitLine 46 = .ok (.iload 5, 2) := by decide +kernel
theorem dX0_splitLine_48 : decode cX0_splitLine 48 = .ok (.imul, 1) := by decide +kernel
theorem dX0_splitLine_49 : decode cX0_splitLine 49 = .ok (.iconst 2, 1) := by decide +kernel
theorem dX0_splitLine_50 : decode cX0_splitLine 50 = .ok (.iadd, 1) := by decide +kernel
theorem dX0_splitLine_51 : decode cX0_splitLine 51 = .ok (.iaload, 1) := by decide +kernel
theorem dX0_splitLine_52 : decode cX0_splitLine 52 = .ok (.goto 12, 3) := by decide +kernel
theorem dX0_splitLine_55 : decode cX0_splitLine 55 = .ok (.aload_n 0, 1) := by decide +kernel
theorem dX0_splitLine_56 : decode cX0_splitLine 56 = .ok (.getfield 27, 3) := by decide +kernel
theorem dX0_splitLine_59 : decode cX0_splitLine 59 = .ok (.iconst 2, 1) := by decide +kernel
theorem dX0_splitLine_60 : decode cX0_splitLine 60 = .ok (.iload 5, 2) := by decide +kernel
theorem dX0_splitLine_62 : decode cX0_splitLine 62 = .ok (.imul, 1) := by decide +kernel
theorem dX0_splitLine_63 : decode cX0_splitLine 63 = .ok (.iaload, 1) := by decide +kernel
theorem dX0_splitLine_64 : decode cX0_splitLine 64 = .ok (.istore 6, 2) := by decide +kernel
theorem dX0_splitLine_66 : decode cX0_splitLine 66 = .ok (.aload_n 0, 1) := by decide +kernel
theorem dX0_splitLine_67 : decode cX0_splitLine 67 = .ok (.getfield 30, 3) := by decide +kernel
theorem dX0_splitLine_70 : decode cX0_splitLine 70 = .ok (.iload 4, 2) := by decide +kernel
theorem dX0_splitLine_72 : decode cX0_splitLine 72 = .ok (.iload 5, 2) := by decide +kernel
theorem dX0_splitLine_74 : decode cX0_splitLine 74 = .ok (.iadd, 1) := by decide +kernel
theorem dX0_splitLine_75 : decode cX0_splitLine 75 = .ok (.aload_n 0, 1) := by decide +kernel
theorem dX0_splitLine_76 : decode cX0_splitLine 76 = .ok (.getfield 27, 3) := by decide +kernel
theorem dX0_splitLine_79 : decode cX0_splitLine 79 = .ok (.iconst 2, 1) := by decide +kernel
theorem dX0_splitLine_80 : decode cX0_splitLine 80 = .ok (.iload 5, 2) := by decide +kernel
theorem dX0_splitLine_82 : decode cX0_splitLine 82 = .ok (.imul, 1) := by decide +kernel
theorem dX0_splitLine_83 : decode cX0_splitLine 83 = .ok (.iconst 1, 1) := by decide +kernel
theorem dX0_splitLine_84 : decode cX0_splitLine 84 = .ok (.iadd, 1) := by decide +kernel
theorem dX0_splitLine_85 : decode cX0_splitLine 85 = .ok (.iaload, 1) := by decide +kernel
theorem dX0_splitLine_86 : decode cX0_splitLine 86 = .ok (.aload_n 0, 1) := by decide +kernel
theorem dX0_splitLine_87 : decode cX0_splitLine 87 = .ok (.getfield 27, 3) := by decide +kernel
theorem dX0_splitLine_90 : decode cX0_splitLine 90 = .ok (.iconst 2, 1) := by decide +kernel
theorem dX0_splitLine_91 : decode cX0_splitLine 91 = .ok (.iload 5, 2) := by decide +kernel
theorem dX0_splitLine_93 : decode cX0_splitLine 93 = .ok (.imul, 1) := by decide +kernel
theorem dX0_splitLine_94 : decode cX0_splitLine 94 = .ok (.iaload, 1) := by decide +kernel
theorem dX0_splitLine_95 : decode cX0_splitLine 95 = .ok (.iload 6, 2) := by decide +kernel
theorem dX0_splitLine_97 : decode cX0_splitLine 97 = .ok (.iadd, 1) := by decide +kernel
theorem dX0_splitLine_98 : decode cX0_splitLine 98 = .ok (.iconst 1, 1) := by decide +kernel
theorem dX0_splitLine_99 : decode cX0_splitLine 99 = .ok (.ishr, 1) := by decide +kernel
theorem dX0_splitLine_100 : decode cX0_splitLine 100 = .ok (.isub, 1) := by decide +kernel
theorem dX0_splitLine_101 : decode cX0_splitLine 101 = .ok (.iastore, 1) := by decide +kernel
theorem dX0_splitLine_102 : decode cX0_splitLine 102 = .ok (.iinc 5 1, 3) := by decide +kernel
theorem dX0_splitLine_105 : decode cX0_splitLine 105 = .ok (.goto (-82), 3) := by decide +kernel
theorem dX0_splitLine_108 : decode cX0_splitLine 108 = .ok (.iconst 0, 1) := by decide +kernel
theorem dX0_splitLine_109 : decode cX0_splitLine 109 = .ok (.istore 5, 2) := by decide +kernel
theorem dX0_splitLine_111 : decode cX0_splitLine 111 = .ok (.iload 5, 2) := by decide +kernel
theorem dX0_splitLine_113 : decode cX0_splitLine 113 = .ok (.iload 4, 2) := by decide +kernel
theorem dX0_splitLine_115 : decode cX0_splitLine 115 = .ok (.if_icmp .ge 36, 3) := by decide +kernel
theorem dX0_splitLine_118 : decode cX0_splitLine 118 = .ok (.aload_n 0, 1) := by decide +kernel
theorem dX0_splitLine_119 : decode cX0_splitLine 119 = .ok (.getfield 30, 3) := by decide +kernel
theorem dX0_splitLine_122 : decode cX0_splitLine 122 = .ok (.iload 5, 2) := by decide +kernel
theorem dX0_splitLine_124 : decode cX0_splitLine 124 = .ok (.aload_n 0, 1) := by decide +kernel
theorem dX0_splitLine_125 : decode cX0_splitLine 125 = .ok (.getfield 27, 3) := by decide +kernel
theorem dX0_splitLine_128 : decode cX0_splitLine 128 = .ok (.iconst 2, 1) := by decide +kernel
theorem dX0_splitLine_129 : decode cX0_splitLine 129 = .ok (.iload 5, 2) := by decide +kernel
theorem dX0_splitLine_131 : decode cX0_splitLine 131 = .ok (.imul, 1) := by decide +kernel
theorem dX0_splitLine_132 : decode cX0_splitLine 132 = .ok (.iaload, 1) := by decide +kernel
theorem dX0_splitLine_133 : decode cX0_splitLine 133 = .ok (.aload_n 0, 1) := by decide +kernel
theorem dX0_splitLine_134 : decode cX0_splitLine 134 = .ok (.getfield 30, 3) := by decide +kernel
theorem dX0_splitLine_137 : decode cX0_splitLine 137 = .ok (.iload 5, 2) := by decide +kernel
theorem dX0_splitLine_139 : decode cX0_splitLine 139 = .ok (.iload_n 3, 1) := by decide +kernel
theorem dX0_splitLine_140 : decode cX0_splitLine 140 = .ok (.invokestatic 93, 3) := by decide +kernel
theorem dX0_splitLine_143 : decode cX0_splitLine 143 = .ok (.iadd, 1) := by decide +kernel
theorem dX0_splitLine_144 : decode cX0_splitLine 144 = .ok (.iastore, 1) := by decide +kernel
theorem dX0_splitLine_145 : decode cX0_splitLine 145 = .ok (.iinc 5 1, 3) := by decide +kernel
theorem dX0_splitLine_148 : decode cX0_splitLine 148 = .ok (.goto (-37), 3) := by decide +kernel
theorem dX0_splitLine_151 : decode cX0_splitLine 151 = .ok (.aload_n 0, 1) := by decide +kernel
theorem dX0_splitLine_152 : decode cX0_splitLine 152 = .ok (.iload_n 1, 1) := by decide +kernel
theorem dX0_splitLine_153 : decode cX0_splitLine 153 = .ok (.iload_n 2, 1) := by decide +kernel
theorem dX0_splitLine_154 : decode cX0_splitLine 154 = .ok (.iload_n 3, 1) := by decide +kernel
theorem dX0_splitLine_155 : decode cX0_splitLine 155 = .ok (.invokevirtual 97, 3) := by decide +kernel
theorem dX0_splitLine_158 : decode cX0_splitLine 158 = .ok (.return_, 1) := by decide +kernel
theorem dX0_joinLine_0 : decode cX0_joinLine 0 = .ok (.iload_n 3, 1) := by decide +kernel
theorem dX0_joinLine_1 : decode cX0_joinLine 1 = .ok (.iconst 2, 1) := by decide +kernel
theorem dX0_joinLine_2 : decode cX0_joinLine 2 = .ok (.if_icmp .ge 4, 3) := by decide +kernel
theorem dX0_joinLine_5 : decode cX0_joinLine 5 = .ok (.return_, 1) := by decide +kernel
theorem dX0_joinLine_6 : decode cX0_joinLine 6 = .ok (.aload_n 0, 1) := by decide +kernel
theorem dX0_joinLine_7 : decode cX0_joinLine 7 = .ok (.iload_n 1, 1) := by decide +kernel
theorem dX0_joinLine_8 : decode cX0_joinLine 8 = .ok (.iload_n 2, 1) := by decide +kernel
theorem dX0_joinLine_9 : decode cX0_joinLine 9 = .ok (.iload_n 3, 1) := by decide +kernel
theorem dX0_joinLine_10 : decode cX0_joinLine 10 = .ok (.invokevirtual 90, 3) := by decide +kernel
theorem dX0_joinLine_13 : decode cX0_joinLine 13 = .ok (.iload_n 3, 1) := by decide +kernel
theorem dX0_joinLine_14 : decode cX0_joinLine 14 = .ok (.iconst 1, 1) := by decide +kernel
theorem dX0_joinLine_15 : decode cX0_joinLine 15 = .ok (.iadd, 1) := by decide +kernel
theorem dX0_joinLine_16 : decode cX0_joinLine 16 = .ok (.iconst 2, 1) := by decide +kernel
theorem dX0_joinLine_17 : decode cX0_joinLine 17 = .ok (.idiv, 1) := by decide +kernel
theorem dX0_joinLine_18 : decode cX0_joinLine 18 = .ok (.istore 4, 2) := by decide +kernel
theorem dX0_joinLine_20 : decode cX0_joinLine 20 = .ok (.iconst 0, 1) := by decide +kernel
theorem dX0_joinLine_21 : decode cX0_joinLine 21 = .ok (.istore 5, 2) := by decide +kernel
theorem dX0_joinLine_23 : decode cX0_joinLine 23 = .ok (.iload 5, 2) := by decide +kernel
theorem dX0_joinLine_25 : decode cX0_joinLine 25 = .ok (.iload 4, 2) := by decide +kernel
theorem dX0_joinLine_27 : decode cX0_joinLine 27 = .ok (.if_icmp .ge 36, 3) := by decide +kernel
theorem dX0_joinLine_30 : decode cX0_joinLine 30 = .ok (.aload_n 0, 1) := by decide +kernel
theorem dX0_joinLine_31 : decode cX0_joinLine 31 = .ok (.getfield 30, 3) := by decide +kernel
theorem dX0_joinLine_34 : decode cX0_joinLine 34 = .ok (.iconst 2, 1) := by decide +kernel
theorem dX0_joinLine_35 : decode cX0_joinLine 35 = .ok (.iload 5, 2) := by decide +kernel
theorem dX0_joinLine_37 : decode cX0_joinLine 37 = .ok (.imul, 1) := by decide +kernel
theorem dX0_joinLine_38 : decode cX0_joinLine 38 = .ok (.aload_n 0, 1) := by decide +kernel
theorem dX0_joinLine_39 : decode cX0_joinLine 39 = .ok (.getfield 27, 3) := by decide +kernel
theorem dX0_joinLine_42 : decode cX0_joinLine 42 = .ok (.iload 5, 2) := by decide +kernel
theorem dX0_joinLine_44 : decode cX0_joinLine 44 = .ok (.iaload, 1) := by decide +kernel
theorem dX0_joinLine_45 : decode cX0_joinLine 45 = .ok (.aload_n 0, 1) := by decide +kernel
theorem dX0_joinLine_46 : decode cX0_joinLine 46 = .ok (.getfield 27, 3) := by decide +kernel
theorem dX0_joinLine_49 : decode cX0_joinLine 49 = .ok (.iload 5, 2) := by decide +kernel
theorem dX0_joinLine_51 : decode cX0_joinLine 51 = .ok (.iload_n 3, 1) := by decide +kernel
theorem dX0_joinLine_52 : decode cX0_joinLine 52 = .ok (.invokestatic 93, 3) := by decide +kernel
theorem dX0_joinLine_55 : decode cX0_joinLine 55 = .ok (.isub, 1) := by decide +kernel
theorem dX0_joinLine_56 : decode cX0_joinLine 56 = .ok (.iastore, 1) := by decide +kernel
theorem dX0_joinLine_57 : decode cX0_joinLine 57 = .ok (.iinc 5 1, 3) := by decide +kernel
theorem dX0_joinLine_60 : decode cX0_joinLine 60 = .ok (.goto (-37), 3) := by decide +kernel
theorem dX0_joinLine_63 : decode cX0_joinLine 63 = .ok (.iconst 0, 1) := by decide +kernel
theorem dX0_joinLine_64 : decode cX0_joinLine 64 = .ok (.istore 5, 2) := by decide +kernel
theorem dX0_joinLine_66 : decode cX0_joinLine 66 = .ok (.iload 5, 2) := by decide +kernel
theorem dX0_joinLine_68 : decode cX0_joinLine 68 = .ok (.iload_n 3, 1) := by decide +kernel
theorem dX0_joinLine_69 : decode cX0_joinLine 69 = .ok (.iconst 2, 1) := by decide +kernel
theorem dX0_joinLine_70 : decode cX0_joinLine 70 = .ok (.idiv, 1) := by decide +kernel
theorem dX0_joinLine_71 : decode cX0_joinLine 71 = .ok (.if_icmp .ge 80, 3) := by decide +kernel
theorem dX0_joinLine_74 : decode cX0_joinLine 74 = .ok (.iconst 2, 1) := by decide +kernel
theorem dX0_joinLine_75 : decode cX0_joinLine 75 = .ok (.iload 5, 2) := by decide +kernel
theorem dX0_joinLine_77 : decode cX0_joinLine 77 = .ok (.imul, 1) := by decide +kernel
theorem dX0_joinLine_78 : decode cX0_joinLine 78 = .ok (.iconst 2, 1) := by decide +kernel
theorem dX0_joinLine_79 : decode cX0_joinLine 79 = .ok (.iadd, 1) := by decide +kernel
theorem dX0_joinLine_80 : decode cX0_joinLine 80 = .ok (.iload_n 3, 1) := by decide +kernel
theorem dX0_joinLine_81 : decode cX0_joinLine 81 = .ok (.if_icmp .ge 17, 3) := by decide +kernel
theorem dX0_joinLine_84 : decode cX0_joinLine 84 = .ok (.aload_n 0, 1) := by decide +kernel
theorem dX0_joinLine_85 : decode cX0_joinLine 85 = .ok (.getfield 30, 3) := by decide +kernel
theorem dX0_joinLine_88 : decode cX0_joinLine 88 = .ok (.iconst 2, 1) := by decide +kernel
theorem dX0_joinLine_89 : decode cX0_joinLine 89 = .ok (.iload 5, 2) := by decide +kernel
theorem dX0_joinLine_91 : decode cX0_joinLine 91 = .ok (.imul, 1) := by decide +kernel
theorem dX0_joinLine_92 : decode cX0_joinLine 92 = .ok (.iconst 2, 1) := by decide +kernel
theorem dX0_joinLine_93 : decode cX0_joinLine 93 = .ok (.iadd, 1) := by decide +kernel
theorem dX0_joinLine_94 : decode cX0_joinLine 94 = .ok (.iaload, 1) := by decide +kernel
theorem dX0_joinLine_95 : decode cX0_joinLine 95 = .ok (.goto 12, 3) := by decide +kernel
theorem dX0_joinLine_98 : decode cX0_joinLine 98 = .ok (.aload_n 0, 1) := by decide +kernel
theorem dX0_joinLine_99 : decode cX0_joinLine 99 = .ok (.getfield 30, 3) := by decide +kernel
theorem dX0_joinLine_102 : decode cX0_joinLine 102 = .ok (.iconst 2, 1) := by decide +kernel
theorem dX0_joinLine_103 : decode cX0_joinLine 103 = .ok (.iload 5, 2) := by decide +kernel
theorem dX0_joinLine_105 : decode cX0_joinLine 105 = .ok (.imul, 1) := by decide +kernel
theorem dX0_joinLine_106 : decode cX0_joinLine 106 = .ok (.iaload, 1) := by decide +kernel
theorem dX0_joinLine_107 : decode cX0_joinLine 107 = .ok (.istore 6, 2) := by decide +kernel
theorem dX0_joinLine_109 : decode cX0_joinLine 109 = .ok (.aload_n 0, 1) := by decide +kernel
theorem dX0_joinLine_110 : decode cX0_joinLine 110 = .ok (.getfield 30, 3) := by decide +kernel
theorem dX0_joinLine_113 : decode cX0_joinLine 113 = .ok (.iconst 2, 1) := by decide +kernel
theorem dX0_joinLine_114 : decode cX0_joinLine 114 = .ok (.iload 5, 2) := by decide +kernel
theorem dX0_joinLine_116 : decode cX0_joinLine 116 = .ok (.imul, 1) := by decide +kernel
theorem dX0_joinLine_117 : decode cX0_joinLine 117 = .ok (.iconst 1, 1) := by decide +kernel
theorem dX0_joinLine_118 : decode cX0_joinLine 118 = .ok (.iadd, 1) := by decide +kernel
theorem dX0_joinLine_119 : decode cX0_joinLine 119 = .ok (.aload_n 0, 1) := by decide +kernel
theorem dX0_joinLine_120 : decode cX0_joinLine 120 = .ok (.getfield 27, 3) := by decide +kernel
theorem dX0_joinLine_123 : decode cX0_joinLine 123 = .ok (.iload 4, 2) := by decide +kernel
theorem dX0_joinLine_125 : decode cX0_joinLine 125 = .ok (.iload 5, 2) := by decide +kernel
theorem dX0_joinLine_127 : decode cX0_joinLine 127 = .ok (.iadd, 1) := by decide +kernel
theorem dX0_joinLine_128 : decode cX0_joinLine 128 = .ok (.iaload, 1) := by decide +kernel
theorem dX0_joinLine_129 : decode cX0_joinLine 129 = .ok (.aload_n 0, 1) := by decide +kernel
theorem dX0_joinLine_130 : decode cX0_joinLine 130 = .ok (.getfield 30, 3) := by decide +kernel
theorem dX0_joinLine_133 : decode cX0_joinLine 133 = .ok (.iconst 2, 1) := by decide +kernel
theorem dX0_joinLine_134 : decode cX0_joinLine 134 = .ok (.iload 5, 2) := by decide +kernel
theorem dX0_joinLine_136 : decode cX0_joinLine 136 = .ok (.imul, 1) := by decide +kernel
theorem dX0_joinLine_137 : decode cX0_joinLine 137 = .ok (.iaload, 1) := by decide +kernel
theorem dX0_joinLine_138 : decode cX0_joinLine 138 = .ok (.iload 6, 2) := by decide +kernel
theorem dX0_joinLine_140 : decode cX0_joinLine 140 = .ok (.iadd, 1) := by decide +kernel
theorem dX0_joinLine_141 : decode cX0_joinLine 141 = .ok (.iconst 1, 1) := by decide +kernel
theorem dX0_joinLine_142 : decode cX0_joinLine 142 = .ok (.ishr, 1) := by decide +kernel
theorem dX0_joinLine_143 : decode cX0_joinLine 143 = .ok (.iadd, 1) := by decide +kernel
theorem dX0_joinLine_144 : decode cX0_joinLine 144 = .ok (.iastore, 1) := by decide +kernel
theorem dX0_joinLine_145 : decode cX0_joinLine 145 = .ok (.iinc 5 1, 3) := by decide +kernel
theorem dX0_joinLine_148 : decode cX0_joinLine 148 = .ok (.goto (-82), 3) := by decide +kernel
theorem dX0_joinLine_151 : decode cX0_joinLine 151 = .ok (.aload_n 0, 1) := by decide +kernel
theorem dX0_joinLine_152 : decode cX0_joinLine 152 = .ok (.iload_n 1, 1) := by decide +kernel
theorem dX0_joinLine_153 : decode cX0_joinLine 153 = .ok (.iload_n 2, 1) := by decide +kernel
theorem dX0_joinLine_154 : decode cX0_joinLine 154 = .ok (.iload_n 3, 1) := by decide +kernel
theorem dX0_joinLine_155 : decode cX0_joinLine 155 = .ok (.invokevirtual 97, 3) := by decide +kernel
theorem dX0_joinLine_158 : decode cX0_joinLine 158 = .ok (.return_, 1) := by decide +kernel
theorem dX0_fourth_0 : decode cX0_fourth 0 = .ok (.iload_n 2, 1) := by decide +kernel
theorem dX0_fourth_1 : decode cX0_fourth 1 = .ok (.iconst 1, 1) := by decide +kernel
theorem dX0_fourth_2 : decode cX0_fourth 2 = .ok (.iadd, 1) := by decide +kernel
theorem dX0_fourth_3 : decode cX0_fourth 3 = .ok (.iconst 2, 1) := by decide +kernel
theorem dX0_fourth_4 : decode cX0_fourth 4 = .ok (.idiv, 1) := by decide +kernel
theorem dX0_fourth_5 : decode cX0_fourth 5 = .ok (.istore_n 3, 1) := by decide +kernel
theorem dX0_fourth_6 : decode cX0_fourth 6 = .ok (.aload_n 0, 1) := by decide +kernel
theorem dX0_fourth_7 : decode cX0_fourth 7 = .ok (.iload_n 3, 1) := by decide +kernel
theorem dX0_fourth_8 : decode cX0_fourth 8 = .ok (.iload_n 1, 1) := by decide +kernel
theorem dX0_fourth_9 : decode cX0_fourth 9 = .ok (.iconst 1, 1) := by decide +kernel
theorem dX0_fourth_10 : decode cX0_fourth 10 = .ok (.isub, 1) := by decide +kernel
theorem dX0_fourth_11 : decode cX0_fourth 11 = .ok (.iconst 0, 1) := by decide +kernel
theorem dX0_fourth_12 : decode cX0_fourth 12 = .ok (.invokestatic 77, 3) := by decide +kernel
theorem dX0_fourth_15 : decode cX0_fourth 15 = .ok (.iadd, 1) := by decide +kernel
theorem dX0_fourth_16 : decode cX0_fourth 16 = .ok (.iaload, 1) := by decide +kernel
theorem dX0_fourth_17 : decode cX0_fourth 17 = .ok (.istore 4, 2) := by decide +kernel
theorem dX0_fourth_19 : decode cX0_fourth 19 = .ok (.aload_n 0, 1) := by decide +kernel
theorem dX0_fourth_20 : decode cX0_fourth 20 = .ok (.iload_n 3, 1) := by decide +kernel
theorem dX0_fourth_21 : decode cX0_fourth 21 = .ok (.iload_n 1, 1) := by decide +kernel
theorem dX0_fourth_22 : decode cX0_fourth 22 = .ok (.iload_n 2, 1) := by decide +kernel
theorem dX0_fourth_23 : decode cX0_fourth 23 = .ok (.iconst 2, 1) := by decide +kernel
theorem dX0_fourth_24 : decode cX0_fourth 24 = .ok (.idiv, 1) := by decide +kernel
theorem dX0_fourth_25 : decode cX0_fourth 25 = .ok (.iconst 1, 1) := by decide +kernel
theorem dX0_fourth_26 : decode cX0_fourth 26 = .ok (.isub, 1) := by decide +kernel
theorem dX0_fourth_27 : decode cX0_fourth 27 = .ok (.invokestatic 72, 3) := by decide +kernel
theorem dX0_fourth_30 : decode cX0_fourth 30 = .ok (.iadd, 1) := by decide +kernel
theorem dX0_fourth_31 : decode cX0_fourth 31 = .ok (.iaload, 1) := by decide +kernel
theorem dX0_fourth_32 : decode cX0_fourth 32 = .ok (.istore 5, 2) := by decide +kernel
theorem dX0_fourth_34 : decode cX0_fourth 34 = .ok (.iload 4, 2) := by decide +kernel
theorem dX0_fourth_36 : decode cX0_fourth 36 = .ok (.iload 5, 2) := by decide +kernel
theorem dX0_fourth_38 : decode cX0_fourth 38 = .ok (.iadd, 1) := by decide +kernel
theorem dX0_fourth_39 : decode cX0_fourth 39 = .ok (.iconst 2, 1) := by decide +kernel
theorem dX0_fourth_40 : decode cX0_fourth 40 = .ok (.iadd, 1) := by decide +kernel
theorem dX0_fourth_41 : decode cX0_fourth 41 = .ok (.iconst 2, 1) := by decide +kernel
theorem dX0_fourth_42 : decode cX0_fourth 42 = .ok (.ishr, 1) := by decide +kernel
theorem dX0_fourth_43 : decode cX0_fourth 43 = .ok (.ireturn, 1) := by decide +kernel
theorem dX0_readLine_0 : decode cX0_readLine 0 = .ok (.iconst 0, 1) := by decide +kernel
theorem dX0_readLine_1 : decode cX0_readLine 1 = .ok (.istore 4, 2) := by decide +kernel
theorem dX0_readLine_3 : decode cX0_readLine 3 = .ok (.iload 4, 2) := by decide +kernel
theorem dX0_readLine_5 : decode cX0_readLine 5 = .ok (.iload_n 3, 1) := by decide +kernel
theorem dX0_readLine_6 : decode cX0_readLine 6 = .ok (.if_icmp .ge 27, 3) := by decide +kernel
theorem dX0_readLine_9 : decode cX0_readLine 9 = .ok (.aload_n 0, 1) := by decide +kernel
theorem dX0_readLine_10 : decode cX0_readLine 10 = .ok (.getfield 27, 3) := by decide +kernel
theorem dX0_readLine_13 : decode cX0_readLine 13 = .ok (.iload 4, 2) := by decide +kernel
theorem dX0_readLine_15 : decode cX0_readLine 15 = .ok (.aload_n 0, 1) := by decide +kernel
theorem dX0_readLine_16 : decode cX0_readLine 16 = .ok (.getfield 9, 3) := by decide +kernel
theorem dX0_readLine_19 : decode cX0_readLine 19 = .ok (.iload_n 1, 1) := by decide +kernel
theorem dX0_readLine_20 : decode cX0_readLine 20 = .ok (.iload 4, 2) := by decide +kernel
theorem dX0_readLine_22 : decode cX0_readLine 22 = .ok (.iload_n 2, 1) := by decide +kernel
theorem dX0_readLine_23 : decode cX0_readLine 23 = .ok (.imul, 1) := by decide +kernel
theorem dX0_readLine_24 : decode cX0_readLine 24 = .ok (.iadd, 1) := by decide +kernel
theorem dX0_readLine_25 : decode cX0_readLine 25 = .ok (.iaload, 1) := by decide +kernel
theorem dX0_readLine_26 : decode cX0_readLine 26 = .ok (.iastore, 1) := by decide +kernel
theorem dX0_readLine_27 : decode cX0_readLine 27 = .ok (.iinc 4 1, 3) := by decide +kernel
theorem dX0_readLine_30 : decode cX0_readLine 30 = .ok (.goto (-27), 3) := by decide +kernel
theorem dX0_readLine_33 : decode cX0_readLine 33 = .ok (.return_, 1) := by decide +kernel
theorem dX0_writeLine_0 : decode cX0_writeLine 0 = .ok (.iconst 0, 1) := by decide +kernel
theorem dX0_writeLine_1 : decode cX0_writeLine 1 = .ok (.istore 4, 2) := by decide +kernel
theorem dX0_writeLine_3 : decode cX0_writeLine 3 = .ok (.iload 4, 2) := by decide +kernel
theorem dX0_writeLine_5 : decode cX0_writeLine 5 = .ok (.iload_n 3, 1) := by decide +kernel
theorem dX0_writeLine_6 : decode cX0_writeLine 6 = .ok (.if_icmp .ge 27, 3) := by decide +kernel
theorem dX0_writeLine_9 : decode cX0_writeLine 9 = .ok (.aload_n 0, 1) := by decide +kernel
theorem dX0_writeLine_10 : decode cX0_writeLine 10 = .ok (.getfield 9, 3) := by decide +kernel
theorem dX0_writeLine_13 : decode cX0_writeLine 13 = .ok (.iload_n 1, 1) := by decide +kernel
theorem dX0_writeLine_14 : decode cX0_writeLine 14 = .ok (.iload 4, 2) := by decide +kernel
theorem dX0_writeLine_16 : decode cX0_writeLine 16 = .ok (.iload_n 2, 1) := by decide +kernel
theorem dX0_writeLine_17 : decode cX0_writeLine 17 = .ok (.imul, 1) := by decide +kernel
theorem dX0_writeLine_18 : decode cX0_writeLine 18 = .ok (.iadd, 1) := by decide +kernel
theorem dX0_writeLine_19 : decode cX0_writeLine 19 = .ok (.aload_n 0, 1) := by decide +kernel
theorem dX0_writeLine_20 : decode cX0_writeLine 20 = .ok (.getfield 30, 3) := by decide +kernel
theorem dX0_writeLine_23 : decode cX0_writeLine 23 = .ok (.iload 4, 2) := by decide +kernel
theorem dX0_writeLine_25 : decode cX0_writeLine 25 = .ok (.iaload, 1) := by decide +kernel
theorem dX0_writeLine_26 : decode cX0_writeLine 26 = .ok (.iastore, 1) := by decide +kernel
theorem dX0_writeLine_27 : decode cX0_writeLine 27 = .ok (.iinc 4 1, 3) := by decide +kernel
theorem dX0_writeLine_30 : decode cX0_writeLine 30 = .ok (.goto (-27), 3) := by decide +kernel
theorem dX0_writeLine_33 : decode cX0_writeLine 33 = .ok (.return_, 1) := by decide +kernel
theorem dX1_init_0 : decode cX1_init 0 = .ok (.aload_n 0, 1) := by decide +kernel
theorem dX1_init_1 : decode cX1_init 1 = .ok (.invokespecial 3, 3) := by decide +kernel
theorem dX1_init_4 : decode cX1_init 4 = .ok (.aload_n 0, 1) := by decide +kernel
theorem dX1_init_5 : decode cX1_init 5 = .ok (.sipush 1024, 3) := by decide +kernel
theorem dX1_init_8 : decode cX1_init 8 = .ok (.newarray .int, 2) := by decide +kernel
theorem dX1_init_10 : decode cX1_init 10 = .ok (.putfield 9, 3) := by decide +kernel
theorem dX1_init_13 : decode cX1_init 13 = .ok (.return_, 1) := by decide +kernel
theorem dX1_clear_0 : decode cX1_clear 0 = .ok (.aload_n 0, 1) := by decide +kernel
theorem dX1_clear_1 : decode cX1_clear 1 = .ok (.iconst 0, 1) := by decide +kernel
theorem dX1_clear_2 : decode cX1_clear 2 = .ok (.putfield 15, 3) := by decide +kernel
theorem dX1_clear_5 : decode cX1_clear 5 = .ok (.aload_n 0, 1) := by decide +kernel
theorem dX1_clear_6 : decode cX1_clear 6 = .ok (.iconst 0, 1) := by decide +kernel
theorem dX1_clear_7 : decode cX1_clear 7 = .ok (.putfield 19, 3) := by decide +kernel
theorem dX1_clear_10 : decode cX1_clear 10 = .ok (.return_, 1) := by decide +kernel
theorem dX1_length_0 : decode cX1_length 0 = .ok (.aload_n 0, 1) := by decide +kernel
theorem dX1_length_1 : decode cX1_length 1 = .ok (.getfield 15, 3) := by decide +kernel
theorem dX1_length_4 : decode cX1_length 4 = .ok (.ireturn, 1) := by decide +kernel
theorem dX1_has_0 : decode cX1_has 0 = .ok (.iload_n 1, 1) := by decide +kernel
theorem dX1_has_1 : decode cX1_has 1 = .ok (.ifCond .lt 15, 3) := by decide +kernel
theorem dX1_has_4 : decode cX1_has 4 = .ok (.iload_n 1, 1) := by decide +kernel
theorem dX1_has_5 : decode cX1_has 5 = .ok (.aload_n 0, 1) := by decide +kernel
theorem dX1_has_6 : decode cX1_has 6 = .ok (.getfield 15, 3) := by decide +kernel
theorem dX1_has_9 : decode cX1_has 9 = .ok (.if_icmp .ge 7, 3) := by decide +kernel
theorem dX1_has_12 : decode cX1_has 12 = .ok (.iconst 1, 1) := by decide +kernel
theorem dX1_has_13 : decode cX1_has 13 = .ok (.goto 4, 3) := by decide +kernel
theorem dX1_has_16 : decode cX1_has 16 = .ok (.iconst 0, 1) := by decide +kernel
theorem dX1_has_17 : decode cX1_has 17 = .ok (.ireturn, 1) := by decide +kernel
theorem dX1_at_0 : decode cX1_at 0 = .ok (.iload_n 1, 1) := by decide +kernel
theorem dX1_at_1 : decode cX1_at 1 = .ok (.ifCond .lt 20, 3) := by decide +kernel
theorem dX1_at_4 : decode cX1_at 4 = .ok (.iload_n 1, 1) := by decide +kernel
theorem dX1_at_5 : decode cX1_at 5 = .ok (.aload_n 0, 1) := by decide +kernel
theorem dX1_at_6 : decode cX1_at 6 = .ok (.getfield 15, 3) := by decide +kernel
theorem dX1_at_9 : decode cX1_at 9 = .ok (.if_icmp .ge 12, 3) := by decide +kernel
theorem dX1_at_12 : decode cX1_at 12 = .ok (.aload_n 0, 1) := by decide +kernel
theorem dX1_at_13 : decode cX1_at 13 = .ok (.getfield 9, 3) := by decide +kernel
theorem dX1_at_16 : decode cX1_at 16 = .ok (.iload_n 1, 1) := by decide +kernel
theorem dX1_at_17 : decode cX1_at 17 = .ok (.iaload, 1) := by decide +kernel
theorem dX1_at_18 : decode cX1_at 18 = .ok (.goto 6, 3) := by decide +kernel
theorem dX1_at_21 : decode cX1_at 21 = .ok (.sipush 255, 3) := by decide +kernel
theorem dX1_at_24 : decode cX1_at 24 = .ok (.ireturn, 1) := by decide +kernel
theorem dX1_set_0 : decode cX1_set 0 = .ok (.aload_n 0, 1) := by decide +kernel
theorem dX1_set_1 : decode cX1_set 1 = .ok (.iload_n 1, 1) := by decide +kernel
theorem dX1_set_2 : decode cX1_set 2 = .ok (.invokevirtual 22, 3) := by decide +kernel
theorem dX1_set_5 : decode cX1_set 5 = .ok (.ifCond .eq 10, 3) := by decide +kernel
theorem dX1_set_8 : decode cX1_set 8 = .ok (.aload_n 0, 1) := by decide +kernel
theorem dX1_set_9 : decode cX1_set 9 = .ok (.getfield 9, 3) := by decide +kernel
theorem dX1_set_12 : decode cX1_set 12 = .ok (.iload_n 1, 1) := by decide +kernel
theorem dX1_set_13 : decode cX1_set 13 = .ok (.iload_n 2, 1) := by decide +kernel
theorem dX1_set_14 : decode cX1_set 14 = .ok (.iastore, 1) := by decide +kernel
theorem dX1_set_15 : decode cX1_set 15 = .ok (.return_, 1) := by decide +kernel
theorem dX1_add_0 : decode cX1_add 0 = .ok (.aload_n 0, 1) := by decide +kernel
theorem dX1_add_1 : decode cX1_add 1 = .ok (.getfield 15, 3) := by decide +kernel
theorem dX1_add_4 : decode cX1_add 4 = .ok (.aload_n 0, 1) := by decide +kernel
theorem dX1_add_5 : decode cX1_add 5 = .ok (.getfield 9, 3) := by decide +kernel
theorem dX1_add_8 : decode cX1_add 8 = .ok (.arraylength, 1) := by decide +kernel
theorem dX1_add_9 : decode cX1_add 9 = .ok (.if_icmp .ge 23, 3) := by decide +kernel
theorem dX1_add_12 : decode cX1_add 12 = .ok (.aload_n 0, 1) := by decide +kernel
theorem dX1_add_13 : decode cX1_add 13 = .ok (.getfield 9, 3) := by decide +kernel
theorem dX1_add_16 : decode cX1_add 16 = .ok (.aload_n 0, 1) := by decide +kernel
theorem dX1_add_17 : decode cX1_add 17 = .ok (.getfield 15, 3) := by decide +kernel
theorem dX1_add_20 : decode cX1_add 20 = .ok (.iload_n 1, 1) := by decide +kernel
theorem dX1_add_21 : decode cX1_add 21 = .ok (.iastore, 1) := by decide +kernel
theorem dX1_add_22 : decode cX1_add 22 = .ok (.aload_n 0, 1) := by decide +kernel
theorem dX1_add_23 : decode cX1_add 23 = .ok (.dup, 1) := by decide +kernel
theorem dX1_add_24 : decode cX1_add 24 = .ok (.getfield 15, 3) := by decide +kernel
theorem dX1_add_27 : decode cX1_add 27 = .ok (.iconst 1, 1) := by decide +kernel
theorem dX1_add_28 : decode cX1_add 28 = .ok (.iadd, 1) := by decide +kernel
theorem dX1_add_29 : decode cX1_add 29 = .ok (.putfield 15, 3) := by decide +kernel
theorem dX1_add_32 : decode cX1_add 32 = .ok (.aload_n 0, 1) := by decide +kernel
theorem dX1_add_33 : decode cX1_add 33 = .ok (.iconst 0, 1) := by decide +kernel
theorem dX1_add_34 : decode cX1_add 34 = .ok (.putfield 19, 3) := by decide +kernel
theorem dX1_add_37 : decode cX1_add 37 = .ok (.return_, 1) := by decide +kernel
theorem dX1_addFrom_0 : decode cX1_addFrom 0 = .ok (.iconst 0, 1) := by decide +kernel
theorem dX1_addFrom_1 : decode cX1_addFrom 1 = .ok (.istore 4, 2) := by decide +kernel
theorem dX1_addFrom_3 : decode cX1_addFrom 3 = .ok (.iload 4, 2) := by decide +kernel
theorem dX1_addFrom_5 : decode cX1_addFrom 5 = .ok (.iload_n 3, 1) := by decide +kernel
theorem dX1_addFrom_6 : decode cX1_addFrom 6 = .ok (.if_icmp .ge 21, 3) := by decide +kernel
theorem dX1_addFrom_9 : decode cX1_addFrom 9 = .ok (.aload_n 0, 1) := by decide +kernel
theorem dX1_addFrom_10 : decode cX1_addFrom 10 = .ok (.aload_n 1, 1) := by decide +kernel
theorem dX1_addFrom_11 : decode cX1_addFrom 11 = .ok (.iload_n 2, 1) := by decide +kernel
theorem dX1_addFrom_12 : decode cX1_addFrom 12 = .ok (.iload 4, 2) := by decide +kernel
theorem dX1_addFrom_14 : decode cX1_addFrom 14 = .ok (.iadd, 1) := by decide +kernel
theorem dX1_addFrom_15 : decode cX1_addFrom 15 = .ok (.invokevirtual 26, 3) := by decide +kernel
theorem dX1_addFrom_18 : decode cX1_addFrom 18 = .ok (.invokevirtual 30, 3) := by decide +kernel
theorem dX1_addFrom_21 : decode cX1_addFrom 21 = .ok (.iinc 4 1, 3) := by decide +kernel
theorem dX1_addFrom_24 : decode cX1_addFrom 24 = .ok (.goto (-21), 3) := by decide +kernel
theorem dX1_addFrom_27 : decode cX1_addFrom 27 = .ok (.return_, 1) := by decide +kernel
theorem dX1_putBits_0 : decode cX1_putBits 0 = .ok (.iload_n 2, 1) := by decide +kernel
theorem dX1_putBits_1 : decode cX1_putBits 1 = .ok (.iconst 1, 1) := by decide +kernel
theorem dX1_putBits_2 : decode cX1_putBits 2 = .ok (.isub, 1) := by decide +kernel
theorem dX1_putBits_3 : decode cX1_putBits 3 = .ok (.istore_n 3, 1) := by decide +kernel
theorem dX1_putBits_4 : decode cX1_putBits 4 = .ok (.iload_n 3, 1) := by decide +kernel
theorem dX1_putBits_5 : decode cX1_putBits 5 = .ok (.ifCond .lt 68, 3) := by decide +kernel
theorem dX1_putBits_8 : decode cX1_putBits 8 = .ok (.aload_n 0, 1) := by decide +kernel
theorem dX1_putBits_9 : decode cX1_putBits 9 = .ok (.getfield 19, 3) := by decide +kernel
theorem dX1_putBits_12 : decode cX1_putBits 12 = .ok (.ifCond .ne 14, 3) := by decide +kernel
theorem dX1_putBits_15 : decode cX1_putBits 15 = .ok (.aload_n 0, 1) := by decide +kernel
theorem dX1_putBits_16 : decode cX1_putBits 16 = .ok (.iconst 0, 1) := by decide +kernel
theorem dX1_putBits_17 : decode cX1_putBits 17 = .ok (.invokevirtual 30, 3) := by decide +kernel
theorem dX1_putBits_20 : decode cX1_putBits 20 = .ok (.aload_n 0, 1) := by decide +kernel
theorem dX1_putBits_21 : decode cX1_putBits 21 = .ok (.bipush 8, 2) := by decide +kernel
theorem dX1_putBits_23 : decode cX1_putBits 23 = .ok (.putfield 19, 3) := by decide +kernel
theorem dX1_putBits_26 : decode cX1_putBits 26 = .ok (.aload_n 0, 1) := by decide +kernel
theorem dX1_putBits_27 : decode cX1_putBits 27 = .ok (.dup, 1) := by decide +kernel
theorem dX1_putBits_28 : decode cX1_putBits 28 = .ok (.getfield 19, 3) := by decide +kernel
theorem dX1_putBits_31 : decode cX1_putBits 31 = .ok (.iconst 1, 1) := by decide +kernel
theorem dX1_putBits_32 : decode cX1_putBits 32 = .ok (.isub, 1) := by decide +kernel
theorem dX1_putBits_33 : decode cX1_putBits 33 = .ok (.putfield 19, 3) := by decide +kernel
theorem dX1_putBits_36 : decode cX1_putBits 36 = .ok (.aload_n 0, 1) := by decide +kernel
theorem dX1_putBits_37 : decode cX1_putBits 37 = .ok (.aload_n 0, 1) := by decide +kernel
theorem dX1_putBits_38 : decode cX1_putBits 38 = .ok (.getfield 15, 3) := by decide +kernel
theorem dX1_putBits_41 : decode cX1_putBits 41 = .ok (.iconst 1, 1) := by decide +kernel
theorem dX1_putBits_42 : decode cX1_putBits 42 = .ok (.isub, 1) := by decide +kernel
theorem dX1_putBits_43 : decode cX1_putBits 43 = .ok (.aload_n 0, 1) := by decide +kernel
theorem dX1_putBits_44 : decode cX1_putBits 44 = .ok (.aload_n 0, 1) := by decide +kernel
theorem dX1_putBits_45 : decode cX1_putBits 45 = .ok (.getfield 15, 3) := by decide +kernel
theorem dX1_putBits_48 : decode cX1_putBits 48 = .ok (.iconst 1, 1) := by decide +kernel
theorem dX1_putBits_49 : decode cX1_putBits 49 = .ok (.isub, 1) := by decide +kernel
theorem dX1_putBits_50 : decode cX1_putBits 50 = .ok (.invokevirtual 26, 3) := by decide +kernel
theorem dX1_putBits_53 : decode cX1_putBits 53 = .ok (.iload_n 1, 1) := by decide +kernel
theorem dX1_putBits_54 : decode cX1_putBits 54 = .ok (.iload_n 3, 1) := by decide +kernel
theorem dX1_putBits_55 : decode cX1_putBits 55 = .ok (.ishr, 1) := by decide +kernel
theorem dX1_putBits_56 : decode cX1_putBits 56 = .ok (.iconst 1, 1) := by decide +kernel
theorem dX1_putBits_57 : decode cX1_putBits 57 = .ok (.iand, 1) := by decide +kernel
theorem dX1_putBits_58 : decode cX1_putBits 58 = .ok (.aload_n 0, 1) := by decide +kernel
theorem dX1_putBits_59 : decode cX1_putBits 59 = .ok (.getfield 19, 3) := by decide +kernel
theorem dX1_putBits_62 : decode cX1_putBits 62 = .ok (.ishl, 1) := by decide +kernel
theorem dX1_putBits_63 : decode cX1_putBits 63 = .ok (.ior, 1) := by decide +kernel
theorem dX1_putBits_64 : decode cX1_putBits 64 = .ok (.invokevirtual 34, 3) := by decide +kernel
theorem dX1_putBits_67 : decode cX1_putBits 67 = .ok (.iinc 3 (-1), 3) := by decide +kernel
theorem dX1_putBits_70 : decode cX1_putBits 70 = .ok (.goto (-66), 3) := by decide +kernel
theorem dX1_putBits_73 : decode cX1_putBits 73 = .ok (.return_, 1) := by decide +kernel
theorem dX1_endBits_0 : decode cX1_endBits 0 = .ok (.aload_n 0, 1) := by decide +kernel
theorem dX1_endBits_1 : decode cX1_endBits 1 = .ok (.iconst 0, 1) := by decide +kernel
theorem dX1_endBits_2 : decode cX1_endBits 2 = .ok (.putfield 19, 3) := by decide +kernel
theorem dX1_endBits_5 : decode cX1_endBits 5 = .ok (.return_, 1) := by decide +kernel
theorem dX1_takeFrom_0 : decode cX1_takeFrom 0 = .ok (.aload_n 0, 1) := by decide +kernel
theorem dX1_takeFrom_1 : decode cX1_takeFrom 1 = .ok (.bipush 8, 2) := by decide +kernel
theorem dX1_takeFrom_3 : decode cX1_takeFrom 3 = .ok (.iload_n 1, 1) := by decide +kernel
theorem dX1_takeFrom_4 : decode cX1_takeFrom 4 = .ok (.imul, 1) := by decide +kernel
theorem dX1_takeFrom_5 : decode cX1_takeFrom 5 = .ok (.putfield 38, 3) := by decide +kernel
theorem dX1_takeFrom_8 : decode cX1_takeFrom 8 = .ok (.aload_n 0, 1) := by decide +kernel
theorem dX1_takeFrom_9 : decode cX1_takeFrom 9 = .ok (.bipush 8, 2) := by decide +kernel
theorem dX1_takeFrom_11 : decode cX1_takeFrom 11 = .ok (.iload_n 2, 1) := by decide +kernel
theorem dX1_takeFrom_12 : decode cX1_takeFrom 12 = .ok (.imul, 1) := by decide +kernel
theorem dX1_takeFrom_13 : decode cX1_takeFrom 13 = .ok (.putfield 41, 3) := by decide +kernel
theorem dX1_takeFrom_16 : decode cX1_takeFrom 16 = .ok (.return_, 1) := by decide +kernel
theorem dX1_byteBehindBits_0 : decode cX1_byteBehindBits 0 = .ok (.aload_n 0, 1) := by decide +kernel
theorem dX1_byteBehindBits_1 : decode cX1_byteBehindBits 1 = .ok (.getfield 38, 3) := by decide +kernel
theorem dX1_byteBehindBits_4 : decode cX1_byteBehindBits 4 = .ok (.bipush 7, 2) := by decide +kernel
theorem dX1_byteBehindBits_6 : decode cX1_byteBehindBits 6 = .ok (.iadd, 1) := by decide +kernel
theorem dX1_byteBehindBits_7 : decode cX1_byteBehindBits 7 = .ok (.bipush 8, 2) := by decide +kernel
theorem dX1_byteBehindBits_9 : decode cX1_byteBehindBits 9 = .ok (.idiv, 1) := by decide +kernel
theorem dX1_byteBehindBits_10 : decode cX1_byteBehindBits 10 = .ok (.ireturn, 1) := by decide +kernel
theorem dX1_takeBits_0 : decode cX1_takeBits 0 = .ok (.iload_n 1, 1) := by decide +kernel
theorem dX1_takeBits_1 : decode cX1_takeBits 1 = .ok (.aload_n 0, 1) := by decide +kernel
theorem dX1_takeBits_2 : decode cX1_takeBits 2 = .ok (.getfield 41, 3) := by decide +kernel
theorem dX1_takeBits_5 : decode cX1_takeBits 5 = .ok (.aload_n 0, 1) := by decide +kernel
theorem dX1_takeBits_6 : decode cX1_takeBits 6 = .ok (.getfield 38, 3) := by decide +kernel
theorem dX1_takeBits_9 : decode cX1_takeBits 9 = .ok (.isub, 1) := by decide +kernel
theorem dX1_takeBits_10 : decode cX1_takeBits 10 = .ok (.if_icmp .le 5, 3) := by decide +kernel
theorem dX1_takeBits_13 : decode cX1_takeBits 13 = .ok (.iconst (-1), 1) := by decide +kernel
theorem dX1_takeBits_14 : decode cX1_takeBits 14 = .ok (.ireturn, 1) := by decide +kernel
theorem dX1_takeBits_15 : decode cX1_takeBits 15 = .ok (.iconst 0, 1) := by decide +kernel
theorem dX1_takeBits_16 : decode cX1_takeBits 16 = .ok (.istore_n 2, 1) := by decide +kernel
theorem dX1_takeBits_17 : decode cX1_takeBits 17 = .ok (.iconst 0, 1) := by decide +kernel
theorem dX1_takeBits_18 : decode cX1_takeBits 18 = .ok (.istore_n 3, 1) := by decide +kernel
theorem dX1_takeBits_19 : decode cX1_takeBits 19 = .ok (.iload_n 3, 1) := by decide +kernel
theorem dX1_takeBits_20 : decode cX1_takeBits 20 = .ok (.iload_n 1, 1) := by decide +kernel
theorem dX1_takeBits_21 : decode cX1_takeBits 21 = .ok (.if_icmp .ge 56, 3) := by decide +kernel
theorem dX1_takeBits_24 : decode cX1_takeBits 24 = .ok (.aload_n 0, 1) := by decide +kernel
theorem dX1_takeBits_25 : decode cX1_takeBits 25 = .ok (.aload_n 0, 1) := by decide +kernel
theorem dX1_takeBits_26 : decode cX1_takeBits 26 = .ok (.getfield 38, 3) := by decide +kernel
theorem dX1_takeBits_29 : decode cX1_takeBits 29 = .ok (.iconst 3, 1) := by decide +kernel
theorem dX1_takeBits_30 : decode cX1_takeBits 30 = .ok (.ishr, 1) := by decide +kernel
theorem dX1_takeBits_31 : decode cX1_takeBits 31 = .ok (.invokevirtual 26, 3) := by decide +kernel
theorem dX1_takeBits_34 : decode cX1_takeBits 34 = .ok (.bipush 7, 2) := by decide +kernel
theorem dX1_takeBits_36 : decode cX1_takeBits 36 = .ok (.aload_n 0, 1) := by decide +kernel
theorem dX1_takeBits_37 : decode cX1_takeBits 37 = .ok (.getfield 38, 3) := by decide +kernel
theorem dX1_takeBits_40 : decode cX1_takeBits 40 = .ok (.bipush 7, 2) := by decide +kernel
theorem dX1_takeBits_42 : decode cX1_takeBits 42 = .ok (.iand, 1) := by decide +kernel
theorem dX1_takeBits_43 : decode cX1_takeBits 43 = .ok (.isub, 1) := by decide +kernel
theorem dX1_takeBits_44 : decode cX1_takeBits 44 = .ok (.ishr, 1) := by decide +kernel
theorem dX1_takeBits_45 : decode cX1_takeBits 45 = .ok (.iconst 1, 1) := by decide +kernel
theorem dX1_takeBits_46 : decode cX1_takeBits 46 = .ok (.iand, 1) := by decide +kernel
theorem dX1_takeBits_47 : decode cX1_takeBits 47 = .ok (.istore 4, 2) := by decide +kernel
theorem dX1_takeBits_49 : decode cX1_takeBits 49 = .ok (.iconst 2, 1) := by decide +kernel
theorem dX1_takeBits_50 : decode cX1_takeBits 50 = .ok (.iload_n 2, 1) := by decide +kernel
theorem dX1_takeBits_51 : decode cX1_takeBits 51 = .ok (.imul, 1) := by decide +kernel
theorem dX1_takeBits_52 : decode cX1_takeBits 52 = .ok (.iload 4, 2) := by decide +kernel
theorem dX1_takeBits_54 : decode cX1_takeBits 54 = .ok (.iadd, 1) := by decide +kernel
theorem dX1_takeBits_55 : decode cX1_takeBits 55 = .ok (.ldc 44, 2) := by decide +kernel
theorem dX1_takeBits_57 : decode cX1_takeBits 57 = .ok (.invokestatic 45, 3) := by decide +kernel
theorem dX1_takeBits_60 : decode cX1_takeBits 60 = .ok (.istore_n 2, 1) := by decide +kernel
theorem dX1_takeBits_61 : decode cX1_takeBits 61 = .ok (.aload_n 0, 1) := by decide +kernel
theorem dX1_takeBits_62 : decode cX1_takeBits 62 = .ok (.dup, 1) := by decide +kernel
theorem dX1_takeBits_63 : decode cX1_takeBits 63 = .ok (.getfield 38, 3) := by decide +kernel
theorem dX1_takeBits_66 : decode cX1_takeBits 66 = .ok (.iconst 1, 1) := by decide +kernel
theorem dX1_takeBits_67 : decode cX1_takeBits 67 = .ok (.iadd, 1) := by decide +kernel
theorem dX1_takeBits_68 : decode cX1_takeBits 68 = .ok (.putfield 38, 3) := by decide +kernel
theorem dX1_takeBits_71 : decode cX1_takeBits 71 = .ok (.iinc 3 1, 3) := by decide +kernel
theorem dX1_takeBits_74 : decode cX1_takeBits 74 = .ok (.goto (-55), 3) := by decide +kernel
theorem dX1_takeBits_77 : decode cX1_takeBits 77 = .ok (.iload_n 2, 1) := by decide +kernel
theorem dX1_takeBits_78 : decode cX1_takeBits 78 = .ok (.ireturn, 1) := by decide +kernel
theorem dX2_init_0 : decode cX2_init 0 = .ok (.aload_n 0, 1) := by decide +kernel
theorem dX2_init_1 : decode cX2_init 1 = .ok (.invokespecial 1, 3) := by decide +kernel
theorem dX2_init_4 : decode cX2_init 4 = .ok (.aload_n 0, 1) := by decide +kernel
theorem dX2_init_5 : decode cX2_init 5 = .ok (.bipush 19, 2) := by decide +kernel
theorem dX2_init_7 : decode cX2_init 7 = .ok (.newarray .int, 2) := by decide +kernel
theorem dX2_init_9 : decode cX2_init 9 = .ok (.putfield 9, 3) := by decide +kernel
theorem dX2_init_12 : decode cX2_init 12 = .ok (.aload_n 0, 1) := by decide +kernel
theorem dX2_init_13 : decode cX2_init 13 = .ok (.bipush 19, 2) := by decide +kernel
theorem dX2_init_15 : decode cX2_init 15 = .ok (.newarray .int, 2) := by decide +kernel
theorem dX2_init_17 : decode cX2_init 17 = .ok (.putfield 13, 3) := by decide +kernel
theorem dX2_init_20 : decode cX2_init 20 = .ok (.return_, 1) := by decide +kernel
theorem dX2_begin_0 : decode cX2_begin 0 = .ok (.aload_n 0, 1) := by decide +kernel
theorem dX2_begin_1 : decode cX2_begin 1 = .ok (.getfield 13, 3) := by decide +kernel
theorem dX2_begin_4 : decode cX2_begin 4 = .ok (.iconst 0, 1) := by decide +kernel
theorem dX2_begin_5 : decode cX2_begin 5 = .ok (.invokestatic 16, 3) := by decide +kernel
theorem dX2_begin_8 : decode cX2_begin 8 = .ok (.aload_n 0, 1) := by decide +kernel
theorem dX2_begin_9 : decode cX2_begin 9 = .ok (.getfield 9, 3) := by decide +kernel
theorem dX2_begin_12 : decode cX2_begin 12 = .ok (.iconst 0, 1) := by decide +kernel
theorem dX2_begin_13 : decode cX2_begin 13 = .ok (.invokestatic 16, 3) := by decide +kernel
theorem dX2_begin_16 : decode cX2_begin 16 = .ok (.aload_n 0, 1) := by decide +kernel
theorem dX2_begin_17 : decode cX2_begin 17 = .ok (.getfield 9, 3) := by decide +kernel
theorem dX2_begin_20 : decode cX2_begin 20 = .ok (.iconst 0, 1) := by decide +kernel
theorem dX2_begin_21 : decode cX2_begin 21 = .ok (.iconst 4, 1) := by decide +kernel
theorem dX2_begin_22 : decode cX2_begin 22 = .ok (.iastore, 1) := by decide +kernel
theorem dX2_begin_23 : decode cX2_begin 23 = .ok (.aload_n 0, 1) := by decide +kernel
theorem dX2_begin_24 : decode cX2_begin 24 = .ok (.getfield 9, 3) := by decide +kernel
theorem dX2_begin_27 : decode cX2_begin 27 = .ok (.bipush 17, 2) := by decide +kernel
theorem dX2_begin_29 : decode cX2_begin 29 = .ok (.iconst 3, 1) := by decide +kernel
theorem dX2_begin_30 : decode cX2_begin 30 = .ok (.iastore, 1) := by decide +kernel
theorem dX2_begin_31 : decode cX2_begin 31 = .ok (.aload_n 0, 1) := by decide +kernel
theorem dX2_begin_32 : decode cX2_begin 32 = .ok (.getfield 9, 3) := by decide +kernel
theorem dX2_begin_35 : decode cX2_begin 35 = .ok (.bipush 18, 2) := by decide +kernel
theorem dX2_begin_37 : decode cX2_begin 37 = .ok (.bipush 46, 2) := by decide +kernel
theorem dX2_begin_39 : decode cX2_begin 39 = .ok (.iastore, 1) := by decide +kernel
theorem dX2_begin_40 : decode cX2_begin 40 = .ok (.return_, 1) := by decide +kernel
theorem dX2_sizeOf_0 : decode cX2_sizeOf 0 = .ok (.getstatic 22, 3) := by decide +kernel
theorem dX2_sizeOf_3 : decode cX2_sizeOf 3 = .ok (.aload_n 0, 1) := by decide +kernel
theorem dX2_sizeOf_4 : decode cX2_sizeOf 4 = .ok (.getfield 9, 3) := by decide +kernel
theorem dX2_sizeOf_7 : decode cX2_sizeOf 7 = .ok (.iload_n 1, 1) := by decide +kernel
theorem dX2_sizeOf_8 : decode cX2_sizeOf 8 = .ok (.iaload, 1) := by decide +kernel
theorem dX2_sizeOf_9 : decode cX2_sizeOf 9 = .ok (.iaload, 1) := by decide +kernel
theorem dX2_sizeOf_10 : decode cX2_sizeOf 10 = .ok (.ireturn, 1) := by decide +kernel
theorem dX2_likelyBit_0 : decode cX2_likelyBit 0 = .ok (.aload_n 0, 1) := by decide +kernel
theorem dX2_likelyBit_1 : decode cX2_likelyBit 1 = .ok (.getfield 13, 3) := by decide +kernel
theorem dX2_likelyBit_4 : decode cX2_likelyBit 4 = .ok (.iload_n 1, 1) := by decide +kernel
theorem dX2_likelyBit_5 : decode cX2_likelyBit 5 = .ok (.iaload, 1) := by decide +kernel
theorem dX2_likelyBit_6 : decode cX2_likelyBit 6 = .ok (.ireturn, 1) := by decide +kernel
theorem dX2_learn_0 : decode cX2_learn 0 = .ok (.aload_n 0, 1) := by decide +kernel
theorem dX2_learn_1 : decode cX2_learn 1 = .ok (.getfield 9, 3) := by decide +kernel
theorem dX2_learn_4 : decode cX2_learn 4 = .ok (.iload_n 1, 1) := by decide +kernel
theorem dX2_learn_5 : decode cX2_learn 5 = .ok (.iaload, 1) := by decide +kernel
theorem dX2_learn_6 : decode cX2_learn 6 = .ok (.istore_n 3, 1) := by decide +kernel
theorem dX2_learn_7 : decode cX2_learn 7 = .ok (.iload_n 2, 1) := by decide +kernel
theorem dX2_learn_8 : decode cX2_learn 8 = .ok (.aload_n 0, 1) := by decide +kernel
theorem dX2_learn_9 : decode cX2_learn 9 = .ok (.getfield 13, 3) := by decide +kernel
theorem dX2_learn_12 : decode cX2_learn 12 = .ok (.iload_n 1, 1) := by decide +kernel
theorem dX2_learn_13 : decode cX2_learn 13 = .ok (.iaload, 1) := by decide +kernel
theorem dX2_learn_14 : decode cX2_learn 14 = .ok (.if_icmp .ne 15, 3) := by decide +kernel
theorem dX2_learn_17 : decode cX2_learn 17 = .ok (.aload_n 0, 1) := by decide +kernel
theorem dX2_learn_18 : decode cX2_learn 18 = .ok (.getfield 9, 3) := by decide +kernel
theorem dX2_learn_21 : decode cX2_learn 21 = .ok (.iload_n 1, 1) := by decide +kernel
theorem dX2_learn_22 : decode cX2_learn 22 = .ok (.getstatic 25, 3) := by decide +kernel
theorem dX2_learn_25 : decode cX2_learn 25 = .ok (.iload_n 3, 1) := by decide +kernel
theorem dX2_learn_26 : decode cX2_learn 26 = .ok (.iaload, 1) := by decide +kernel
theorem dX2_learn_27 : decode cX2_learn 27 = .ok (.iastore, 1) := by decide +kernel
theorem dX2_learn_28 : decode cX2_learn 28 = .ok (.return_, 1) := by decide +kernel
theorem dX2_learn_29 : decode cX2_learn 29 = .ok (.aload_n 0, 1) := by decide +kernel
theorem dX2_learn_30 : decode cX2_learn 30 = .ok (.getfield 9, 3) := by decide +kernel
theorem dX2_learn_33 : decode cX2_learn 33 = .ok (.iload_n 1, 1) := by decide +kernel
theorem dX2_learn_34 : decode cX2_learn 34 = .ok (.getstatic 28, 3) := by decide +kernel
theorem dX2_learn_37 : decode cX2_learn 37 = .ok (.iload_n 3, 1) := by decide +kernel
theorem dX2_learn_38 : decode cX2_learn 38 = .ok (.iaload, 1) := by decide +kernel
theorem dX2_learn_39 : decode cX2_learn 39 = .ok (.iastore, 1) := by decide +kernel
theorem dX2_learn_40 : decode cX2_learn 40 = .ok (.iload_n 3, 1) := by decide +kernel
theorem dX2_learn_41 : decode cX2_learn 41 = .ok (.ifCond .eq 15, 3) := by decide +kernel
theorem dX2_learn_44 : decode cX2_learn 44 = .ok (.iload_n 3, 1) := by decide +kernel
theorem dX2_learn_45 : decode cX2_learn 45 = .ok (.bipush 6, 2) := by decide +kernel
theorem dX2_learn_47 : decode cX2_learn 47 = .ok (.if_icmp .eq 9, 3) := by decide +kernel
theorem dX2_learn_50 : decode cX2_learn 50 = .ok (.iload_n 3, 1) := by decide +kernel
theorem dX2_learn_51 : decode cX2_learn 51 = .ok (.bipush 14, 2) := by decide +kernel
theorem dX2_learn_53 : decode cX2_learn 53 = .ok (.if_icmp .ne 10, 3) := by decide +kernel
theorem dX2_learn_56 : decode cX2_learn 56 = .ok (.aload_n 0, 1) := by decide +kernel
theorem dX2_learn_57 : decode cX2_learn 57 = .ok (.getfield 13, 3) := by decide +kernel
theorem dX2_learn_60 : decode cX2_learn 60 = .ok (.iload_n 1, 1) := by decide +kernel
theorem dX2_learn_61 : decode cX2_learn 61 = .ok (.iload_n 2, 1) := by decide +kernel
theorem dX2_learn_62 : decode cX2_learn 62 = .ok (.iastore, 1) := by decide +kernel
theorem dX2_learn_63 : decode cX2_learn 63 = .ok (.return_, 1) := by decide +kernel
theorem dX3_init_0 : decode cX3_init 0 = .ok (.aload_n 0, 1) := by decide +kernel
theorem dX3_init_1 : decode cX3_init 1 = .ok (.invokespecial 3, 3) := by decide +kernel
theorem dX3_init_4 : decode cX3_init 4 = .ok (.aload_n 0, 1) := by decide +kernel
theorem dX3_init_5 : decode cX3_init 5 = .ok (.new 9, 3) := by decide +kernel
theorem dX3_init_8 : decode cX3_init 8 = .ok (.dup, 1) := by decide +kernel
theorem dX3_init_9 : decode cX3_init 9 = .ok (.invokespecial 11, 3) := by decide +kernel
theorem dX3_init_12 : decode cX3_init 12 = .ok (.putfield 12, 3) := by decide +kernel
theorem dX3_init_15 : decode cX3_init 15 = .ok (.aload_n 0, 1) := by decide +kernel
theorem dX3_init_16 : decode cX3_init 16 = .ok (.bipush 10, 2) := by decide +kernel
theorem dX3_init_18 : decode cX3_init 18 = .ok (.newarray .int, 2) := by decide +kernel
theorem dX3_init_20 : decode cX3_init 20 = .ok (.putfield 18, 3) := by decide +kernel
theorem dX3_init_23 : decode cX3_init 23 = .ok (.aload_n 0, 1) := by decide +kernel
theorem dX3_init_24 : decode cX3_init 24 = .ok (.bipush 10, 2) := by decide +kernel
theorem dX3_init_26 : decode cX3_init 26 = .ok (.newarray .int, 2) := by decide +kernel
theorem dX3_init_28 : decode cX3_init 28 = .ok (.putfield 22, 3) := by decide +kernel
theorem dX3_init_31 : decode cX3_init 31 = .ok (.aload_n 0, 1) := by decide +kernel
theorem dX3_init_32 : decode cX3_init 32 = .ok (.bipush 10, 2) := by decide +kernel
theorem dX3_init_34 : decode cX3_init 34 = .ok (.newarray .int, 2) := by decide +kernel
theorem dX3_init_36 : decode cX3_init 36 = .ok (.putfield 25, 3) := by decide +kernel
theorem dX3_init_39 : decode cX3_init 39 = .ok (.aload_n 0, 1) := by decide +kernel
theorem dX3_init_40 : decode cX3_init 40 = .ok (.sipush 350, 3) := by decide +kernel
theorem dX3_init_43 : decode cX3_init 43 = .ok (.newarray .int, 2) := by decide +kernel
theorem dX3_init_45 : decode cX3_init 45 = .ok (.putfield 28, 3) := by decide +kernel
theorem dX3_init_48 : decode cX3_init 48 = .ok (.aload_n 0, 1) := by decide +kernel
theorem dX3_init_49 : decode cX3_init 49 = .ok (.bipush 10, 2) := by decide +kernel
theorem dX3_init_51 : decode cX3_init 51 = .ok (.newarray .int, 2) := by decide +kernel
theorem dX3_init_53 : decode cX3_init 53 = .ok (.putfield 31, 3) := by decide +kernel
theorem dX3_init_56 : decode cX3_init 56 = .ok (.aload_n 0, 1) := by decide +kernel
theorem dX3_init_57 : decode cX3_init 57 = .ok (.bipush 10, 2) := by decide +kernel
theorem dX3_init_59 : decode cX3_init 59 = .ok (.newarray .int, 2) := by decide +kernel
theorem dX3_init_61 : decode cX3_init 61 = .ok (.putfield 34, 3) := by decide +kernel
theorem dX3_init_64 : decode cX3_init 64 = .ok (.aload_n 0, 1) := by decide +kernel
theorem dX3_init_65 : decode cX3_init 65 = .ok (.new 37, 3) := by decide +kernel
theorem dX3_init_68 : decode cX3_init 68 = .ok (.dup, 1) := by decide +kernel
theorem dX3_init_69 : decode cX3_init 69 = .ok (.invokespecial 39, 3) := by decide +kernel
theorem dX3_init_72 : decode cX3_init 72 = .ok (.putfield 40, 3) := by decide +kernel
theorem dX3_init_75 : decode cX3_init 75 = .ok (.aload_n 0, 1) := by decide +kernel
theorem dX3_init_76 : decode cX3_init 76 = .ok (.new 44, 3) := by decide +kernel
theorem dX3_init_79 : decode cX3_init 79 = .ok (.dup, 1) := by decide +kernel
theorem dX3_init_80 : decode cX3_init 80 = .ok (.invokespecial 46, 3) := by decide +kernel
theorem dX3_init_83 : decode cX3_init 83 = .ok (.putfield 47, 3) := by decide +kernel
theorem dX3_init_86 : decode cX3_init 86 = .ok (.aload_n 0, 1) := by decide +kernel
theorem dX3_init_87 : decode cX3_init 87 = .ok (.new 51, 3) := by decide +kernel
theorem dX3_init_90 : decode cX3_init 90 = .ok (.dup, 1) := by decide +kernel
theorem dX3_init_91 : decode cX3_init 91 = .ok (.aload_n 0, 1) := by decide +kernel
theorem dX3_init_92 : decode cX3_init 92 = .ok (.getfield 47, 3) := by decide +kernel
theorem dX3_init_95 : decode cX3_init 95 = .ok (.invokespecial 53, 3) := by decide +kernel
theorem dX3_init_98 : decode cX3_init 98 = .ok (.putfield 56, 3) := by decide +kernel
theorem dX3_init_101 : decode cX3_init 101 = .ok (.aload_n 0, 1) := by decide +kernel
theorem dX3_init_102 : decode cX3_init 102 = .ok (.new 60, 3) := by decide +kernel
theorem dX3_init_105 : decode cX3_init 105 = .ok (.dup, 1) := by decide +kernel
theorem dX3_init_106 : decode cX3_init 106 = .ok (.invokespecial 62, 3) := by decide +kernel
theorem dX3_init_109 : decode cX3_init 109 = .ok (.putfield 63, 3) := by decide +kernel
theorem dX3_init_112 : decode cX3_init 112 = .ok (.aload_n 0, 1) := by decide +kernel
theorem dX3_init_113 : decode cX3_init 113 = .ok (.new 67, 3) := by decide +kernel
theorem dX3_init_116 : decode cX3_init 116 = .ok (.dup, 1) := by decide +kernel
theorem dX3_init_117 : decode cX3_init 117 = .ok (.invokespecial 69, 3) := by decide +kernel
theorem dX3_init_120 : decode cX3_init 120 = .ok (.putfield 70, 3) := by decide +kernel
theorem dX3_init_123 : decode cX3_init 123 = .ok (.return_, 1) := by decide +kernel
theorem dX3_about_0 : decode cX3_about 0 = .ok (.aload_n 0, 1) := by decide +kernel
theorem dX3_about_1 : decode cX3_about 1 = .ok (.getfield 12, 3) := by decide +kernel
theorem dX3_about_4 : decode cX3_about 4 = .ok (.iload_n 1, 1) := by decide +kernel
theorem dX3_about_5 : decode cX3_about 5 = .ok (.invokevirtual 74, 3) := by decide +kernel
theorem dX3_about_8 : decode cX3_about 8 = .ok (.ifCond .ne 6, 3) := by decide +kernel
theorem dX3_about_11 : decode cX3_about 11 = .ok (.ldc 78, 2) := by decide +kernel
theorem dX3_about_13 : decode cX3_about 13 = .ok (.ireturn, 1) := by decide +kernel
theorem dX3_about_14 : decode cX3_about 14 = .ok (.iload_n 2, 1) := by decide +kernel
theorem dX3_about_15 : decode cX3_about 15 = .ok (.tableswitch 77 0 4 #[33, 43, 53, 60, 70], 33) := by decide +kernel
theorem dX3_about_48 : decode cX3_about 48 = .ok (.aload_n 0, 1) := by decide +kernel
theorem dX3_about_49 : decode cX3_about 49 = .ok (.getfield 12, 3) := by decide +kernel
theorem dX3_about_52 : decode cX3_about 52 = .ok (.getfield 79, 3) := by decide +kernel
theorem dX3_about_55 : decode cX3_about 55 = .ok (.iload_n 1, 1) := by decide +kernel
theorem dX3_about_56 : decode cX3_about 56 = .ok (.iaload, 1) := by decide +kernel
theorem dX3_about_57 : decode cX3_about 57 = .ok (.ireturn, 1) := by decide +kernel
theorem dX3_about_58 : decode cX3_about 58 = .ok (.aload_n 0, 1) := by decide +kernel
theorem dX3_about_59 : decode cX3_about 59 = .ok (.getfield 12, 3) := by decide +kernel
theorem dX3_about_62 : decode cX3_about 62 = .ok (.getfield 82, 3) := by decide +kernel
theorem dX3_about_65 : decode cX3_about 65 = .ok (.iload_n 1, 1) := by decide +kernel
theorem dX3_about_66 : decode cX3_about 66 = .ok (.iaload, 1) := by decide +kernel
theorem dX3_about_67 : decode cX3_about 67 = .ok (.ireturn, 1) := by decide +kernel
theorem dX3_about_68 : decode cX3_about 68 = .ok (.aload_n 0, 1) := by decide +kernel
theorem dX3_about_69 : decode cX3_about 69 = .ok (.getfield 18, 3) := by decide +kernel
theorem dX3_about_72 : decode cX3_about 72 = .ok (.iload_n 1, 1) := by decide +kernel
theorem dX3_about_73 : decode cX3_about 73 = .ok (.iaload, 1) := by decide +kernel
theorem dX3_about_74 : decode cX3_about 74 = .ok (.ireturn, 1) := by decide +kernel
theorem dX3_about_75 : decode cX3_about 75 = .ok (.aload_n 0, 1) := by decide +kernel
theorem dX3_about_76 : decode cX3_about 76 = .ok (.getfield 18, 3) := by decide +kernel
theorem dX3_about_79 : decode cX3_about 79 = .ok (.iload_n 1, 1) := by decide +kernel
theorem dX3_about_80 : decode cX3_about 80 = .ok (.iaload, 1) := by decide +kernel
theorem dX3_about_81 : decode cX3_about 81 = .ok (.invokestatic 85, 3) := by decide +kernel
theorem dX3_about_84 : decode cX3_about 84 = .ok (.ireturn, 1) := by decide +kernel
theorem dX3_about_85 : decode cX3_about 85 = .ok (.aload_n 0, 1) := by decide +kernel
theorem dX3_about_86 : decode cX3_about 86 = .ok (.getfield 25, 3) := by decide +kernel
theorem dX3_about_89 : decode cX3_about 89 = .ok (.iload_n 1, 1) := by decide +kernel
theorem dX3_about_90 : decode cX3_about 90 = .ok (.iaload, 1) := by decide +kernel
theorem dX3_about_91 : decode cX3_about 91 = .ok (.ireturn, 1) := by decide +kernel
theorem dX3_about_92 : decode cX3_about 92 = .ok (.ldc 78, 2) := by decide +kernel
theorem dX3_about_94 : decode cX3_about 94 = .ok (.ireturn, 1) := by decide +kernel
theorem dX3_numberOf_0 : decode cX3_numberOf 0 = .ok (.aload_n 0, 1) := by decide +kernel
theorem dX3_numberOf_1 : decode cX3_numberOf 1 = .ok (.getfield 12, 3) := by decide +kernel
theorem dX3_numberOf_4 : decode cX3_numberOf 4 = .ok (.iload_n 1, 1) := by decide +kernel
theorem dX3_numberOf_5 : decode cX3_numberOf 5 = .ok (.iload_n 2, 1) := by decide +kernel
theorem dX3_numberOf_6 : decode cX3_numberOf 6 = .ok (.iload_n 3, 1) := by decide +kernel
theorem dX3_numberOf_7 : decode cX3_numberOf 7 = .ok (.invokevirtual 89, 3) := by decide +kernel
theorem dX3_numberOf_10 : decode cX3_numberOf 10 = .ok (.ireturn, 1) := by decide +kernel
theorem dX3_codeByte_0 : decode cX3_codeByte 0 = .ok (.aload_n 0, 1) := by decide +kernel
theorem dX3_codeByte_1 : decode cX3_codeByte 1 = .ok (.getfield 12, 3) := by decide +kernel
theorem dX3_codeByte_4 : decode cX3_codeByte 4 = .ok (.iload_n 1, 1) := by decide +kernel
theorem dX3_codeByte_5 : decode cX3_codeByte 5 = .ok (.invokevirtual 74, 3) := by decide +kernel
theorem dX3_codeByte_8 : decode cX3_codeByte 8 = .ok (.ifCond .eq 17, 3) := by decide +kernel
theorem dX3_codeByte_11 : decode cX3_codeByte 11 = .ok (.iload_n 2, 1) := by decide +kernel
theorem dX3_codeByte_12 : decode cX3_codeByte 12 = .ok (.ifCond .lt 13, 3) := by decide +kernel
theorem dX3_codeByte_15 : decode cX3_codeByte 15 = .ok (.iload_n 2, 1) := by decide +kernel
theorem dX3_codeByte_16 : decode cX3_codeByte 16 = .ok (.aload_n 0, 1) := by decide +kernel
theorem dX3_codeByte_17 : decode cX3_codeByte 17 = .ok (.getfield 25, 3) := by decide +kernel
theorem dX3_codeByte_20 : decode cX3_codeByte 20 = .ok (.iload_n 1, 1) := by decide +kernel
theorem dX3_codeByte_21 : decode cX3_codeByte 21 = .ok (.iaload, 1) := by decide +kernel
theorem dX3_codeByte_22 : decode cX3_codeByte 22 = .ok (.if_icmp .lt 6, 3) := by decide +kernel
theorem dX3_codeByte_25 : decode cX3_codeByte 25 = .ok (.ldc 78, 2) := by decide +kernel
theorem dX3_codeByte_27 : decode cX3_codeByte 27 = .ok (.ireturn, 1) := by decide +kernel
theorem dX3_codeByte_28 : decode cX3_codeByte 28 = .ok (.aload_n 0, 1) := by decide +kernel
theorem dX3_codeByte_29 : decode cX3_codeByte 29 = .ok (.getfield 40, 3) := by decide +kernel
theorem dX3_codeByte_32 : decode cX3_codeByte 32 = .ok (.aload_n 0, 1) := by decide +kernel
theorem dX3_codeByte_33 : decode cX3_codeByte 33 = .ok (.getfield 22, 3) := by decide +kernel
theorem dX3_codeByte_36 : decode cX3_codeByte 36 = .ok (.iload_n 1, 1) := by decide +kernel
theorem dX3_codeByte_37 : decode cX3_codeByte 37 = .ok (.iaload, 1) := by decide +kernel
theorem dX3_codeByte_38 : decode cX3_codeByte 38 = .ok (.iload_n 2, 1) := by decide +kernel
theorem dX3_codeByte_39 : decode cX3_codeByte 39 = .ok (.iadd, 1) := by decide +kernel
theorem dX3_codeByte_40 : decode cX3_codeByte 40 = .ok (.invokevirtual 93, 3) := by decide +kernel
theorem dX3_codeByte_43 : decode cX3_codeByte 43 = .ok (.ireturn, 1) := by decide +kernel
theorem dX3_leastLength_0 : decode cX3_leastLength 0 = .ok (.aload_n 0, 1) := by decide +kernel
theorem dX3_leastLength_1 : decode cX3_leastLength 1 = .ok (.getfield 12, 3) := by decide +kernel
theorem dX3_leastLength_4 : decode cX3_leastLength 4 = .ok (.iload_n 1, 1) := by decide +kernel
theorem dX3_leastLength_5 : decode cX3_leastLength 5 = .ok (.invokevirtual 74, 3) := by decide +kernel
theorem dX3_leastLength_8 : decode cX3_leastLength 8 = .ok (.ifCond .eq 20, 3) := by decide +kernel
theorem dX3_leastLength_11 : decode cX3_leastLength 11 = .ok (.iload_n 2, 1) := by decide +kernel
theorem dX3_leastLength_12 : decode cX3_leastLength 12 = .ok (.ifCond .lt 16, 3) := by decide +kernel
theorem dX3_leastLength_15 : decode cX3_leastLength 15 = .ok (.iload_n 2, 1) := by decide +kernel
theorem dX3_leastLength_16 : decode cX3_leastLength 16 = .ok (.aload_n 0, 1) := by decide +kernel
theorem dX3_leastLength_17 : decode cX3_leastLength 17 = .ok (.getfield 18, 3) := by decide +kernel
theorem dX3_leastLength_20 : decode cX3_leastLength 20 = .ok (.iload_n 1, 1) := by decide +kernel
theorem dX3_leastLength_21 : decode cX3_leastLength 21 = .ok (.iaload, 1) := by decide +kernel
theorem dX3_leastLength_22 : decode cX3_leastLength 22 = .ok (.invokestatic 85, 3) := by decide +kernel
theorem dX3_leastLength_25 : decode cX3_leastLength 25 = .ok (.if_icmp .le 6, 3) := by decide +kernel
theorem dX3_leastLength_28 : decode cX3_leastLength 28 = .ok (.ldc 78, 2) := by decide +kernel
theorem dX3_leastLength_30 : decode cX3_leastLength 30 = .ok (.ireturn, 1) := by decide +kernel
theorem dX3_leastLength_31 : decode cX3_leastLength 31 = .ok (.aload_n 0, 1) := by decide +kernel
theorem dX3_leastLength_32 : decode cX3_leastLength 32 = .ok (.getfield 28, 3) := by decide +kernel
theorem dX3_leastLength_35 : decode cX3_leastLength 35 = .ok (.iload_n 1, 1) := by decide +kernel
theorem dX3_leastLength_36 : decode cX3_leastLength 36 = .ok (.bipush 35, 2) := by decide +kernel
theorem dX3_leastLength_38 : decode cX3_leastLength 38 = .ok (.imul, 1) := by decide +kernel
theorem dX3_leastLength_39 : decode cX3_leastLength 39 = .ok (.iload_n 2, 1) := by decide +kernel
theorem dX3_leastLength_40 : decode cX3_leastLength 40 = .ok (.iadd, 1) := by decide +kernel
theorem dX3_leastLength_41 : decode cX3_leastLength 41 = .ok (.iaload, 1) := by decide +kernel
theorem dX3_leastLength_42 : decode cX3_leastLength 42 = .ok (.ireturn, 1) := by decide +kernel
theorem dX3_pack_0 : decode cX3_pack 0 = .ok (.aload_n 0, 1) := by decide +kernel
theorem dX3_pack_1 : decode cX3_pack 1 = .ok (.getfield 12, 3) := by decide +kernel
theorem dX3_pack_4 : decode cX3_pack 4 = .ok (.aload_n 1, 1) := by decide +kernel
theorem dX3_pack_5 : decode cX3_pack 5 = .ok (.getfield 95, 3) := by decide +kernel
theorem dX3_pack_8 : decode cX3_pack 8 = .ok (.aload_n 1, 1) := by decide +kernel
theorem dX3_pack_9 : decode cX3_pack 9 = .ok (.getfield 101, 3) := by decide +kernel
theorem dX3_pack_12 : decode cX3_pack 12 = .ok (.iload_n 2, 1) := by decide +kernel
theorem dX3_pack_13 : decode cX3_pack 13 = .ok (.invokevirtual 104, 3) := by decide +kernel
theorem dX3_pack_16 : decode cX3_pack 16 = .ok (.aload_n 0, 1) := by decide +kernel
theorem dX3_pack_17 : decode cX3_pack 17 = .ok (.getfield 12, 3) := by decide +kernel
theorem dX3_pack_20 : decode cX3_pack 20 = .ok (.aload_n 1, 1) := by decide +kernel
theorem dX3_pack_21 : decode cX3_pack 21 = .ok (.invokevirtual 108, 3) := by decide +kernel
theorem dX3_pack_24 : decode cX3_pack 24 = .ok (.aload_n 0, 1) := by decide +kernel
theorem dX3_pack_25 : decode cX3_pack 25 = .ok (.getfield 12, 3) := by decide +kernel
theorem dX3_pack_28 : decode cX3_pack 28 = .ok (.invokevirtual 112, 3) := by decide +kernel
theorem dX3_pack_31 : decode cX3_pack 31 = .ok (.aload_n 0, 1) := by decide +kernel
theorem dX3_pack_32 : decode cX3_pack 32 = .ok (.getfield 40, 3) := by decide +kernel
theorem dX3_pack_35 : decode cX3_pack 35 = .ok (.invokevirtual 115, 3) := by decide +kernel
theorem dX3_pack_38 : decode cX3_pack 38 = .ok (.iconst 0, 1) := by decide +kernel
theorem dX3_pack_39 : decode cX3_pack 39 = .ok (.istore 5, 2) := by decide +kernel
theorem dX3_pack_41 : decode cX3_pack 41 = .ok (.iload 5, 2) := by decide +kernel
theorem dX3_pack_43 : decode cX3_pack 43 = .ok (.aload_n 0, 1) := by decide +kernel
theorem dX3_pack_44 : decode cX3_pack 44 = .ok (.getfield 12, 3) := by decide +kernel
theorem dX3_pack_47 : decode cX3_pack 47 = .ok (.getfield 118, 3) := by decide +kernel
theorem dX3_pack_50 : decode cX3_pack 50 = .ok (.if_icmp .ge 50, 3) := by decide +kernel
theorem dX3_pack_53 : decode cX3_pack 53 = .ok (.aload_n 0, 1) := by decide +kernel
theorem dX3_pack_54 : decode cX3_pack 54 = .ok (.getfield 18, 3) := by decide +kernel
theorem dX3_pack_57 : decode cX3_pack 57 = .ok (.iload 5, 2) := by decide +kernel
theorem dX3_pack_59 : decode cX3_pack 59 = .ok (.aload_n 0, 1) := by decide +kernel
theorem dX3_pack_60 : decode cX3_pack 60 = .ok (.iload 5, 2) := by decide +kernel
theorem dX3_pack_62 : decode cX3_pack 62 = .ok (.invokevirtual 121, 3) := by decide +kernel
theorem dX3_pack_65 : decode cX3_pack 65 = .ok (.iastore, 1) := by decide +kernel
theorem dX3_pack_66 : decode cX3_pack 66 = .ok (.aload_n 0, 1) := by decide +kernel
theorem dX3_pack_67 : decode cX3_pack 67 = .ok (.getfield 31, 3) := by decide +kernel
theorem dX3_pack_70 : decode cX3_pack 70 = .ok (.iload 5, 2) := by decide +kernel
theorem dX3_pack_72 : decode cX3_pack 72 = .ok (.iconst 0, 1) := by decide +kernel
theorem dX3_pack_73 : decode cX3_pack 73 = .ok (.iastore, 1) := by decide +kernel
theorem dX3_pack_74 : decode cX3_pack 74 = .ok (.aload_n 0, 1) := by decide +kernel
theorem dX3_pack_75 : decode cX3_pack 75 = .ok (.getfield 34, 3) := by decide +kernel
theorem dX3_pack_78 : decode cX3_pack 78 = .ok (.iload 5, 2) := by decide +kernel
theorem dX3_pack_80 : decode cX3_pack 80 = .ok (.iconst 3, 1) := by decide +kernel
theorem dX3_pack_81 : decode cX3_pack 81 = .ok (.iastore, 1) := by decide +kernel
theorem dX3_pack_82 : decode cX3_pack 82 = .ok (.aload_n 0, 1) := by decide +kernel
theorem dX3_pack_83 : decode cX3_pack 83 = .ok (.iload 5, 2) := by decide +kernel
theorem dX3_pack_85 : decode cX3_pack 85 = .ok (.invokevirtual 124, 3) := by decide +kernel
theorem dX3_pack_88 : decode cX3_pack 88 = .ok (.aload_n 0, 1) := by decide +kernel
theorem dX3_pack_89 : decode cX3_pack 89 = .ok (.iload 5, 2) := by decide +kernel
theorem dX3_pack_91 : decode cX3_pack 91 = .ok (.invokevirtual 128, 3) := by decide +kernel
theorem dX3_pack_94 : decode cX3_pack 94 = .ok (.iinc 5 1, 3) := by decide +kernel
theorem dX3_pack_97 : decode cX3_pack 97 = .ok (.goto (-56), 3) := by decide +kernel
theorem dX3_pack_100 : decode cX3_pack 100 = .ok (.aload 4, 2) := by decide +kernel
theorem dX3_pack_102 : decode cX3_pack 102 = .ok (.invokevirtual 115, 3) := by decide +kernel
theorem dX3_pack_105 : decode cX3_pack 105 = .ok (.aload 4, 2) := by decide +kernel
theorem dX3_pack_107 : decode cX3_pack 107 = .ok (.aload_n 1, 1) := by decide +kernel
theorem dX3_pack_108 : decode cX3_pack 108 = .ok (.getfield 95, 3) := by decide +kernel
theorem dX3_pack_111 : decode cX3_pack 111 = .ok (.invokevirtual 131, 3) := by decide +kernel
theorem dX3_pack_114 : decode cX3_pack 114 = .ok (.aload 4, 2) := by decide +kernel
theorem dX3_pack_116 : decode cX3_pack 116 = .ok (.aload_n 1, 1) := by decide +kernel
theorem dX3_pack_117 : decode cX3_pack 117 = .ok (.getfield 101, 3) := by decide +kernel
theorem dX3_pack_120 : decode cX3_pack 120 = .ok (.invokevirtual 131, 3) := by decide +kernel
theorem dX3_pack_123 : decode cX3_pack 123 = .ok (.aload 4, 2) := by decide +kernel
theorem dX3_pack_125 : decode cX3_pack 125 = .ok (.iload_n 2, 1) := by decide +kernel
theorem dX3_pack_126 : decode cX3_pack 126 = .ok (.invokevirtual 131, 3) := by decide +kernel
theorem dX3_pack_129 : decode cX3_pack 129 = .ok (.aload 4, 2) := by decide +kernel
theorem dX3_pack_131 : decode cX3_pack 131 = .ok (.iload_n 3, 1) := by decide +kernel
theorem dX3_pack_132 : decode cX3_pack 132 = .ok (.invokevirtual 131, 3) := by decide +kernel
theorem dX3_pack_135 : decode cX3_pack 135 = .ok (.iconst 1, 1) := by decide +kernel
theorem dX3_pack_136 : decode cX3_pack 136 = .ok (.istore 5, 2) := by decide +kernel
theorem dX3_pack_138 : decode cX3_pack 138 = .ok (.iload 5, 2) := by decide +kernel
theorem dX3_pack_140 : decode cX3_pack 140 = .ok (.iload_n 3, 1) := by decide +kernel
theorem dX3_pack_141 : decode cX3_pack 141 = .ok (.if_icmp .gt 35, 3) := by decide +kernel
theorem dX3_pack_144 : decode cX3_pack 144 = .ok (.iconst 0, 1) := by decide +kernel
theorem dX3_pack_145 : decode cX3_pack 145 = .ok (.istore 6, 2) := by decide +kernel
theorem dX3_pack_147 : decode cX3_pack 147 = .ok (.iload 6, 2) := by decide +kernel
theorem dX3_pack_149 : decode cX3_pack 149 = .ok (.iload_n 2, 1) := by decide +kernel
theorem dX3_pack_150 : decode cX3_pack 150 = .ok (.if_icmp .gt 20, 3) := by decide +kernel
theorem dX3_pack_153 : decode cX3_pack 153 = .ok (.aload_n 0, 1) := by decide +kernel
theorem dX3_pack_154 : decode cX3_pack 154 = .ok (.iload 6, 2) := by decide +kernel
theorem dX3_pack_156 : decode cX3_pack 156 = .ok (.iload 5, 2) := by decide +kernel
theorem dX3_pack_158 : decode cX3_pack 158 = .ok (.iload_n 3, 1) := by decide +kernel
theorem dX3_pack_159 : decode cX3_pack 159 = .ok (.aload 4, 2) := by decide +kernel
theorem dX3_pack_161 : decode cX3_pack 161 = .ok (.invokevirtual 134, 3) := by decide +kernel
theorem dX3_pack_164 : decode cX3_pack 164 = .ok (.iinc 6 1, 3) := by decide +kernel
theorem dX3_pack_167 : decode cX3_pack 167 = .ok (.goto (-20), 3) := by decide +kernel
theorem dX3_pack_170 : decode cX3_pack 170 = .ok (.iinc 5 1, 3) := by decide +kernel
theorem dX3_pack_173 : decode cX3_pack 173 = .ok (.goto (-35), 3) := by decide +kernel
theorem dX3_pack_176 : decode cX3_pack 176 = .ok (.return_, 1) := by decide +kernel
theorem dX3_planesOf_0 : decode cX3_planesOf 0 = .ok (.iconst 0, 1) := by decide +kernel
theorem dX3_planesOf_1 : decode cX3_planesOf 1 = .ok (.istore_n 2, 1) := by decide +kernel
theorem dX3_planesOf_2 : decode cX3_planesOf 2 = .ok (.iconst 0, 1) := by decide +kernel
theorem dX3_planesOf_3 : decode cX3_planesOf 3 = .ok (.istore_n 3, 1) := by decide +kernel
theorem dX3_planesOf_4 : decode cX3_planesOf 4 = .ok (.iload_n 3, 1) := by decide +kernel
theorem dX3_planesOf_5 : decode cX3_planesOf 5 = .ok (.aload_n 0, 1) := by decide +kernel
theorem dX3_planesOf_6 : decode cX3_planesOf 6 = .ok (.getfield 12, 3) := by decide +kernel
theorem dX3_planesOf_9 : decode cX3_planesOf 9 = .ok (.getfield 82, 3) := by decide +kernel
theorem dX3_planesOf_12 : decode cX3_planesOf 12 = .ok (.iload_n 1, 1) := by decide +kernel
theorem dX3_planesOf_13 : decode cX3_planesOf 13 = .ok (.iaload, 1) := by decide +kernel
theorem dX3_planesOf_14 : decode cX3_planesOf 14 = .ok (.if_icmp .ge 51, 3) := by decide +kernel
theorem dX3_planesOf_17 : decode cX3_planesOf 17 = .ok (.iconst 0, 1) := by decide +kernel
theorem dX3_planesOf_18 : decode cX3_planesOf 18 = .ok (.istore 4, 2) := by decide +kernel
theorem dX3_planesOf_20 : decode cX3_planesOf 20 = .ok (.iload 4, 2) := by decide +kernel
theorem dX3_planesOf_22 : decode cX3_planesOf 22 = .ok (.aload_n 0, 1) := by decide +kernel
theorem dX3_planesOf_23 : decode cX3_planesOf 23 = .ok (.getfield 12, 3) := by decide +kernel
theorem dX3_planesOf_26 : decode cX3_planesOf 26 = .ok (.getfield 79, 3) := by decide +kernel
theorem dX3_planesOf_29 : decode cX3_planesOf 29 = .ok (.iload_n 1, 1) := by decide +kernel
theorem dX3_planesOf_30 : decode cX3_planesOf 30 = .ok (.iaload, 1) := by decide +kernel
theorem dX3_planesOf_31 : decode cX3_planesOf 31 = .ok (.if_icmp .ge 28, 3) := by decide +kernel
theorem dX3_planesOf_34 : decode cX3_planesOf 34 = .ok (.iload_n 2, 1) := by decide +kernel
theorem dX3_planesOf_35 : decode cX3_planesOf 35 = .ok (.aload_n 0, 1) := by decide +kernel
theorem dX3_planesOf_36 : decode cX3_planesOf 36 = .ok (.getfield 12, 3) := by decide +kernel
theorem dX3_planesOf_39 : decode cX3_planesOf 39 = .ok (.iload_n 1, 1) := by decide +kernel
theorem dX3_planesOf_40 : decode cX3_planesOf 40 = .ok (.iload 4, 2) := by decide +kernel
theorem dX3_planesOf_42 : decode cX3_planesOf 42 = .ok (.iload_n 3, 1) := by decide +kernel
theorem dX3_planesOf_43 : decode cX3_planesOf 43 = .ok (.invokevirtual 89, 3) := by decide +kernel
theorem dX3_planesOf_46 : decode cX3_planesOf 46 = .ok (.invokestatic 138, 3) := by decide +kernel
theorem dX3_planesOf_49 : decode cX3_planesOf 49 = .ok (.invokestatic 143, 3) := by decide +kernel
theorem dX3_planesOf_52 : decode cX3_planesOf 52 = .ok (.istore_n 2, 1) := by decide +kernel
theorem dX3_planesOf_53 : decode cX3_planesOf 53 = .ok (.iinc 4 1, 3) := by decide +kernel
theorem dX3_planesOf_56 : decode cX3_planesOf 56 = .ok (.goto (-36), 3) := by decide +kernel
theorem dX3_planesOf_59 : decode cX3_planesOf 59 = .ok (.iinc 3 1, 3) := by decide +kernel
theorem dX3_planesOf_62 : decode cX3_planesOf 62 = .ok (.goto (-58), 3) := by decide +kernel
theorem dX3_planesOf_65 : decode cX3_planesOf 65 = .ok (.bipush 12, 2) := by decide +kernel
theorem dX3_planesOf_67 : decode cX3_planesOf 67 = .ok (.iload_n 2, 1) := by decide +kernel
theorem dX3_planesOf_68 : decode cX3_planesOf 68 = .ok (.invokestatic 147, 3) := by decide +kernel
theorem dX3_planesOf_71 : decode cX3_planesOf 71 = .ok (.invokestatic 150, 3) := by decide +kernel
theorem dX3_planesOf_74 : decode cX3_planesOf 74 = .ok (.ireturn, 1) := by decide +kernel
theorem dX3_tellBand_0 : decode cX3_tellBand 0 = .ok (.aload_n 0, 1) := by decide +kernel
theorem dX3_tellBand_1 : decode cX3_tellBand 1 = .ok (.getfield 22, 3) := by decide +kernel
theorem dX3_tellBand_4 : decode cX3_tellBand 4 = .ok (.iload_n 1, 1) := by decide +kernel
theorem dX3_tellBand_5 : decode cX3_tellBand 5 = .ok (.aload_n 0, 1) := by decide +kernel
theorem dX3_tellBand_6 : decode cX3_tellBand 6 = .ok (.getfield 40, 3) := by decide +kernel
theorem dX3_tellBand_9 : decode cX3_tellBand 9 = .ok (.invokevirtual 153, 3) := by decide +kernel
theorem dX3_tellBand_12 : decode cX3_tellBand 12 = .ok (.iastore, 1) := by decide +kernel
theorem dX3_tellBand_13 : decode cX3_tellBand 13 = .ok (.aload_n 0, 1) := by decide +kernel
theorem dX3_tellBand_14 : decode cX3_tellBand 14 = .ok (.getfield 25, 3) := by decide +kernel
theorem dX3_tellBand_17 : decode cX3_tellBand 17 = .ok (.iload_n 1, 1) := by decide +kernel
theorem dX3_tellBand_18 : decode cX3_tellBand 18 = .ok (.iconst 0, 1) := by decide +kernel
theorem dX3_tellBand_19 : decode cX3_tellBand 19 = .ok (.iastore, 1) := by decide +kernel
theorem dX3_tellBand_20 : decode cX3_tellBand 20 = .ok (.aload_n 0, 1) := by decide +kernel
theorem dX3_tellBand_21 : decode cX3_tellBand 21 = .ok (.getfield 47, 3) := by decide +kernel
theorem dX3_tellBand_24 : decode cX3_tellBand 24 = .ok (.invokevirtual 157, 3) := by decide +kernel
theorem dX3_tellBand_27 : decode cX3_tellBand 27 = .ok (.aload_n 0, 1) := by decide +kernel
theorem dX3_tellBand_28 : decode cX3_tellBand 28 = .ok (.getfield 18, 3) := by decide +kernel
theorem dX3_tellBand_31 : decode cX3_tellBand 31 = .ok (.iload_n 1, 1) := by decide +kernel
theorem dX3_tellBand_32 : decode cX3_tellBand 32 = .ok (.iaload, 1) := by decide +kernel
theorem dX3_tellBand_33 : decode cX3_tellBand 33 = .ok (.ifCond .ne 4, 3) := by decide +kernel
theorem dX3_tellBand_36 : decode cX3_tellBand 36 = .ok (.return_, 1) := by decide +kernel
theorem dX3_tellBand_37 : decode cX3_tellBand 37 = .ok (.aload_n 0, 1) := by decide +kernel
theorem dX3_tellBand_38 : decode cX3_tellBand 38 = .ok (.getfield 56, 3) := by decide +kernel
theorem dX3_tellBand_41 : decode cX3_tellBand 41 = .ok (.aload_n 0, 1) := by decide +kernel
theorem dX3_tellBand_42 : decode cX3_tellBand 42 = .ok (.getfield 12, 3) := by decide +kernel
theorem dX3_tellBand_45 : decode cX3_tellBand 45 = .ok (.getfield 79, 3) := by decide +kernel
theorem dX3_tellBand_48 : decode cX3_tellBand 48 = .ok (.iload_n 1, 1) := by decide +kernel
theorem dX3_tellBand_49 : decode cX3_tellBand 49 = .ok (.iaload, 1) := by decide +kernel
theorem dX3_tellBand_50 : decode cX3_tellBand 50 = .ok (.aload_n 0, 1) := by decide +kernel
theorem dX3_tellBand_51 : decode cX3_tellBand 51 = .ok (.getfield 12, 3) := by decide +kernel
theorem dX3_tellBand_54 : decode cX3_tellBand 54 = .ok (.getfield 82, 3) := by decide +kernel
theorem dX3_tellBand_57 : decode cX3_tellBand 57 = .ok (.iload_n 1, 1) := by decide +kernel
theorem dX3_tellBand_58 : decode cX3_tellBand 58 = .ok (.iaload, 1) := by decide +kernel
theorem dX3_tellBand_59 : decode cX3_tellBand 59 = .ok (.aload_n 0, 1) := by decide +kernel
theorem dX3_tellBand_60 : decode cX3_tellBand 60 = .ok (.getfield 12, 3) := by decide +kernel
theorem dX3_tellBand_63 : decode cX3_tellBand 63 = .ok (.iload_n 1, 1) := by decide +kernel
theorem dX3_tellBand_64 : decode cX3_tellBand 64 = .ok (.invokevirtual 158, 3) := by decide +kernel
theorem dX3_tellBand_67 : decode cX3_tellBand 67 = .ok (.invokevirtual 161, 3) := by decide +kernel
theorem dX3_tellBand_70 : decode cX3_tellBand 70 = .ok (.iconst 0, 1) := by decide +kernel
theorem dX3_tellBand_71 : decode cX3_tellBand 71 = .ok (.istore_n 2, 1) := by decide +kernel
theorem dX3_tellBand_72 : decode cX3_tellBand 72 = .ok (.iload_n 2, 1) := by decide +kernel
theorem dX3_tellBand_73 : decode cX3_tellBand 73 = .ok (.aload_n 0, 1) := by decide +kernel
theorem dX3_tellBand_74 : decode cX3_tellBand 74 = .ok (.getfield 12, 3) := by decide +kernel
theorem dX3_tellBand_77 : decode cX3_tellBand 77 = .ok (.getfield 82, 3) := by decide +kernel
theorem dX3_tellBand_80 : decode cX3_tellBand 80 = .ok (.iload_n 1, 1) := by decide +kernel
theorem dX3_tellBand_81 : decode cX3_tellBand 81 = .ok (.iaload, 1) := by decide +kernel
theorem dX3_tellBand_82 : decode cX3_tellBand 82 = .ok (.if_icmp .ge 49, 3) := by decide +kernel
theorem dX3_tellBand_85 : decode cX3_tellBand 85 = .ok (.iconst 0, 1) := by decide +kernel
theorem dX3_tellBand_86 : decode cX3_tellBand 86 = .ok (.istore_n 3, 1) := by decide +kernel
theorem dX3_tellBand_87 : decode cX3_tellBand 87 = .ok (.iload_n 3, 1) := by decide +kernel
theorem dX3_tellBand_88 : decode cX3_tellBand 88 = .ok (.aload_n 0, 1) := by decide +kernel
theorem dX3_tellBand_89 : decode cX3_tellBand 89 = .ok (.getfield 12, 3) := by decide +kernel
theorem dX3_tellBand_92 : decode cX3_tellBand 92 = .ok (.getfield 79, 3) := by decide +kernel
theorem dX3_tellBand_95 : decode cX3_tellBand 95 = .ok (.iload_n 1, 1) := by decide +kernel
theorem dX3_tellBand_96 : decode cX3_tellBand 96 = .ok (.iaload, 1) := by decide +kernel
theorem dX3_tellBand_97 : decode cX3_tellBand 97 = .ok (.if_icmp .ge 28, 3) := by decide +kernel
theorem dX3_tellBand_100 : decode cX3_tellBand 100 = .ok (.aload_n 0, 1) := by decide +kernel
theorem dX3_tellBand_101 : decode cX3_tellBand 101 = .ok (.getfield 56, 3) := by decide +kernel
theorem dX3_tellBand_104 : decode cX3_tellBand 104 = .ok (.iload_n 3, 1) := by decide +kernel
theorem dX3_tellBand_105 : decode cX3_tellBand 105 = .ok (.iload_n 2, 1) := by decide +kernel
theorem dX3_tellBand_106 : decode cX3_tellBand 106 = .ok (.aload_n 0, 1) := by decide +kernel
theorem dX3_tellBand_107 : decode cX3_tellBand 107 = .ok (.getfield 12, 3) := by decide +kernel
theorem dX3_tellBand_110 : decode cX3_tellBand 110 = .ok (.iload_n 1, 1) := by decide +kernel
theorem dX3_tellBand_111 : decode cX3_tellBand 111 = .ok (.iload_n 3, 1) := by decide +kernel
theorem dX3_tellBand_112 : decode cX3_tellBand 112 = .ok (.iload_n 2, 1) := by decide +kernel
theorem dX3_tellBand_113 : decode cX3_tellBand 113 = .ok (.invokevirtual 89, 3) := by decide +kernel
theorem dX3_tellBand_116 : decode cX3_tellBand 116 = .ok (.invokevirtual 164, 3) := by decide +kernel
theorem dX3_tellBand_119 : decode cX3_tellBand 119 = .ok (.iinc 3 1, 3) := by decide +kernel
theorem dX3_tellBand_122 : decode cX3_tellBand 122 = .ok (.goto (-35), 3) := by decide +kernel
theorem dX3_tellBand_125 : decode cX3_tellBand 125 = .ok (.iinc 2 1, 3) := by decide +kernel
theorem dX3_tellBand_128 : decode cX3_tellBand 128 = .ok (.goto (-56), 3) := by decide +kernel
theorem dX3_tellBand_131 : decode cX3_tellBand 131 = .ok (.iconst 0, 1) := by decide +kernel
theorem dX3_tellBand_132 : decode cX3_tellBand 132 = .ok (.istore_n 2, 1) := by decide +kernel
theorem dX3_tellBand_133 : decode cX3_tellBand 133 = .ok (.iload_n 2, 1) := by decide +kernel
theorem dX3_tellBand_134 : decode cX3_tellBand 134 = .ok (.aload_n 0, 1) := by decide +kernel
theorem dX3_tellBand_135 : decode cX3_tellBand 135 = .ok (.getfield 18, 3) := by decide +kernel
theorem dX3_tellBand_138 : decode cX3_tellBand 138 = .ok (.iload_n 1, 1) := by decide +kernel
theorem dX3_tellBand_139 : decode cX3_tellBand 139 = .ok (.iaload, 1) := by decide +kernel
theorem dX3_tellBand_140 : decode cX3_tellBand 140 = .ok (.invokestatic 85, 3) := by decide +kernel
theorem dX3_tellBand_143 : decode cX3_tellBand 143 = .ok (.if_icmp .ge 30, 3) := by decide +kernel
theorem dX3_tellBand_146 : decode cX3_tellBand 146 = .ok (.aload_n 0, 1) := by decide +kernel
theorem dX3_tellBand_147 : decode cX3_tellBand 147 = .ok (.getfield 56, 3) := by decide +kernel
theorem dX3_tellBand_150 : decode cX3_tellBand 150 = .ok (.iload_n 2, 1) := by decide +kernel
theorem dX3_tellBand_151 : decode cX3_tellBand 151 = .ok (.aload_n 0, 1) := by decide +kernel
theorem dX3_tellBand_152 : decode cX3_tellBand 152 = .ok (.getfield 18, 3) := by decide +kernel
theorem dX3_tellBand_155 : decode cX3_tellBand 155 = .ok (.iload_n 1, 1) := by decide +kernel
theorem dX3_tellBand_156 : decode cX3_tellBand 156 = .ok (.iaload, 1) := by decide +kernel
theorem dX3_tellBand_157 : decode cX3_tellBand 157 = .ok (.invokevirtual 167, 3) := by decide +kernel
theorem dX3_tellBand_160 : decode cX3_tellBand 160 = .ok (.aload_n 0, 1) := by decide +kernel
theorem dX3_tellBand_161 : decode cX3_tellBand 161 = .ok (.getfield 47, 3) := by decide +kernel
theorem dX3_tellBand_164 : decode cX3_tellBand 164 = .ok (.invokevirtual 171, 3) := by decide +kernel
theorem dX3_tellBand_167 : decode cX3_tellBand 167 = .ok (.iinc 2 1, 3) := by decide +kernel
theorem dX3_tellBand_170 : decode cX3_tellBand 170 = .ok (.goto (-37), 3) := by decide +kernel
theorem dX3_tellBand_173 : decode cX3_tellBand 173 = .ok (.aload_n 0, 1) := by decide +kernel
theorem dX3_tellBand_174 : decode cX3_tellBand 174 = .ok (.getfield 63, 3) := by decide +kernel
theorem dX3_tellBand_177 : decode cX3_tellBand 177 = .ok (.invokevirtual 174, 3) := by decide +kernel
theorem dX3_tellBand_180 : decode cX3_tellBand 180 = .ok (.aload_n 0, 1) := by decide +kernel
theorem dX3_tellBand_181 : decode cX3_tellBand 181 = .ok (.getfield 47, 3) := by decide +kernel
theorem dX3_tellBand_184 : decode cX3_tellBand 184 = .ok (.aload_n 0, 1) := by decide +kernel
theorem dX3_tellBand_185 : decode cX3_tellBand 185 = .ok (.getfield 63, 3) := by decide +kernel
theorem dX3_tellBand_188 : decode cX3_tellBand 188 = .ok (.invokevirtual 176, 3) := by decide +kernel
theorem dX3_tellBand_191 : decode cX3_tellBand 191 = .ok (.aload_n 0, 1) := by decide +kernel
theorem dX3_tellBand_192 : decode cX3_tellBand 192 = .ok (.getfield 63, 3) := by decide +kernel
theorem dX3_tellBand_195 : decode cX3_tellBand 195 = .ok (.invokevirtual 180, 3) := by decide +kernel
theorem dX3_tellBand_198 : decode cX3_tellBand 198 = .ok (.aload_n 0, 1) := by decide +kernel
theorem dX3_tellBand_199 : decode cX3_tellBand 199 = .ok (.getfield 25, 3) := by decide +kernel
theorem dX3_tellBand_202 : decode cX3_tellBand 202 = .ok (.iload_n 1, 1) := by decide +kernel
theorem dX3_tellBand_203 : decode cX3_tellBand 203 = .ok (.aload_n 0, 1) := by decide +kernel
theorem dX3_tellBand_204 : decode cX3_tellBand 204 = .ok (.getfield 63, 3) := by decide +kernel
theorem dX3_tellBand_207 : decode cX3_tellBand 207 = .ok (.aload_n 0, 1) := by decide +kernel
theorem dX3_tellBand_208 : decode cX3_tellBand 208 = .ok (.getfield 40, 3) := by decide +kernel
theorem dX3_tellBand_211 : decode cX3_tellBand 211 = .ok (.invokevirtual 183, 3) := by decide +kernel
theorem dX3_tellBand_214 : decode cX3_tellBand 214 = .ok (.iastore, 1) := by decide +kernel
theorem dX3_tellBand_215 : decode cX3_tellBand 215 = .ok (.return_, 1) := by decide +kernel
theorem dX3_findLeasts_0 : decode cX3_findLeasts 0 = .ok (.iload_n 1, 1) := by decide +kernel
theorem dX3_findLeasts_1 : decode cX3_findLeasts 1 = .ok (.bipush 35, 2) := by decide +kernel
theorem dX3_findLeasts_3 : decode cX3_findLeasts 3 = .ok (.imul, 1) := by decide +kernel
theorem dX3_findLeasts_4 : decode cX3_findLeasts 4 = .ok (.istore_n 2, 1) := by decide +kernel
theorem dX3_findLeasts_5 : decode cX3_findLeasts 5 = .ok (.aload_n 0, 1) := by decide +kernel
theorem dX3_findLeasts_6 : decode cX3_findLeasts 6 = .ok (.getfield 18, 3) := by decide +kernel
theorem dX3_findLeasts_9 : decode cX3_findLeasts 9 = .ok (.iload_n 1, 1) := by decide +kernel
theorem dX3_findLeasts_10 : decode cX3_findLeasts 10 = .ok (.iaload, 1) := by decide +kernel
theorem dX3_findLeasts_11 : decode cX3_findLeasts 11 = .ok (.invokestatic 85, 3) := by decide +kernel
theorem dX3_findLeasts_14 : decode cX3_findLeasts 14 = .ok (.istore_n 3, 1) := by decide +kernel
theorem dX3_findLeasts_15 : decode cX3_findLeasts 15 = .ok (.aload_n 0, 1) := by decide +kernel
theorem dX3_findLeasts_16 : decode cX3_findLeasts 16 = .ok (.getfield 28, 3) := by decide +kernel
theorem dX3_findLeasts_19 : decode cX3_findLeasts 19 = .ok (.iload_n 2, 1) := by decide +kernel
theorem dX3_findLeasts_20 : decode cX3_findLeasts 20 = .ok (.iconst 0, 1) := by decide +kernel
theorem dX3_findLeasts_21 : decode cX3_findLeasts 21 = .ok (.iastore, 1) := by decide +kernel
theorem dX3_findLeasts_22 : decode cX3_findLeasts 22 = .ok (.aload_n 0, 1) := by decide +kernel
theorem dX3_findLeasts_23 : decode cX3_findLeasts 23 = .ok (.getfield 70, 3) := by decide +kernel
theorem dX3_findLeasts_26 : decode cX3_findLeasts 26 = .ok (.invokevirtual 187, 3) := by decide +kernel
theorem dX3_findLeasts_29 : decode cX3_findLeasts 29 = .ok (.aload_n 0, 1) := by decide +kernel
theorem dX3_findLeasts_30 : decode cX3_findLeasts 30 = .ok (.getfield 70, 3) := by decide +kernel
theorem dX3_findLeasts_33 : decode cX3_findLeasts 33 = .ok (.aload_n 0, 1) := by decide +kernel
theorem dX3_findLeasts_34 : decode cX3_findLeasts 34 = .ok (.getfield 40, 3) := by decide +kernel
theorem dX3_findLeasts_37 : decode cX3_findLeasts 37 = .ok (.aload_n 0, 1) := by decide +kernel
theorem dX3_findLeasts_38 : decode cX3_findLeasts 38 = .ok (.getfield 22, 3) := by decide +kernel
theorem dX3_findLeasts_41 : decode cX3_findLeasts 41 = .ok (.iload_n 1, 1) := by decide +kernel
theorem dX3_findLeasts_42 : decode cX3_findLeasts 42 = .ok (.iaload, 1) := by decide +kernel
theorem dX3_findLeasts_43 : decode cX3_findLeasts 43 = .ok (.aload_n 0, 1) := by decide +kernel
theorem dX3_findLeasts_44 : decode cX3_findLeasts 44 = .ok (.getfield 25, 3) := by decide +kernel
theorem dX3_findLeasts_47 : decode cX3_findLeasts 47 = .ok (.iload_n 1, 1) := by decide +kernel
theorem dX3_findLeasts_48 : decode cX3_findLeasts 48 = .ok (.iaload, 1) := by decide +kernel
theorem dX3_findLeasts_49 : decode cX3_findLeasts 49 = .ok (.invokevirtual 188, 3) := by decide +kernel
theorem dX3_findLeasts_52 : decode cX3_findLeasts 52 = .ok (.iconst 0, 1) := by decide +kernel
theorem dX3_findLeasts_53 : decode cX3_findLeasts 53 = .ok (.istore 4, 2) := by decide +kernel
theorem dX3_findLeasts_55 : decode cX3_findLeasts 55 = .ok (.iconst 0, 1) := by decide +kernel
theorem dX3_findLeasts_56 : decode cX3_findLeasts 56 = .ok (.istore 5, 2) := by decide +kernel
theorem dX3_findLeasts_58 : decode cX3_findLeasts 58 = .ok (.iload 5, 2) := by decide +kernel
theorem dX3_findLeasts_60 : decode cX3_findLeasts 60 = .ok (.aload_n 0, 1) := by decide +kernel
theorem dX3_findLeasts_61 : decode cX3_findLeasts 61 = .ok (.getfield 25, 3) := by decide +kernel
theorem dX3_findLeasts_64 : decode cX3_findLeasts 64 = .ok (.iload_n 1, 1) := by decide +kernel
theorem dX3_findLeasts_65 : decode cX3_findLeasts 65 = .ok (.iaload, 1) := by decide +kernel
theorem dX3_findLeasts_66 : decode cX3_findLeasts 66 = .ok (.if_icmp .gt 61, 3) := by decide +kernel
theorem dX3_findLeasts_69 : decode cX3_findLeasts 69 = .ok (.iload 4, 2) := by decide +kernel
theorem dX3_findLeasts_71 : decode cX3_findLeasts 71 = .ok (.iload_n 3, 1) := by decide +kernel
theorem dX3_findLeasts_72 : decode cX3_findLeasts 72 = .ok (.if_icmp .ge 55, 3) := by decide +kernel
theorem dX3_findLeasts_75 : decode cX3_findLeasts 75 = .ok (.aload_n 0, 1) := by decide +kernel
theorem dX3_findLeasts_76 : decode cX3_findLeasts 76 = .ok (.getfield 70, 3) := by decide +kernel
theorem dX3_findLeasts_79 : decode cX3_findLeasts 79 = .ok (.iload 5, 2) := by decide +kernel
theorem dX3_findLeasts_81 : decode cX3_findLeasts 81 = .ok (.invokevirtual 192, 3) := by decide +kernel
theorem dX3_findLeasts_84 : decode cX3_findLeasts 84 = .ok (.aload_n 0, 1) := by decide +kernel
theorem dX3_findLeasts_85 : decode cX3_findLeasts 85 = .ok (.getfield 47, 3) := by decide +kernel
theorem dX3_findLeasts_88 : decode cX3_findLeasts 88 = .ok (.aload_n 0, 1) := by decide +kernel
theorem dX3_findLeasts_89 : decode cX3_findLeasts 89 = .ok (.getfield 70, 3) := by decide +kernel
theorem dX3_findLeasts_92 : decode cX3_findLeasts 92 = .ok (.invokevirtual 194, 3) := by decide +kernel
theorem dX3_findLeasts_95 : decode cX3_findLeasts 95 = .ok (.istore 6, 2) := by decide +kernel
theorem dX3_findLeasts_97 : decode cX3_findLeasts 97 = .ok (.iload 4, 2) := by decide +kernel
theorem dX3_findLeasts_99 : decode cX3_findLeasts 99 = .ok (.iload 6, 2) := by decide +kernel
theorem dX3_findLeasts_101 : decode cX3_findLeasts 101 = .ok (.if_icmp .ge 20, 3) := by decide +kernel
theorem dX3_findLeasts_104 : decode cX3_findLeasts 104 = .ok (.iinc 4 1, 3) := by decide +kernel
theorem dX3_findLeasts_107 : decode cX3_findLeasts 107 = .ok (.aload_n 0, 1) := by decide +kernel
theorem dX3_findLeasts_108 : decode cX3_findLeasts 108 = .ok (.getfield 28, 3) := by decide +kernel
theorem dX3_findLeasts_111 : decode cX3_findLeasts 111 = .ok (.iload_n 2, 1) := by decide +kernel
theorem dX3_findLeasts_112 : decode cX3_findLeasts 112 = .ok (.iload 4, 2) := by decide +kernel
theorem dX3_findLeasts_114 : decode cX3_findLeasts 114 = .ok (.iadd, 1) := by decide +kernel
theorem dX3_findLeasts_115 : decode cX3_findLeasts 115 = .ok (.iload 5, 2) := by decide +kernel
theorem dX3_findLeasts_117 : decode cX3_findLeasts 117 = .ok (.iastore, 1) := by decide +kernel
theorem dX3_findLeasts_118 : decode cX3_findLeasts 118 = .ok (.goto (-21), 3) := by decide +kernel
theorem dX3_findLeasts_121 : decode cX3_findLeasts 121 = .ok (.iinc 5 1, 3) := by decide +kernel
theorem dX3_findLeasts_124 : decode cX3_findLeasts 124 = .ok (.goto (-66), 3) := by decide +kernel
theorem dX3_findLeasts_127 : decode cX3_findLeasts 127 = .ok (.return_, 1) := by decide +kernel
theorem dX3_writePacket_0 : decode cX3_writePacket 0 = .ok (.iconst 0, 1) := by decide +kernel
theorem dX3_writePacket_1 : decode cX3_writePacket 1 = .ok (.istore 5, 2) := by decide +kernel
theorem dX3_writePacket_3 : decode cX3_writePacket 3 = .ok (.iload_n 1, 1) := by decide +kernel
theorem dX3_writePacket_4 : decode cX3_writePacket 4 = .ok (.invokestatic 198, 3) := by decide +kernel
theorem dX3_writePacket_7 : decode cX3_writePacket 7 = .ok (.istore 6, 2) := by decide +kernel
theorem dX3_writePacket_9 : decode cX3_writePacket 9 = .ok (.iload 6, 2) := by decide +kernel
theorem dX3_writePacket_11 : decode cX3_writePacket 11 = .ok (.iload_n 1, 1) := by decide +kernel
theorem dX3_writePacket_12 : decode cX3_writePacket 12 = .ok (.invokestatic 201, 3) := by decide +kernel
theorem dX3_writePacket_15 : decode cX3_writePacket 15 = .ok (.if_icmp .gt 39, 3) := by decide +kernel
theorem dX3_writePacket_18 : decode cX3_writePacket 18 = .ok (.iload 5, 2) := by decide +kernel
theorem dX3_writePacket_20 : decode cX3_writePacket 20 = .ok (.ifCond .ne 21, 3) := by decide +kernel
